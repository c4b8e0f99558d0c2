theorem dX11_init_0 : decode cX11_init 0 = .ok (.aload_n 0, 1) := by decide +kernel
theorem dX11_init_1 : decode cX11_init 1 = .ok (.invokespecial 1, 3) := by decide +kernel
theorem dX11_init_4 : decode cX11_init 4 = .ok (.aload_n 0, 1) := by decide +kernel
theorem dX11_init_5 : decode cX11_init 5 = .ok (.sipush 390, 3) := by decide +kernel
theorem dX11_init_8 : decode cX11_init 8 = .ok (.newarray .int, 2) := by decide +kernel
theorem dX11_init_10 : decode cX11_init 10 = .ok (.putfield 7, 3) := by decide +kernel
theorem dX11_init_13 : decode cX11_init 13 = .ok (.aload_n 0, 1) := by decide +kernel
theorem dX11_init_14 : decode cX11_init 14 = .ok (.sipush 390, 3) := by decide +kernel
theorem dX11_init_17 : decode cX11_init 17 = .ok (.newarray .int, 2) := by decide +kernel
theorem dX11_init_19 : decode cX11_init 19 = .ok (.putfield 13, 3) := by decide +kernel
theorem dX11_init_22 : decode cX11_init 22 = .ok (.aload_n 0, 1) := by decide +kernel
theorem dX11_init_23 : decode cX11_init 23 = .ok (.sipush 390, 3) := by decide +kernel
theorem dX11_init_26 : decode cX11_init 26 = .ok (.newarray .int, 2) := by decide +kernel
theorem dX11_init_28 : decode cX11_init 28 = .ok (.putfield 16, 3) := by decide +kernel
theorem dX11_init_31 : decode cX11_init 31 = .ok (.aload_n 0, 1) := by decide +kernel
theorem dX11_init_32 : decode cX11_init 32 = .ok (.sipush 4680, 3) := by decide +kernel
theorem dX11_init_35 : decode cX11_init 35 = .ok (.newarray .int, 2) := by decide +kernel
theorem dX11_init_37 : decode cX11_init 37 = .ok (.putfield 19, 3) := by decide +kernel
theorem dX11_init_40 : decode cX11_init 40 = .ok (.aload_n 0, 1) := by decide +kernel
theorem dX11_init_41 : decode cX11_init 41 = .ok (.sipush 900, 3) := by decide +kernel
theorem dX11_init_44 : decode cX11_init 44 = .ok (.newarray .int, 2) := by decide +kernel
theorem dX11_init_46 : decode cX11_init 46 = .ok (.putfield 22, 3) := by decide +kernel
theorem dX11_init_49 : decode cX11_init 49 = .ok (.aload_n 0, 1) := by decide +kernel
theorem dX11_init_50 : decode cX11_init 50 = .ok (.bipush 18, 2) := by decide +kernel
theorem dX11_init_52 : decode cX11_init 52 = .ok (.newarray .long, 2) := by decide +kernel
theorem dX11_init_54 : decode cX11_init 54 = .ok (.putfield 25, 3) := by decide +kernel
theorem dX11_init_57 : decode cX11_init 57 = .ok (.aload_n 0, 1) := by decide +kernel
theorem dX11_init_58 : decode cX11_init 58 = .ok (.bipush 18, 2) := by decide +kernel
theorem dX11_init_60 : decode cX11_init 60 = .ok (.newarray .long, 2) := by decide +kernel
theorem dX11_init_62 : decode cX11_init 62 = .ok (.putfield 29, 3) := by decide +kernel
theorem dX11_init_65 : decode cX11_init 65 = .ok (.aload_n 0, 1) := by decide +kernel
theorem dX11_init_66 : decode cX11_init 66 = .ok (.iconst (-1), 1) := by decide +kernel
theorem dX11_init_67 : decode cX11_init 67 = .ok (.putfield 32, 3) := by decide +kernel
theorem dX11_init_70 : decode cX11_init 70 = .ok (.aload_n 0, 1) := by decide +kernel
theorem dX11_init_71 : decode cX11_init 71 = .ok (.iconst (-1), 1) := by decide +kernel
theorem dX11_init_72 : decode cX11_init 72 = .ok (.putfield 36, 3) := by decide +kernel
theorem dX11_init_75 : decode cX11_init 75 = .ok (.aload_n 0, 1) := by decide +kernel
theorem dX11_init_76 : decode cX11_init 76 = .ok (.sipush 9216, 3) := by decide +kernel
theorem dX11_init_79 : decode cX11_init 79 = .ok (.newarray .int, 2) := by decide +kernel
theorem dX11_init_81 : decode cX11_init 81 = .ok (.putfield 39, 3) := by decide +kernel
theorem dX11_init_84 : decode cX11_init 84 = .ok (.aload_n 0, 1) := by decide +kernel
theorem dX11_init_85 : decode cX11_init 85 = .ok (.bipush 8, 2) := by decide +kernel
theorem dX11_init_87 : decode cX11_init 87 = .ok (.newarray .int, 2) := by decide +kernel
theorem dX11_init_89 : decode cX11_init 89 = .ok (.putfield 42, 3) := by decide +kernel
theorem dX11_init_92 : decode cX11_init 92 = .ok (.aload_n 0, 1) := by decide +kernel
theorem dX11_init_93 : decode cX11_init 93 = .ok (.bipush 8, 2) := by decide +kernel
theorem dX11_init_95 : decode cX11_init 95 = .ok (.newarray .int, 2) := by decide +kernel
theorem dX11_init_97 : decode cX11_init 97 = .ok (.putfield 45, 3) := by decide +kernel
theorem dX11_init_100 : decode cX11_init 100 = .ok (.aload_n 0, 1) := by decide +kernel
theorem dX11_init_101 : decode cX11_init 101 = .ok (.bipush 8, 2) := by decide +kernel
theorem dX11_init_103 : decode cX11_init 103 = .ok (.newarray .int, 2) := by decide +kernel
theorem dX11_init_105 : decode cX11_init 105 = .ok (.putfield 48, 3) := by decide +kernel
theorem dX11_init_108 : decode cX11_init 108 = .ok (.aload_n 0, 1) := by decide +kernel
theorem dX11_init_109 : decode cX11_init 109 = .ok (.bipush 8, 2) := by decide +kernel
theorem dX11_init_111 : decode cX11_init 111 = .ok (.newarray .int, 2) := by decide +kernel
theorem dX11_init_113 : decode cX11_init 113 = .ok (.putfield 51, 3) := by decide +kernel
theorem dX11_init_116 : decode cX11_init 116 = .ok (.aload_n 0, 1) := by decide +kernel
theorem dX11_init_117 : decode cX11_init 117 = .ok (.bipush 8, 2) := by decide +kernel
theorem dX11_init_119 : decode cX11_init 119 = .ok (.newarray .int, 2) := by decide +kernel
theorem dX11_init_121 : decode cX11_init 121 = .ok (.putfield 54, 3) := by decide +kernel
theorem dX11_init_124 : decode cX11_init 124 = .ok (.aload_n 0, 1) := by decide +kernel
theorem dX11_init_125 : decode cX11_init 125 = .ok (.sipush 1800, 3) := by decide +kernel
theorem dX11_init_128 : decode cX11_init 128 = .ok (.newarray .byte, 2) := by decide +kernel
theorem dX11_init_130 : decode cX11_init 130 = .ok (.putfield 57, 3) := by decide +kernel
theorem dX11_init_133 : decode cX11_init 133 = .ok (.aload_n 0, 1) := by decide +kernel
theorem dX11_init_134 : decode cX11_init 134 = .ok (.getfield 7, 3) := by decide +kernel
theorem dX11_init_137 : decode cX11_init 137 = .ok (.invokestatic 61, 3) := by decide +kernel
theorem dX11_init_140 : decode cX11_init 140 = .ok (.return_, 1) := by decide +kernel
theorem dX11_plain_0 : decode cX11_plain 0 = .ok (.iconst 0, 1) := by decide +kernel
theorem dX11_plain_1 : decode cX11_plain 1 = .ok (.istore_n 1, 1) := by decide +kernel
theorem dX11_plain_2 : decode cX11_plain 2 = .ok (.iload_n 1, 1) := by decide +kernel
theorem dX11_plain_3 : decode cX11_plain 3 = .ok (.sipush 390, 3) := by decide +kernel
theorem dX11_plain_6 : decode cX11_plain 6 = .ok (.if_icmp .ge 13, 3) := by decide +kernel
theorem dX11_plain_9 : decode cX11_plain 9 = .ok (.aload_n 0, 1) := by decide +kernel
theorem dX11_plain_10 : decode cX11_plain 10 = .ok (.iload_n 1, 1) := by decide +kernel
theorem dX11_plain_11 : decode cX11_plain 11 = .ok (.iconst 0, 1) := by decide +kernel
theorem dX11_plain_12 : decode cX11_plain 12 = .ok (.iastore, 1) := by decide +kernel
theorem dX11_plain_13 : decode cX11_plain 13 = .ok (.iinc 1 1, 3) := by decide +kernel
theorem dX11_plain_16 : decode cX11_plain 16 = .ok (.goto (-14), 3) := by decide +kernel
theorem dX11_plain_19 : decode cX11_plain 19 = .ok (.aload_n 0, 1) := by decide +kernel
theorem dX11_plain_20 : decode cX11_plain 20 = .ok (.sipush 224, 3) := by decide +kernel
theorem dX11_plain_23 : decode cX11_plain 23 = .ok (.iconst 3, 1) := by decide +kernel
theorem dX11_plain_24 : decode cX11_plain 24 = .ok (.iastore, 1) := by decide +kernel
theorem dX11_plain_25 : decode cX11_plain 25 = .ok (.aload_n 0, 1) := by decide +kernel
theorem dX11_plain_26 : decode cX11_plain 26 = .ok (.sipush 225, 3) := by decide +kernel
theorem dX11_plain_29 : decode cX11_plain 29 = .ok (.iconst 4, 1) := by decide +kernel
theorem dX11_plain_30 : decode cX11_plain 30 = .ok (.iastore, 1) := by decide +kernel
theorem dX11_plain_31 : decode cX11_plain 31 = .ok (.aload_n 0, 1) := by decide +kernel
theorem dX11_plain_32 : decode cX11_plain 32 = .ok (.sipush 228, 3) := by decide +kernel
theorem dX11_plain_35 : decode cX11_plain 35 = .ok (.sipush 999, 3) := by decide +kernel
theorem dX11_plain_38 : decode cX11_plain 38 = .ok (.iastore, 1) := by decide +kernel
theorem dX11_plain_39 : decode cX11_plain 39 = .ok (.aload_n 0, 1) := by decide +kernel
theorem dX11_plain_40 : decode cX11_plain 40 = .ok (.sipush 229, 3) := by decide +kernel
theorem dX11_plain_43 : decode cX11_plain 43 = .ok (.iconst 2, 1) := by decide +kernel
theorem dX11_plain_44 : decode cX11_plain 44 = .ok (.iastore, 1) := by decide +kernel
theorem dX11_plain_45 : decode cX11_plain 45 = .ok (.return_, 1) := by decide +kernel
theorem dX11_thrown_0 : decode cX11_thrown 0 = .ok (.aload_n 0, 1) := by decide +kernel
theorem dX11_thrown_1 : decode cX11_thrown 1 = .ok (.getfield 65, 3) := by decide +kernel
theorem dX11_thrown_4 : decode cX11_thrown 4 = .ok (.ireturn, 1) := by decide +kernel
theorem dX11_status_0 : decode cX11_status 0 = .ok (.aload_n 0, 1) := by decide +kernel
theorem dX11_status_1 : decode cX11_status 1 = .ok (.iconst 0, 1) := by decide +kernel
theorem dX11_status_2 : decode cX11_status 2 = .ok (.putfield 65, 3) := by decide +kernel
theorem dX11_status_5 : decode cX11_status 5 = .ok (.aload_n 0, 1) := by decide +kernel
theorem dX11_status_6 : decode cX11_status 6 = .ok (.getfield 68, 3) := by decide +kernel
theorem dX11_status_9 : decode cX11_status 9 = .ok (.ireturn, 1) := by decide +kernel
theorem dX11_refuse_0 : decode cX11_refuse 0 = .ok (.aload_n 0, 1) := by decide +kernel
theorem dX11_refuse_1 : decode cX11_refuse 1 = .ok (.iconst 0, 1) := by decide +kernel
theorem dX11_refuse_2 : decode cX11_refuse 2 = .ok (.putfield 65, 3) := by decide +kernel
theorem dX11_refuse_5 : decode cX11_refuse 5 = .ok (.aload_n 0, 1) := by decide +kernel
theorem dX11_refuse_6 : decode cX11_refuse 6 = .ok (.iload_n 1, 1) := by decide +kernel
theorem dX11_refuse_7 : decode cX11_refuse 7 = .ok (.putfield 68, 3) := by decide +kernel
theorem dX11_refuse_10 : decode cX11_refuse 10 = .ok (.iconst (-1), 1) := by decide +kernel
theorem dX11_refuse_11 : decode cX11_refuse 11 = .ok (.ireturn, 1) := by decide +kernel
theorem dX11_gives_0 : decode cX11_gives 0 = .ok (.aload_n 0, 1) := by decide +kernel
theorem dX11_gives_1 : decode cX11_gives 1 = .ok (.iconst 0, 1) := by decide +kernel
theorem dX11_gives_2 : decode cX11_gives 2 = .ok (.putfield 65, 3) := by decide +kernel
theorem dX11_gives_5 : decode cX11_gives 5 = .ok (.aload_n 0, 1) := by decide +kernel
theorem dX11_gives_6 : decode cX11_gives 6 = .ok (.iconst 0, 1) := by decide +kernel
theorem dX11_gives_7 : decode cX11_gives 7 = .ok (.putfield 68, 3) := by decide +kernel
theorem dX11_gives_10 : decode cX11_gives 10 = .ok (.iload_n 1, 1) := by decide +kernel
theorem dX11_gives_11 : decode cX11_gives 11 = .ok (.ireturn, 1) := by decide +kernel
theorem dX11_isFrom_0 : decode cX11_isFrom 0 = .ok (.iload_n 0, 1) := by decide +kernel
theorem dX11_isFrom_1 : decode cX11_isFrom 1 = .ok (.iload_n 1, 1) := by decide +kernel
theorem dX11_isFrom_2 : decode cX11_isFrom 2 = .ok (.if_icmp .lt 12, 3) := by decide +kernel
theorem dX11_isFrom_5 : decode cX11_isFrom 5 = .ok (.iload_n 0, 1) := by decide +kernel
theorem dX11_isFrom_6 : decode cX11_isFrom 6 = .ok (.iload_n 2, 1) := by decide +kernel
theorem dX11_isFrom_7 : decode cX11_isFrom 7 = .ok (.if_icmp .gt 7, 3) := by decide +kernel
theorem dX11_isFrom_10 : decode cX11_isFrom 10 = .ok (.iconst 1, 1) := by decide +kernel
theorem dX11_isFrom_11 : decode cX11_isFrom 11 = .ok (.goto 4, 3) := by decide +kernel
theorem dX11_isFrom_14 : decode cX11_isFrom 14 = .ok (.iconst 0, 1) := by decide +kernel
theorem dX11_isFrom_15 : decode cX11_isFrom 15 = .ok (.ireturn, 1) := by decide +kernel
theorem dX11_isHome_0 : decode cX11_isHome 0 = .ok (.iload_n 1, 1) := by decide +kernel
theorem dX11_isHome_1 : decode cX11_isHome 1 = .ok (.iconst 0, 1) := by decide +kernel
theorem dX11_isHome_2 : decode cX11_isHome 2 = .ok (.aload_n 0, 1) := by decide +kernel
theorem dX11_isHome_3 : decode cX11_isHome 3 = .ok (.getfield 7, 3) := by decide +kernel
theorem dX11_isHome_6 : decode cX11_isHome 6 = .ok (.sipush 230, 3) := by decide +kernel
theorem dX11_isHome_9 : decode cX11_isHome 9 = .ok (.iaload, 1) := by decide +kernel
theorem dX11_isHome_10 : decode cX11_isHome 10 = .ok (.iconst 1, 1) := by decide +kernel
theorem dX11_isHome_11 : decode cX11_isHome 11 = .ok (.isub, 1) := by decide +kernel
theorem dX11_isHome_12 : decode cX11_isHome 12 = .ok (.invokestatic 71, 3) := by decide +kernel
theorem dX11_isHome_15 : decode cX11_isHome 15 = .ok (.ireturn, 1) := by decide +kernel
theorem dX11_isHouse_0 : decode cX11_isHouse 0 = .ok (.iload_n 1, 1) := by decide +kernel
theorem dX11_isHouse_1 : decode cX11_isHouse 1 = .ok (.iconst 0, 1) := by decide +kernel
theorem dX11_isHouse_2 : decode cX11_isHouse 2 = .ok (.aload_n 0, 1) := by decide +kernel
theorem dX11_isHouse_3 : decode cX11_isHouse 3 = .ok (.getfield 7, 3) := by decide +kernel
theorem dX11_isHouse_6 : decode cX11_isHouse 6 = .ok (.sipush 231, 3) := by decide +kernel
theorem dX11_isHouse_9 : decode cX11_isHouse 9 = .ok (.iaload, 1) := by decide +kernel
theorem dX11_isHouse_10 : decode cX11_isHouse 10 = .ok (.iconst 1, 1) := by decide +kernel
theorem dX11_isHouse_11 : decode cX11_isHouse 11 = .ok (.isub, 1) := by decide +kernel
theorem dX11_isHouse_12 : decode cX11_isHouse 12 = .ok (.invokestatic 71, 3) := by decide +kernel
theorem dX11_isHouse_15 : decode cX11_isHouse 15 = .ok (.ireturn, 1) := by decide +kernel
theorem dX11_home0_0 : decode cX11_home0 0 = .ok (.aload_n 0, 1) := by decide +kernel
theorem dX11_home0_1 : decode cX11_home0 1 = .ok (.getfield 7, 3) := by decide +kernel
theorem dX11_home0_4 : decode cX11_home0 4 = .ok (.bipush 8, 2) := by decide +kernel
theorem dX11_home0_6 : decode cX11_home0 6 = .ok (.iload_n 1, 1) := by decide +kernel
theorem dX11_home0_7 : decode cX11_home0 7 = .ok (.imul, 1) := by decide +kernel
theorem dX11_home0_8 : decode cX11_home0 8 = .ok (.iload_n 2, 1) := by decide +kernel
theorem dX11_home0_9 : decode cX11_home0 9 = .ok (.iadd, 1) := by decide +kernel
theorem dX11_home0_10 : decode cX11_home0 10 = .ok (.iaload, 1) := by decide +kernel
theorem dX11_home0_11 : decode cX11_home0 11 = .ok (.ireturn, 1) := by decide +kernel
theorem dX11_at_0 : decode cX11_at 0 = .ok (.bipush 80, 2) := by decide +kernel
theorem dX11_at_2 : decode cX11_at 2 = .ok (.bipush 18, 2) := by decide +kernel
theorem dX11_at_4 : decode cX11_at 4 = .ok (.iload_n 0, 1) := by decide +kernel
theorem dX11_at_5 : decode cX11_at 5 = .ok (.imul, 1) := by decide +kernel
theorem dX11_at_6 : decode cX11_at 6 = .ok (.iadd, 1) := by decide +kernel
theorem dX11_at_7 : decode cX11_at 7 = .ok (.iload_n 1, 1) := by decide +kernel
theorem dX11_at_8 : decode cX11_at 8 = .ok (.iadd, 1) := by decide +kernel
theorem dX11_at_9 : decode cX11_at 9 = .ok (.ireturn, 1) := by decide +kernel
theorem dX11_of_0 : decode cX11_of 0 = .ok (.aload_n 0, 1) := by decide +kernel
theorem dX11_of_1 : decode cX11_of 1 = .ok (.getfield 7, 3) := by decide +kernel
theorem dX11_of_4 : decode cX11_of 4 = .ok (.iload_n 1, 1) := by decide +kernel
theorem dX11_of_5 : decode cX11_of 5 = .ok (.iload_n 2, 1) := by decide +kernel
theorem dX11_of_6 : decode cX11_of 6 = .ok (.invokestatic 75, 3) := by decide +kernel
theorem dX11_of_9 : decode cX11_of 9 = .ok (.iaload, 1) := by decide +kernel
theorem dX11_of_10 : decode cX11_of 10 = .ok (.ireturn, 1) := by decide +kernel
theorem dX11_come_0 : decode cX11_come 0 = .ok (.bipush 24, 2) := by decide +kernel
theorem dX11_come_2 : decode cX11_come 2 = .ok (.istore_n 2, 1) := by decide +kernel
theorem dX11_come_3 : decode cX11_come 3 = .ok (.iload_n 2, 1) := by decide +kernel
theorem dX11_come_4 : decode cX11_come 4 = .ok (.ifCond .lt 35, 3) := by decide +kernel
theorem dX11_come_7 : decode cX11_come 7 = .ok (.aload_n 0, 1) := by decide +kernel
theorem dX11_come_8 : decode cX11_come 8 = .ok (.getfield 22, 3) := by decide +kernel
theorem dX11_come_11 : decode cX11_come 11 = .ok (.aload_n 0, 1) := by decide +kernel
theorem dX11_come_12 : decode cX11_come 12 = .ok (.getfield 79, 3) := by decide +kernel
theorem dX11_come_15 : decode cX11_come 15 = .ok (.iload_n 1, 1) := by decide +kernel
theorem dX11_come_16 : decode cX11_come 16 = .ok (.iload_n 2, 1) := by decide +kernel
theorem dX11_come_17 : decode cX11_come 17 = .ok (.iushr, 1) := by decide +kernel
theorem dX11_come_18 : decode cX11_come 18 = .ok (.sipush 255, 3) := by decide +kernel
theorem dX11_come_21 : decode cX11_come 21 = .ok (.iand, 1) := by decide +kernel
theorem dX11_come_22 : decode cX11_come 22 = .ok (.iastore, 1) := by decide +kernel
theorem dX11_come_23 : decode cX11_come 23 = .ok (.aload_n 0, 1) := by decide +kernel
theorem dX11_come_24 : decode cX11_come 24 = .ok (.dup, 1) := by decide +kernel
theorem dX11_come_25 : decode cX11_come 25 = .ok (.getfield 79, 3) := by decide +kernel
theorem dX11_come_28 : decode cX11_come 28 = .ok (.iconst 1, 1) := by decide +kernel
theorem dX11_come_29 : decode cX11_come 29 = .ok (.iadd, 1) := by decide +kernel
theorem dX11_come_30 : decode cX11_come 30 = .ok (.putfield 79, 3) := by decide +kernel
theorem dX11_come_33 : decode cX11_come 33 = .ok (.iinc 2 (-8), 3) := by decide +kernel
theorem dX11_come_36 : decode cX11_come 36 = .ok (.goto (-33), 3) := by decide +kernel
theorem dX11_come_39 : decode cX11_come 39 = .ok (.return_, 1) := by decide +kernel
theorem dX11_feed_0 : decode cX11_feed 0 = .ok (.aload_n 0, 1) := by decide +kernel
theorem dX11_feed_1 : decode cX11_feed 1 = .ok (.iconst 0, 1) := by decide +kernel
theorem dX11_feed_2 : decode cX11_feed 2 = .ok (.putfield 65, 3) := by decide +kernel
theorem dX11_feed_5 : decode cX11_feed 5 = .ok (.aload_n 0, 1) := by decide +kernel
theorem dX11_feed_6 : decode cX11_feed 6 = .ok (.getfield 79, 3) := by decide +kernel
theorem dX11_feed_9 : decode cX11_feed 9 = .ok (.bipush 20, 2) := by decide +kernel
theorem dX11_feed_11 : decode cX11_feed 11 = .ok (.iadd, 1) := by decide +kernel
theorem dX11_feed_12 : decode cX11_feed 12 = .ok (.sipush 900, 3) := by decide +kernel
theorem dX11_feed_15 : decode cX11_feed 15 = .ok (.if_icmp .le 5, 3) := by decide +kernel
theorem dX11_feed_18 : decode cX11_feed 18 = .ok (.iconst (-1), 1) := by decide +kernel
theorem dX11_feed_19 : decode cX11_feed 19 = .ok (.ireturn, 1) := by decide +kernel
theorem dX11_feed_20 : decode cX11_feed 20 = .ok (.aload_n 0, 1) := by decide +kernel
theorem dX11_feed_21 : decode cX11_feed 21 = .ok (.iload_n 1, 1) := by decide +kernel
theorem dX11_feed_22 : decode cX11_feed 22 = .ok (.invokevirtual 82, 3) := by decide +kernel
theorem dX11_feed_25 : decode cX11_feed 25 = .ok (.aload_n 0, 1) := by decide +kernel
theorem dX11_feed_26 : decode cX11_feed 26 = .ok (.iload_n 2, 1) := by decide +kernel
theorem dX11_feed_27 : decode cX11_feed 27 = .ok (.invokevirtual 82, 3) := by decide +kernel
theorem dX11_feed_30 : decode cX11_feed 30 = .ok (.aload_n 0, 1) := by decide +kernel
theorem dX11_feed_31 : decode cX11_feed 31 = .ok (.iload_n 3, 1) := by decide +kernel
theorem dX11_feed_32 : decode cX11_feed 32 = .ok (.invokevirtual 82, 3) := by decide +kernel
theorem dX11_feed_35 : decode cX11_feed 35 = .ok (.aload_n 0, 1) := by decide +kernel
theorem dX11_feed_36 : decode cX11_feed 36 = .ok (.iload 4, 2) := by decide +kernel
theorem dX11_feed_38 : decode cX11_feed 38 = .ok (.invokevirtual 82, 3) := by decide +kernel
theorem dX11_feed_41 : decode cX11_feed 41 = .ok (.aload_n 0, 1) := by decide +kernel
theorem dX11_feed_42 : decode cX11_feed 42 = .ok (.iload 5, 2) := by decide +kernel
theorem dX11_feed_44 : decode cX11_feed 44 = .ok (.invokevirtual 82, 3) := by decide +kernel
theorem dX11_feed_47 : decode cX11_feed 47 = .ok (.aload_n 0, 1) := by decide +kernel
theorem dX11_feed_48 : decode cX11_feed 48 = .ok (.getfield 79, 3) := by decide +kernel
theorem dX11_feed_51 : decode cX11_feed 51 = .ok (.ireturn, 1) := by decide +kernel
theorem dX11_byteAt_0 : decode cX11_byteAt 0 = .ok (.iload_n 1, 1) := by decide +kernel
theorem dX11_byteAt_1 : decode cX11_byteAt 1 = .ok (.aload_n 0, 1) := by decide +kernel
theorem dX11_byteAt_2 : decode cX11_byteAt 2 = .ok (.getfield 86, 3) := by decide +kernel
theorem dX11_byteAt_5 : decode cX11_byteAt 5 = .ok (.if_icmp .ge 12, 3) := by decide +kernel
theorem dX11_byteAt_8 : decode cX11_byteAt 8 = .ok (.aload_n 0, 1) := by decide +kernel
theorem dX11_byteAt_9 : decode cX11_byteAt 9 = .ok (.getfield 22, 3) := by decide +kernel
theorem dX11_byteAt_12 : decode cX11_byteAt 12 = .ok (.iload_n 1, 1) := by decide +kernel
theorem dX11_byteAt_13 : decode cX11_byteAt 13 = .ok (.iaload, 1) := by decide +kernel
theorem dX11_byteAt_14 : decode cX11_byteAt 14 = .ok (.goto 4, 3) := by decide +kernel
theorem dX11_byteAt_17 : decode cX11_byteAt 17 = .ok (.iconst (-1), 1) := by decide +kernel
theorem dX11_byteAt_18 : decode cX11_byteAt 18 = .ok (.ireturn, 1) := by decide +kernel
theorem dX11_isLetter_0 : decode cX11_isLetter 0 = .ok (.iload_n 0, 1) := by decide +kernel
theorem dX11_isLetter_1 : decode cX11_isLetter 1 = .ok (.bipush 97, 2) := by decide +kernel
theorem dX11_isLetter_3 : decode cX11_isLetter 3 = .ok (.if_icmp .lt 13, 3) := by decide +kernel
theorem dX11_isLetter_6 : decode cX11_isLetter 6 = .ok (.iload_n 0, 1) := by decide +kernel
theorem dX11_isLetter_7 : decode cX11_isLetter 7 = .ok (.bipush 122, 2) := by decide +kernel
theorem dX11_isLetter_9 : decode cX11_isLetter 9 = .ok (.if_icmp .gt 7, 3) := by decide +kernel
theorem dX11_isLetter_12 : decode cX11_isLetter 12 = .ok (.iconst 1, 1) := by decide +kernel
theorem dX11_isLetter_13 : decode cX11_isLetter 13 = .ok (.goto 4, 3) := by decide +kernel
theorem dX11_isLetter_16 : decode cX11_isLetter 16 = .ok (.iconst 0, 1) := by decide +kernel
theorem dX11_isLetter_17 : decode cX11_isLetter 17 = .ok (.ireturn, 1) := by decide +kernel
theorem dX11_isDigit_0 : decode cX11_isDigit 0 = .ok (.iload_n 0, 1) := by decide +kernel
theorem dX11_isDigit_1 : decode cX11_isDigit 1 = .ok (.bipush 48, 2) := by decide +kernel
theorem dX11_isDigit_3 : decode cX11_isDigit 3 = .ok (.if_icmp .lt 13, 3) := by decide +kernel
theorem dX11_isDigit_6 : decode cX11_isDigit 6 = .ok (.iload_n 0, 1) := by decide +kernel
theorem dX11_isDigit_7 : decode cX11_isDigit 7 = .ok (.bipush 57, 2) := by decide +kernel
theorem dX11_isDigit_9 : decode cX11_isDigit 9 = .ok (.if_icmp .gt 7, 3) := by decide +kernel
theorem dX11_isDigit_12 : decode cX11_isDigit 12 = .ok (.iconst 1, 1) := by decide +kernel
theorem dX11_isDigit_13 : decode cX11_isDigit 13 = .ok (.goto 4, 3) := by decide +kernel
theorem dX11_isDigit_16 : decode cX11_isDigit 16 = .ok (.iconst 0, 1) := by decide +kernel
theorem dX11_isDigit_17 : decode cX11_isDigit 17 = .ok (.ireturn, 1) := by decide +kernel
theorem dX11_go_0 : decode cX11_go 0 = .ok (.aload_n 0, 1) := by decide +kernel
theorem dX11_go_1 : decode cX11_go 1 = .ok (.aload_n 0, 1) := by decide +kernel
theorem dX11_go_2 : decode cX11_go 2 = .ok (.getfield 89, 3) := by decide +kernel
theorem dX11_go_5 : decode cX11_go 5 = .ok (.invokevirtual 92, 3) := by decide +kernel
theorem dX11_go_8 : decode cX11_go 8 = .ok (.bipush 32, 2) := by decide +kernel
theorem dX11_go_10 : decode cX11_go 10 = .ok (.if_icmp .eq 16, 3) := by decide +kernel
theorem dX11_go_13 : decode cX11_go 13 = .ok (.aload_n 0, 1) := by decide +kernel
theorem dX11_go_14 : decode cX11_go 14 = .ok (.aload_n 0, 1) := by decide +kernel
theorem dX11_go_15 : decode cX11_go 15 = .ok (.getfield 89, 3) := by decide +kernel
theorem dX11_go_18 : decode cX11_go 18 = .ok (.invokevirtual 92, 3) := by decide +kernel
theorem dX11_go_21 : decode cX11_go 21 = .ok (.bipush 10, 2) := by decide +kernel
theorem dX11_go_23 : decode cX11_go 23 = .ok (.if_icmp .ne 16, 3) := by decide +kernel
theorem dX11_go_26 : decode cX11_go 26 = .ok (.aload_n 0, 1) := by decide +kernel
theorem dX11_go_27 : decode cX11_go 27 = .ok (.dup, 1) := by decide +kernel
theorem dX11_go_28 : decode cX11_go 28 = .ok (.getfield 89, 3) := by decide +kernel
theorem dX11_go_31 : decode cX11_go 31 = .ok (.iconst 1, 1) := by decide +kernel
theorem dX11_go_32 : decode cX11_go 32 = .ok (.iadd, 1) := by decide +kernel
theorem dX11_go_33 : decode cX11_go 33 = .ok (.putfield 89, 3) := by decide +kernel
theorem dX11_go_36 : decode cX11_go 36 = .ok (.goto (-36), 3) := by decide +kernel
theorem dX11_go_39 : decode cX11_go 39 = .ok (.aload_n 0, 1) := by decide +kernel
theorem dX11_go_40 : decode cX11_go 40 = .ok (.aload_n 0, 1) := by decide +kernel
theorem dX11_go_41 : decode cX11_go 41 = .ok (.getfield 89, 3) := by decide +kernel
theorem dX11_go_44 : decode cX11_go 44 = .ok (.putfield 96, 3) := by decide +kernel
theorem dX11_go_47 : decode cX11_go 47 = .ok (.aload_n 0, 1) := by decide +kernel
theorem dX11_go_48 : decode cX11_go 48 = .ok (.aload_n 0, 1) := by decide +kernel
theorem dX11_go_49 : decode cX11_go 49 = .ok (.getfield 89, 3) := by decide +kernel
theorem dX11_go_52 : decode cX11_go 52 = .ok (.invokevirtual 92, 3) := by decide +kernel
theorem dX11_go_55 : decode cX11_go 55 = .ok (.istore_n 1, 1) := by decide +kernel
theorem dX11_go_56 : decode cX11_go 56 = .ok (.iload_n 1, 1) := by decide +kernel
theorem dX11_go_57 : decode cX11_go 57 = .ok (.iconst (-1), 1) := by decide +kernel
theorem dX11_go_58 : decode cX11_go 58 = .ok (.if_icmp .ne 11, 3) := by decide +kernel
theorem dX11_go_61 : decode cX11_go 61 = .ok (.aload_n 0, 1) := by decide +kernel
theorem dX11_go_62 : decode cX11_go 62 = .ok (.iconst 0, 1) := by decide +kernel
theorem dX11_go_63 : decode cX11_go 63 = .ok (.putfield 99, 3) := by decide +kernel
theorem dX11_go_66 : decode cX11_go 66 = .ok (.goto 231, 3) := by decide +kernel
theorem dX11_go_69 : decode cX11_go 69 = .ok (.iload_n 1, 1) := by decide +kernel
theorem dX11_go_70 : decode cX11_go 70 = .ok (.invokestatic 102, 3) := by decide +kernel
theorem dX11_go_73 : decode cX11_go 73 = .ok (.ifCond .eq 99, 3) := by decide +kernel
theorem dX11_go_76 : decode cX11_go 76 = .ok (.aload_n 0, 1) := by decide +kernel
theorem dX11_go_77 : decode cX11_go 77 = .ok (.lconst 0, 1) := by decide +kernel
theorem dX11_go_78 : decode cX11_go 78 = .ok (.putfield 106, 3) := by decide +kernel
theorem dX11_go_81 : decode cX11_go 81 = .ok (.aload_n 0, 1) := by decide +kernel
theorem dX11_go_82 : decode cX11_go 82 = .ok (.aload_n 0, 1) := by decide +kernel
theorem dX11_go_83 : decode cX11_go 83 = .ok (.getfield 89, 3) := by decide +kernel
theorem dX11_go_86 : decode cX11_go 86 = .ok (.invokevirtual 92, 3) := by decide +kernel
theorem dX11_go_89 : decode cX11_go 89 = .ok (.invokestatic 102, 3) := by decide +kernel
theorem dX11_go_92 : decode cX11_go 92 = .ok (.ifCond .eq 54, 3) := by decide +kernel
theorem dX11_go_95 : decode cX11_go 95 = .ok (.aload_n 0, 1) := by decide +kernel
theorem dX11_go_96 : decode cX11_go 96 = .ok (.getfield 89, 3) := by decide +kernel
theorem dX11_go_99 : decode cX11_go 99 = .ok (.aload_n 0, 1) := by decide +kernel
theorem dX11_go_100 : decode cX11_go 100 = .ok (.getfield 96, 3) := by decide +kernel
theorem dX11_go_103 : decode cX11_go 103 = .ok (.isub, 1) := by decide +kernel
theorem dX11_go_104 : decode cX11_go 104 = .ok (.bipush 8, 2) := by decide +kernel
theorem dX11_go_106 : decode cX11_go 106 = .ok (.if_icmp .ge 27, 3) := by decide +kernel
theorem dX11_go_109 : decode cX11_go 109 = .ok (.aload_n 0, 1) := by decide +kernel
theorem dX11_go_110 : decode cX11_go 110 = .ok (.aload_n 0, 1) := by decide +kernel
theorem dX11_go_111 : decode cX11_go 111 = .ok (.getfield 106, 3) := by decide +kernel
theorem dX11_go_114 : decode cX11_go 114 = .ok (.iconst 5, 1) := by decide +kernel
theorem dX11_go_115 : decode cX11_go 115 = .ok (.lshl, 1) := by decide +kernel
theorem dX11_go_116 : decode cX11_go 116 = .ok (.aload_n 0, 1) := by decide +kernel
theorem dX11_go_117 : decode cX11_go 117 = .ok (.aload_n 0, 1) := by decide +kernel
theorem dX11_go_118 : decode cX11_go 118 = .ok (.getfield 89, 3) := by decide +kernel
theorem dX11_go_121 : decode cX11_go 121 = .ok (.invokevirtual 92, 3) := by decide +kernel
theorem dX11_go_124 : decode cX11_go 124 = .ok (.i2l, 1) := by decide +kernel
theorem dX11_go_125 : decode cX11_go 125 = .ok (.ldc2_w 110, 3) := by decide +kernel
theorem dX11_go_128 : decode cX11_go 128 = .ok (.lsub, 1) := by decide +kernel
theorem dX11_go_129 : decode cX11_go 129 = .ok (.lor, 1) := by decide +kernel
theorem dX11_go_130 : decode cX11_go 130 = .ok (.putfield 106, 3) := by decide +kernel
theorem dX11_go_133 : decode cX11_go 133 = .ok (.aload_n 0, 1) := by decide +kernel
theorem dX11_go_134 : decode cX11_go 134 = .ok (.dup, 1) := by decide +kernel
theorem dX11_go_135 : decode cX11_go 135 = .ok (.getfield 89, 3) := by decide +kernel
theorem dX11_go_138 : decode cX11_go 138 = .ok (.iconst 1, 1) := by decide +kernel
theorem dX11_go_139 : decode cX11_go 139 = .ok (.iadd, 1) := by decide +kernel
theorem dX11_go_140 : decode cX11_go 140 = .ok (.putfield 89, 3) := by decide +kernel
theorem dX11_go_143 : decode cX11_go 143 = .ok (.goto (-62), 3) := by decide +kernel
theorem dX11_go_146 : decode cX11_go 146 = .ok (.aload_n 0, 1) := by decide +kernel
theorem dX11_go_147 : decode cX11_go 147 = .ok (.aload_n 0, 1) := by decide +kernel
theorem dX11_go_148 : decode cX11_go 148 = .ok (.getfield 89, 3) := by decide +kernel
theorem dX11_go_151 : decode cX11_go 151 = .ok (.aload_n 0, 1) := by decide +kernel
theorem dX11_go_152 : decode cX11_go 152 = .ok (.getfield 96, 3) := by decide +kernel
theorem dX11_go_155 : decode cX11_go 155 = .ok (.isub, 1) := by decide +kernel
theorem dX11_go_156 : decode cX11_go 156 = .ok (.bipush 8, 2) := by decide +kernel
theorem dX11_go_158 : decode cX11_go 158 = .ok (.if_icmp .le 7, 3) := by decide +kernel
theorem dX11_go_161 : decode cX11_go 161 = .ok (.iconst 1, 1) := by decide +kernel
theorem dX11_go_162 : decode cX11_go 162 = .ok (.goto 4, 3) := by decide +kernel
theorem dX11_go_165 : decode cX11_go 165 = .ok (.iconst 2, 1) := by decide +kernel
theorem dX11_go_166 : decode cX11_go 166 = .ok (.putfield 99, 3) := by decide +kernel
theorem dX11_go_169 : decode cX11_go 169 = .ok (.goto 128, 3) := by decide +kernel
theorem dX11_go_172 : decode cX11_go 172 = .ok (.iload_n 1, 1) := by decide +kernel
theorem dX11_go_173 : decode cX11_go 173 = .ok (.invokestatic 112, 3) := by decide +kernel
theorem dX11_go_176 : decode cX11_go 176 = .ok (.ifCond .eq 96, 3) := by decide +kernel
theorem dX11_go_179 : decode cX11_go 179 = .ok (.aload_n 0, 1) := by decide +kernel
theorem dX11_go_180 : decode cX11_go 180 = .ok (.iconst 0, 1) := by decide +kernel
theorem dX11_go_181 : decode cX11_go 181 = .ok (.putfield 115, 3) := by decide +kernel
theorem dX11_go_184 : decode cX11_go 184 = .ok (.aload_n 0, 1) := by decide +kernel
theorem dX11_go_185 : decode cX11_go 185 = .ok (.aload_n 0, 1) := by decide +kernel
theorem dX11_go_186 : decode cX11_go 186 = .ok (.getfield 89, 3) := by decide +kernel
theorem dX11_go_189 : decode cX11_go 189 = .ok (.invokevirtual 92, 3) := by decide +kernel
theorem dX11_go_192 : decode cX11_go 192 = .ok (.invokestatic 112, 3) := by decide +kernel
theorem dX11_go_195 : decode cX11_go 195 = .ok (.ifCond .eq 52, 3) := by decide +kernel
theorem dX11_go_198 : decode cX11_go 198 = .ok (.aload_n 0, 1) := by decide +kernel
theorem dX11_go_199 : decode cX11_go 199 = .ok (.getfield 89, 3) := by decide +kernel
theorem dX11_go_202 : decode cX11_go 202 = .ok (.aload_n 0, 1) := by decide +kernel
theorem dX11_go_203 : decode cX11_go 203 = .ok (.getfield 96, 3) := by decide +kernel
theorem dX11_go_206 : decode cX11_go 206 = .ok (.isub, 1) := by decide +kernel
theorem dX11_go_207 : decode cX11_go 207 = .ok (.iconst 3, 1) := by decide +kernel
theorem dX11_go_208 : decode cX11_go 208 = .ok (.if_icmp .ge 26, 3) := by decide +kernel
theorem dX11_go_211 : decode cX11_go 211 = .ok (.aload_n 0, 1) := by decide +kernel
theorem dX11_go_212 : decode cX11_go 212 = .ok (.bipush 10, 2) := by decide +kernel
theorem dX11_go_214 : decode cX11_go 214 = .ok (.aload_n 0, 1) := by decide +kernel
theorem dX11_go_215 : decode cX11_go 215 = .ok (.getfield 115, 3) := by decide +kernel
theorem dX11_go_218 : decode cX11_go 218 = .ok (.imul, 1) := by decide +kernel
theorem dX11_go_219 : decode cX11_go 219 = .ok (.aload_n 0, 1) := by decide +kernel
theorem dX11_go_220 : decode cX11_go 220 = .ok (.aload_n 0, 1) := by decide +kernel
theorem dX11_go_221 : decode cX11_go 221 = .ok (.getfield 89, 3) := by decide +kernel
theorem dX11_go_224 : decode cX11_go 224 = .ok (.invokevirtual 92, 3) := by decide +kernel
theorem dX11_go_227 : decode cX11_go 227 = .ok (.iadd, 1) := by decide +kernel
theorem dX11_go_228 : decode cX11_go 228 = .ok (.bipush 48, 2) := by decide +kernel
theorem dX11_go_230 : decode cX11_go 230 = .ok (.isub, 1) := by decide +kernel
theorem dX11_go_231 : decode cX11_go 231 = .ok (.putfield 115, 3) := by decide +kernel
theorem dX11_go_234 : decode cX11_go 234 = .ok (.aload_n 0, 1) := by decide +kernel
theorem dX11_go_235 : decode cX11_go 235 = .ok (.dup, 1) := by decide +kernel
theorem dX11_go_236 : decode cX11_go 236 = .ok (.getfield 89, 3) := by decide +kernel
theorem dX11_go_239 : decode cX11_go 239 = .ok (.iconst 1, 1) := by decide +kernel
theorem dX11_go_240 : decode cX11_go 240 = .ok (.iadd, 1) := by decide +kernel
theorem dX11_go_241 : decode cX11_go 241 = .ok (.putfield 89, 3) := by decide +kernel
theorem dX11_go_244 : decode cX11_go 244 = .ok (.goto (-60), 3) := by decide +kernel
theorem dX11_go_247 : decode cX11_go 247 = .ok (.aload_n 0, 1) := by decide +kernel
theorem dX11_go_248 : decode cX11_go 248 = .ok (.aload_n 0, 1) := by decide +kernel
theorem dX11_go_249 : decode cX11_go 249 = .ok (.getfield 89, 3) := by decide +kernel
theorem dX11_go_252 : decode cX11_go 252 = .ok (.aload_n 0, 1) := by decide +kernel
theorem dX11_go_253 : decode cX11_go 253 = .ok (.getfield 96, 3) := by decide +kernel
theorem dX11_go_256 : decode cX11_go 256 = .ok (.isub, 1) := by decide +kernel
theorem dX11_go_257 : decode cX11_go 257 = .ok (.iconst 3, 1) := by decide +kernel
theorem dX11_go_258 : decode cX11_go 258 = .ok (.if_icmp .le 7, 3) := by decide +kernel
theorem dX11_go_261 : decode cX11_go 261 = .ok (.iconst 1, 1) := by decide +kernel
theorem dX11_go_262 : decode cX11_go 262 = .ok (.goto 4, 3) := by decide +kernel
theorem dX11_go_265 : decode cX11_go 265 = .ok (.iconst 3, 1) := by decide +kernel
theorem dX11_go_266 : decode cX11_go 266 = .ok (.putfield 99, 3) := by decide +kernel
theorem dX11_go_269 : decode cX11_go 269 = .ok (.goto 28, 3) := by decide +kernel
theorem dX11_go_272 : decode cX11_go 272 = .ok (.aload_n 0, 1) := by decide +kernel
theorem dX11_go_273 : decode cX11_go 273 = .ok (.dup, 1) := by decide +kernel
theorem dX11_go_274 : decode cX11_go 274 = .ok (.getfield 89, 3) := by decide +kernel
theorem dX11_go_277 : decode cX11_go 277 = .ok (.iconst 1, 1) := by decide +kernel
theorem dX11_go_278 : decode cX11_go 278 = .ok (.iadd, 1) := by decide +kernel
theorem dX11_go_279 : decode cX11_go 279 = .ok (.putfield 89, 3) := by decide +kernel
theorem dX11_go_282 : decode cX11_go 282 = .ok (.aload_n 0, 1) := by decide +kernel
theorem dX11_go_283 : decode cX11_go 283 = .ok (.iload_n 1, 1) := by decide +kernel
theorem dX11_go_284 : decode cX11_go 284 = .ok (.bipush 59, 2) := by decide +kernel
theorem dX11_go_286 : decode cX11_go 286 = .ok (.if_icmp .ne 7, 3) := by decide +kernel
theorem dX11_go_289 : decode cX11_go 289 = .ok (.iconst 4, 1) := by decide +kernel
theorem dX11_go_290 : decode cX11_go 290 = .ok (.goto 4, 3) := by decide +kernel
theorem dX11_go_293 : decode cX11_go 293 = .ok (.iconst 1, 1) := by decide +kernel
theorem dX11_go_294 : decode cX11_go 294 = .ok (.putfield 99, 3) := by decide +kernel
theorem dX11_go_297 : decode cX11_go 297 = .ok (.return_, 1) := by decide +kernel
theorem dX11_joined_0 : decode cX11_joined 0 = .ok (.iload_n 2, 1) := by decide +kernel
theorem dX11_joined_1 : decode cX11_joined 1 = .ok (.ifCond .ne 7, 3) := by decide +kernel
theorem dX11_joined_4 : decode cX11_joined 4 = .ok (.lload_n 0, 1) := by decide +kernel
theorem dX11_joined_5 : decode cX11_joined 5 = .ok (.goto 13, 3) := by decide +kernel
theorem dX11_joined_8 : decode cX11_joined 8 = .ok (.lload_n 0, 1) := by decide +kernel
theorem dX11_joined_9 : decode cX11_joined 9 = .ok (.iconst 5, 1) := by decide +kernel
theorem dX11_joined_10 : decode cX11_joined 10 = .ok (.lshl, 1) := by decide +kernel
theorem dX11_joined_11 : decode cX11_joined 11 = .ok (.iload_n 2, 1) := by decide +kernel
theorem dX11_joined_12 : decode cX11_joined 12 = .ok (.i2l, 1) := by decide +kernel
theorem dX11_joined_13 : decode cX11_joined 13 = .ok (.ldc2_w 110, 3) := by decide +kernel
theorem dX11_joined_16 : decode cX11_joined 16 = .ok (.lsub, 1) := by decide +kernel
theorem dX11_joined_17 : decode cX11_joined 17 = .ok (.lor, 1) := by decide +kernel
theorem dX11_joined_18 : decode cX11_joined 18 = .ok (.lreturn, 1) := by decide +kernel
theorem dX11_spelt_0 : decode cX11_spelt 0 = .ok (.lconst 0, 1) := by decide +kernel
theorem dX11_spelt_1 : decode cX11_spelt 1 = .ok (.iload_n 0, 1) := by decide +kernel
theorem dX11_spelt_2 : decode cX11_spelt 2 = .ok (.invokestatic 118, 3) := by decide +kernel
theorem dX11_spelt_5 : decode cX11_spelt 5 = .ok (.iload_n 1, 1) := by decide +kernel
theorem dX11_spelt_6 : decode cX11_spelt 6 = .ok (.invokestatic 118, 3) := by decide +kernel
theorem dX11_spelt_9 : decode cX11_spelt 9 = .ok (.iload_n 2, 1) := by decide +kernel
theorem dX11_spelt_10 : decode cX11_spelt 10 = .ok (.invokestatic 118, 3) := by decide +kernel
theorem dX11_spelt_13 : decode cX11_spelt 13 = .ok (.iload_n 3, 1) := by decide +kernel
theorem dX11_spelt_14 : decode cX11_spelt 14 = .ok (.invokestatic 118, 3) := by decide +kernel
theorem dX11_spelt_17 : decode cX11_spelt 17 = .ok (.iload 4, 2) := by decide +kernel
theorem dX11_spelt_19 : decode cX11_spelt 19 = .ok (.invokestatic 118, 3) := by decide +kernel
theorem dX11_spelt_22 : decode cX11_spelt 22 = .ok (.iload 5, 2) := by decide +kernel
theorem dX11_spelt_24 : decode cX11_spelt 24 = .ok (.invokestatic 118, 3) := by decide +kernel
theorem dX11_spelt_27 : decode cX11_spelt 27 = .ok (.lreturn, 1) := by decide +kernel
theorem dX11_wordOf_0 : decode cX11_wordOf 0 = .ok (.iload_n 0, 1) := by decide +kernel
theorem dX11_wordOf_1 : decode cX11_wordOf 1 = .ok (.tableswitch 180 0 8 #[51, 67, 80, 95, 110, 123, 137, 151, 166], 51) := by decide +kernel
theorem dX11_wordOf_52 : decode cX11_wordOf 52 = .ok (.bipush 114, 2) := by decide +kernel
theorem dX11_wordOf_54 : decode cX11_wordOf 54 = .ok (.bipush 101, 2) := by decide +kernel
theorem dX11_wordOf_56 : decode cX11_wordOf 56 = .ok (.bipush 102, 2) := by decide +kernel
theorem dX11_wordOf_58 : decode cX11_wordOf 58 = .ok (.bipush 117, 2) := by decide +kernel
theorem dX11_wordOf_60 : decode cX11_wordOf 60 = .ok (.bipush 115, 2) := by decide +kernel
theorem dX11_wordOf_62 : decode cX11_wordOf 62 = .ok (.bipush 101, 2) := by decide +kernel
theorem dX11_wordOf_64 : decode cX11_wordOf 64 = .ok (.invokestatic 122, 3) := by decide +kernel
theorem dX11_wordOf_67 : decode cX11_wordOf 67 = .ok (.lreturn, 1) := by decide +kernel
theorem dX11_wordOf_68 : decode cX11_wordOf 68 = .ok (.bipush 98, 2) := by decide +kernel
theorem dX11_wordOf_70 : decode cX11_wordOf 70 = .ok (.bipush 97, 2) := by decide +kernel
theorem dX11_wordOf_72 : decode cX11_wordOf 72 = .ok (.bipush 114, 2) := by decide +kernel
theorem dX11_wordOf_74 : decode cX11_wordOf 74 = .ok (.iconst 0, 1) := by decide +kernel
theorem dX11_wordOf_75 : decode cX11_wordOf 75 = .ok (.iconst 0, 1) := by decide +kernel
theorem dX11_wordOf_76 : decode cX11_wordOf 76 = .ok (.iconst 0, 1) := by decide +kernel
theorem dX11_wordOf_77 : decode cX11_wordOf 77 = .ok (.invokestatic 122, 3) := by decide +kernel
theorem dX11_wordOf_80 : decode cX11_wordOf 80 = .ok (.lreturn, 1) := by decide +kernel
theorem dX11_wordOf_81 : decode cX11_wordOf 81 = .ok (.bipush 108, 2) := by decide +kernel
theorem dX11_wordOf_83 : decode cX11_wordOf 83 = .ok (.bipush 111, 2) := by decide +kernel
theorem dX11_wordOf_85 : decode cX11_wordOf 85 = .ok (.bipush 99, 2) := by decide +kernel
theorem dX11_wordOf_87 : decode cX11_wordOf 87 = .ok (.bipush 97, 2) := by decide +kernel
theorem dX11_wordOf_89 : decode cX11_wordOf 89 = .ok (.bipush 108, 2) := by decide +kernel
theorem dX11_wordOf_91 : decode cX11_wordOf 91 = .ok (.iconst 0, 1) := by decide +kernel
theorem dX11_wordOf_92 : decode cX11_wordOf 92 = .ok (.invokestatic 122, 3) := by decide +kernel
theorem dX11_wordOf_95 : decode cX11_wordOf 95 = .ok (.lreturn, 1) := by decide +kernel
theorem dX11_wordOf_96 : decode cX11_wordOf 96 = .ok (.bipush 113, 2) := by decide +kernel
theorem dX11_wordOf_98 : decode cX11_wordOf 98 = .ok (.bipush 117, 2) := by decide +kernel
theorem dX11_wordOf_100 : decode cX11_wordOf 100 = .ok (.bipush 111, 2) := by decide +kernel
theorem dX11_wordOf_102 : decode cX11_wordOf 102 = .ok (.bipush 116, 2) := by decide +kernel
theorem dX11_wordOf_104 : decode cX11_wordOf 104 = .ok (.bipush 97, 2) := by decide +kernel
theorem dX11_wordOf_106 : decode cX11_wordOf 106 = .ok (.iconst 0, 1) := by decide +kernel
theorem dX11_wordOf_107 : decode cX11_wordOf 107 = .ok (.invokestatic 122, 3) := by decide +kernel
theorem dX11_wordOf_110 : decode cX11_wordOf 110 = .ok (.lreturn, 1) := by decide +kernel
theorem dX11_wordOf_111 : decode cX11_wordOf 111 = .ok (.bipush 97, 2) := by decide +kernel
theorem dX11_wordOf_113 : decode cX11_wordOf 113 = .ok (.bipush 103, 2) := by decide +kernel
theorem dX11_wordOf_115 : decode cX11_wordOf 115 = .ok (.bipush 101, 2) := by decide +kernel
theorem dX11_wordOf_117 : decode cX11_wordOf 117 = .ok (.iconst 0, 1) := by decide +kernel
theorem dX11_wordOf_118 : decode cX11_wordOf 118 = .ok (.iconst 0, 1) := by decide +kernel
theorem dX11_wordOf_119 : decode cX11_wordOf 119 = .ok (.iconst 0, 1) := by decide +kernel
theorem dX11_wordOf_120 : decode cX11_wordOf 120 = .ok (.invokestatic 122, 3) := by decide +kernel
theorem dX11_wordOf_123 : decode cX11_wordOf 123 = .ok (.lreturn, 1) := by decide +kernel
theorem dX11_wordOf_124 : decode cX11_wordOf 124 = .ok (.bipush 98, 2) := by decide +kernel
theorem dX11_wordOf_126 : decode cX11_wordOf 126 = .ok (.bipush 105, 2) := by decide +kernel
theorem dX11_wordOf_128 : decode cX11_wordOf 128 = .ok (.bipush 100, 2) := by decide +kernel
theorem dX11_wordOf_130 : decode cX11_wordOf 130 = .ok (.bipush 115, 2) := by decide +kernel
theorem dX11_wordOf_132 : decode cX11_wordOf 132 = .ok (.iconst 0, 1) := by decide +kernel
theorem dX11_wordOf_133 : decode cX11_wordOf 133 = .ok (.iconst 0, 1) := by decide +kernel
theorem dX11_wordOf_134 : decode cX11_wordOf 134 = .ok (.invokestatic 122, 3) := by decide +kernel
theorem dX11_wordOf_137 : decode cX11_wordOf 137 = .ok (.lreturn, 1) := by decide +kernel
theorem dX11_wordOf_138 : decode cX11_wordOf 138 = .ok (.bipush 104, 2) := by decide +kernel
theorem dX11_wordOf_140 : decode cX11_wordOf 140 = .ok (.bipush 111, 2) := by decide +kernel
theorem dX11_wordOf_142 : decode cX11_wordOf 142 = .ok (.bipush 109, 2) := by decide +kernel
theorem dX11_wordOf_144 : decode cX11_wordOf 144 = .ok (.bipush 101, 2) := by decide +kernel
theorem dX11_wordOf_146 : decode cX11_wordOf 146 = .ok (.iconst 0, 1) := by decide +kernel
theorem dX11_wordOf_147 : decode cX11_wordOf 147 = .ok (.iconst 0, 1) := by decide +kernel
theorem dX11_wordOf_148 : decode cX11_wordOf 148 = .ok (.invokestatic 122, 3) := by decide +kernel
theorem dX11_wordOf_151 : decode cX11_wordOf 151 = .ok (.lreturn, 1) := by decide +kernel
theorem dX11_wordOf_152 : decode cX11_wordOf 152 = .ok (.bipush 104, 2) := by decide +kernel
theorem dX11_wordOf_154 : decode cX11_wordOf 154 = .ok (.bipush 111, 2) := by decide +kernel
theorem dX11_wordOf_156 : decode cX11_wordOf 156 = .ok (.bipush 117, 2) := by decide +kernel
theorem dX11_wordOf_158 : decode cX11_wordOf 158 = .ok (.bipush 115, 2) := by decide +kernel
theorem dX11_wordOf_160 : decode cX11_wordOf 160 = .ok (.bipush 101, 2) := by decide +kernel
theorem dX11_wordOf_162 : decode cX11_wordOf 162 = .ok (.iconst 0, 1) := by decide +kernel
theorem dX11_wordOf_163 : decode cX11_wordOf 163 = .ok (.invokestatic 122, 3) := by decide +kernel
theorem dX11_wordOf_166 : decode cX11_wordOf 166 = .ok (.lreturn, 1) := by decide +kernel
theorem dX11_wordOf_167 : decode cX11_wordOf 167 = .ok (.bipush 114, 2) := by decide +kernel
theorem dX11_wordOf_169 : decode cX11_wordOf 169 = .ok (.bipush 117, 2) := by decide +kernel
theorem dX11_wordOf_171 : decode cX11_wordOf 171 = .ok (.bipush 108, 2) := by decide +kernel
theorem dX11_wordOf_173 : decode cX11_wordOf 173 = .ok (.bipush 101, 2) := by decide +kernel
theorem dX11_wordOf_175 : decode cX11_wordOf 175 = .ok (.iconst 0, 1) := by decide +kernel
theorem dX11_wordOf_176 : decode cX11_wordOf 176 = .ok (.iconst 0, 1) := by decide +kernel
theorem dX11_wordOf_177 : decode cX11_wordOf 177 = .ok (.invokestatic 122, 3) := by decide +kernel
theorem dX11_wordOf_180 : decode cX11_wordOf 180 = .ok (.lreturn, 1) := by decide +kernel
theorem dX11_wordOf_181 : decode cX11_wordOf 181 = .ok (.bipush 105, 2) := by decide +kernel
theorem dX11_wordOf_183 : decode cX11_wordOf 183 = .ok (.bipush 110, 2) := by decide +kernel
theorem dX11_wordOf_185 : decode cX11_wordOf 185 = .ok (.iconst 0, 1) := by decide +kernel
theorem dX11_wordOf_186 : decode cX11_wordOf 186 = .ok (.iconst 0, 1) := by decide +kernel
theorem dX11_wordOf_187 : decode cX11_wordOf 187 = .ok (.iconst 0, 1) := by decide +kernel
theorem dX11_wordOf_188 : decode cX11_wordOf 188 = .ok (.iconst 0, 1) := by decide +kernel
theorem dX11_wordOf_189 : decode cX11_wordOf 189 = .ok (.invokestatic 122, 3) := by decide +kernel
theorem dX11_wordOf_192 : decode cX11_wordOf 192 = .ok (.lreturn, 1) := by decide +kernel
theorem dX11_isWord_0 : decode cX11_isWord 0 = .ok (.aload_n 0, 1) := by decide +kernel
theorem dX11_isWord_1 : decode cX11_isWord 1 = .ok (.getfield 99, 3) := by decide +kernel
theorem dX11_isWord_4 : decode cX11_isWord 4 = .ok (.iconst 2, 1) := by decide +kernel
theorem dX11_isWord_5 : decode cX11_isWord 5 = .ok (.if_icmp .ne 19, 3) := by decide +kernel
theorem dX11_isWord_8 : decode cX11_isWord 8 = .ok (.aload_n 0, 1) := by decide +kernel
theorem dX11_isWord_9 : decode cX11_isWord 9 = .ok (.getfield 106, 3) := by decide +kernel
theorem dX11_isWord_12 : decode cX11_isWord 12 = .ok (.iload_n 1, 1) := by decide +kernel
theorem dX11_isWord_13 : decode cX11_isWord 13 = .ok (.invokestatic 126, 3) := by decide +kernel
theorem dX11_isWord_16 : decode cX11_isWord 16 = .ok (.lcmp, 1) := by decide +kernel
theorem dX11_isWord_17 : decode cX11_isWord 17 = .ok (.ifCond .ne 7, 3) := by decide +kernel
theorem dX11_isWord_20 : decode cX11_isWord 20 = .ok (.iconst 1, 1) := by decide +kernel
theorem dX11_isWord_21 : decode cX11_isWord 21 = .ok (.goto 4, 3) := by decide +kernel
theorem dX11_isWord_24 : decode cX11_isWord 24 = .ok (.iconst 0, 1) := by decide +kernel
theorem dX11_isWord_25 : decode cX11_isWord 25 = .ok (.ireturn, 1) := by decide +kernel
theorem dX11_isName_0 : decode cX11_isName 0 = .ok (.iconst 0, 1) := by decide +kernel
theorem dX11_isName_1 : decode cX11_isName 1 = .ok (.istore_n 1, 1) := by decide +kernel
theorem dX11_isName_2 : decode cX11_isName 2 = .ok (.iload_n 1, 1) := by decide +kernel
theorem dX11_isName_3 : decode cX11_isName 3 = .ok (.bipush 9, 2) := by decide +kernel
theorem dX11_isName_5 : decode cX11_isName 5 = .ok (.if_icmp .gt 19, 3) := by decide +kernel
theorem dX11_isName_8 : decode cX11_isName 8 = .ok (.aload_n 0, 1) := by decide +kernel
theorem dX11_isName_9 : decode cX11_isName 9 = .ok (.iload_n 1, 1) := by decide +kernel
theorem dX11_isName_10 : decode cX11_isName 10 = .ok (.invokevirtual 130, 3) := by decide +kernel
theorem dX11_isName_13 : decode cX11_isName 13 = .ok (.ifCond .eq 5, 3) := by decide +kernel
theorem dX11_isName_16 : decode cX11_isName 16 = .ok (.iconst 0, 1) := by decide +kernel
theorem dX11_isName_17 : decode cX11_isName 17 = .ok (.ireturn, 1) := by decide +kernel
theorem dX11_isName_18 : decode cX11_isName 18 = .ok (.iinc 1 1, 3) := by decide +kernel
theorem dX11_isName_21 : decode cX11_isName 21 = .ok (.goto (-19), 3) := by decide +kernel
theorem dX11_isName_24 : decode cX11_isName 24 = .ok (.aload_n 0, 1) := by decide +kernel
theorem dX11_isName_25 : decode cX11_isName 25 = .ok (.getfield 99, 3) := by decide +kernel
theorem dX11_isName_28 : decode cX11_isName 28 = .ok (.iconst 2, 1) := by decide +kernel
theorem dX11_isName_29 : decode cX11_isName 29 = .ok (.if_icmp .ne 7, 3) := by decide +kernel
theorem dX11_isName_32 : decode cX11_isName 32 = .ok (.iconst 1, 1) := by decide +kernel
theorem dX11_isName_33 : decode cX11_isName 33 = .ok (.goto 4, 3) := by decide +kernel
theorem dX11_isName_36 : decode cX11_isName 36 = .ok (.iconst 0, 1) := by decide +kernel
theorem dX11_isName_37 : decode cX11_isName 37 = .ok (.ireturn, 1) := by decide +kernel
theorem dX11_bad_0 : decode cX11_bad 0 = .ok (.aload_n 0, 1) := by decide +kernel
theorem dX11_bad_1 : decode cX11_bad 1 = .ok (.aload_n 0, 1) := by decide +kernel
theorem dX11_bad_2 : decode cX11_bad 2 = .ok (.getfield 99, 3) := by decide +kernel
theorem dX11_bad_5 : decode cX11_bad 5 = .ok (.iconst 1, 1) := by decide +kernel
theorem dX11_bad_6 : decode cX11_bad 6 = .ok (.if_icmp .ne 7, 3) := by decide +kernel
theorem dX11_bad_9 : decode cX11_bad 9 = .ok (.iconst 1, 1) := by decide +kernel
theorem dX11_bad_10 : decode cX11_bad 10 = .ok (.goto 4, 3) := by decide +kernel
theorem dX11_bad_13 : decode cX11_bad 13 = .ok (.iload_n 1, 1) := by decide +kernel
theorem dX11_bad_14 : decode cX11_bad 14 = .ok (.putfield 133, 3) := by decide +kernel
theorem dX11_bad_17 : decode cX11_bad 17 = .ok (.aload_n 0, 1) := by decide +kernel
theorem dX11_bad_18 : decode cX11_bad 18 = .ok (.aload_n 0, 1) := by decide +kernel
theorem dX11_bad_19 : decode cX11_bad 19 = .ok (.getfield 96, 3) := by decide +kernel
theorem dX11_bad_22 : decode cX11_bad 22 = .ok (.putfield 136, 3) := by decide +kernel
theorem dX11_bad_25 : decode cX11_bad 25 = .ok (.iconst 0, 1) := by decide +kernel
theorem dX11_bad_26 : decode cX11_bad 26 = .ok (.ireturn, 1) := by decide +kernel
theorem dX11_readEnd_0 : decode cX11_readEnd 0 = .ok (.aload_n 0, 1) := by decide +kernel
theorem dX11_readEnd_1 : decode cX11_readEnd 1 = .ok (.getfield 99, 3) := by decide +kernel
theorem dX11_readEnd_4 : decode cX11_readEnd 4 = .ok (.iconst 4, 1) := by decide +kernel
theorem dX11_readEnd_5 : decode cX11_readEnd 5 = .ok (.if_icmp .eq 9, 3) := by decide +kernel
theorem dX11_readEnd_8 : decode cX11_readEnd 8 = .ok (.aload_n 0, 1) := by decide +kernel
theorem dX11_readEnd_9 : decode cX11_readEnd 9 = .ok (.iconst 2, 1) := by decide +kernel
theorem dX11_readEnd_10 : decode cX11_readEnd 10 = .ok (.invokevirtual 139, 3) := by decide +kernel
theorem dX11_readEnd_13 : decode cX11_readEnd 13 = .ok (.ireturn, 1) := by decide +kernel
theorem dX11_readEnd_14 : decode cX11_readEnd 14 = .ok (.aload_n 0, 1) := by decide +kernel
theorem dX11_readEnd_15 : decode cX11_readEnd 15 = .ok (.invokevirtual 142, 3) := by decide +kernel
theorem dX11_readEnd_18 : decode cX11_readEnd 18 = .ok (.iconst 1, 1) := by decide +kernel
theorem dX11_readEnd_19 : decode cX11_readEnd 19 = .ok (.ireturn, 1) := by decide +kernel
theorem dX11_readNumber_0 : decode cX11_readNumber 0 = .ok (.aload_n 0, 1) := by decide +kernel
theorem dX11_readNumber_1 : decode cX11_readNumber 1 = .ok (.getfield 99, 3) := by decide +kernel
theorem dX11_readNumber_4 : decode cX11_readNumber 4 = .ok (.iconst 3, 1) := by decide +kernel
theorem dX11_readNumber_5 : decode cX11_readNumber 5 = .ok (.if_icmp .eq 9, 3) := by decide +kernel
theorem dX11_readNumber_8 : decode cX11_readNumber 8 = .ok (.aload_n 0, 1) := by decide +kernel
theorem dX11_readNumber_9 : decode cX11_readNumber 9 = .ok (.iconst 2, 1) := by decide +kernel
theorem dX11_readNumber_10 : decode cX11_readNumber 10 = .ok (.invokevirtual 139, 3) := by decide +kernel
theorem dX11_readNumber_13 : decode cX11_readNumber 13 = .ok (.ireturn, 1) := by decide +kernel
theorem dX11_readNumber_14 : decode cX11_readNumber 14 = .ok (.aload_n 0, 1) := by decide +kernel
theorem dX11_readNumber_15 : decode cX11_readNumber 15 = .ok (.getfield 115, 3) := by decide +kernel
theorem dX11_readNumber_18 : decode cX11_readNumber 18 = .ok (.iload_n 2, 1) := by decide +kernel
theorem dX11_readNumber_19 : decode cX11_readNumber 19 = .ok (.iload_n 3, 1) := by decide +kernel
theorem dX11_readNumber_20 : decode cX11_readNumber 20 = .ok (.invokestatic 71, 3) := by decide +kernel
theorem dX11_readNumber_23 : decode cX11_readNumber 23 = .ok (.ifCond .ne 9, 3) := by decide +kernel
theorem dX11_readNumber_26 : decode cX11_readNumber 26 = .ok (.aload_n 0, 1) := by decide +kernel
theorem dX11_readNumber_27 : decode cX11_readNumber 27 = .ok (.iconst 3, 1) := by decide +kernel
theorem dX11_readNumber_28 : decode cX11_readNumber 28 = .ok (.invokevirtual 139, 3) := by decide +kernel
theorem dX11_readNumber_31 : decode cX11_readNumber 31 = .ok (.ireturn, 1) := by decide +kernel
theorem dX11_readNumber_32 : decode cX11_readNumber 32 = .ok (.aload_n 0, 1) := by decide +kernel
theorem dX11_readNumber_33 : decode cX11_readNumber 33 = .ok (.getfield 13, 3) := by decide +kernel
theorem dX11_readNumber_36 : decode cX11_readNumber 36 = .ok (.iload_n 1, 1) := by decide +kernel
theorem dX11_readNumber_37 : decode cX11_readNumber 37 = .ok (.aload_n 0, 1) := by decide +kernel
theorem dX11_readNumber_38 : decode cX11_readNumber 38 = .ok (.getfield 115, 3) := by decide +kernel
theorem dX11_readNumber_41 : decode cX11_readNumber 41 = .ok (.iastore, 1) := by decide +kernel
theorem dX11_readNumber_42 : decode cX11_readNumber 42 = .ok (.aload_n 0, 1) := by decide +kernel
theorem dX11_readNumber_43 : decode cX11_readNumber 43 = .ok (.invokevirtual 142, 3) := by decide +kernel
theorem dX11_readNumber_46 : decode cX11_readNumber 46 = .ok (.iconst 1, 1) := by decide +kernel
theorem dX11_readNumber_47 : decode cX11_readNumber 47 = .ok (.ireturn, 1) := by decide +kernel
theorem dX11_homeHere_0 : decode cX11_homeHere 0 = .ok (.iconst 0, 1) := by decide +kernel
theorem dX11_homeHere_1 : decode cX11_homeHere 1 = .ok (.istore_n 1, 1) := by decide +kernel
theorem dX11_homeHere_2 : decode cX11_homeHere 2 = .ok (.iload_n 1, 1) := by decide +kernel
theorem dX11_homeHere_3 : decode cX11_homeHere 3 = .ok (.aload_n 0, 1) := by decide +kernel
theorem dX11_homeHere_4 : decode cX11_homeHere 4 = .ok (.getfield 13, 3) := by decide +kernel
theorem dX11_homeHere_7 : decode cX11_homeHere 7 = .ok (.sipush 230, 3) := by decide +kernel
theorem dX11_homeHere_10 : decode cX11_homeHere 10 = .ok (.iaload, 1) := by decide +kernel
theorem dX11_homeHere_11 : decode cX11_homeHere 11 = .ok (.if_icmp .ge 25, 3) := by decide +kernel
theorem dX11_homeHere_14 : decode cX11_homeHere 14 = .ok (.aload_n 0, 1) := by decide +kernel
theorem dX11_homeHere_15 : decode cX11_homeHere 15 = .ok (.getfield 29, 3) := by decide +kernel
theorem dX11_homeHere_18 : decode cX11_homeHere 18 = .ok (.iload_n 1, 1) := by decide +kernel
theorem dX11_homeHere_19 : decode cX11_homeHere 19 = .ok (.laload, 1) := by decide +kernel
theorem dX11_homeHere_20 : decode cX11_homeHere 20 = .ok (.aload_n 0, 1) := by decide +kernel
theorem dX11_homeHere_21 : decode cX11_homeHere 21 = .ok (.getfield 106, 3) := by decide +kernel
theorem dX11_homeHere_24 : decode cX11_homeHere 24 = .ok (.lcmp, 1) := by decide +kernel
theorem dX11_homeHere_25 : decode cX11_homeHere 25 = .ok (.ifCond .ne 5, 3) := by decide +kernel
theorem dX11_homeHere_28 : decode cX11_homeHere 28 = .ok (.iload_n 1, 1) := by decide +kernel
theorem dX11_homeHere_29 : decode cX11_homeHere 29 = .ok (.ireturn, 1) := by decide +kernel
theorem dX11_homeHere_30 : decode cX11_homeHere 30 = .ok (.iinc 1 1, 3) := by decide +kernel
theorem dX11_homeHere_33 : decode cX11_homeHere 33 = .ok (.goto (-31), 3) := by decide +kernel
theorem dX11_homeHere_36 : decode cX11_homeHere 36 = .ok (.iconst (-1), 1) := by decide +kernel
theorem dX11_homeHere_37 : decode cX11_homeHere 37 = .ok (.ireturn, 1) := by decide +kernel
theorem dX11_isTaken_0 : decode cX11_isTaken 0 = .ok (.iconst 0, 1) := by decide +kernel
theorem dX11_isTaken_1 : decode cX11_isTaken 1 = .ok (.istore_n 1, 1) := by decide +kernel
theorem dX11_isTaken_2 : decode cX11_isTaken 2 = .ok (.iload_n 1, 1) := by decide +kernel
theorem dX11_isTaken_3 : decode cX11_isTaken 3 = .ok (.aload_n 0, 1) := by decide +kernel
theorem dX11_isTaken_4 : decode cX11_isTaken 4 = .ok (.getfield 13, 3) := by decide +kernel
theorem dX11_isTaken_7 : decode cX11_isTaken 7 = .ok (.sipush 231, 3) := by decide +kernel
theorem dX11_isTaken_10 : decode cX11_isTaken 10 = .ok (.iaload, 1) := by decide +kernel
theorem dX11_isTaken_11 : decode cX11_isTaken 11 = .ok (.if_icmp .ge 28, 3) := by decide +kernel
theorem dX11_isTaken_14 : decode cX11_isTaken 14 = .ok (.aload_n 0, 1) := by decide +kernel
theorem dX11_isTaken_15 : decode cX11_isTaken 15 = .ok (.getfield 29, 3) := by decide +kernel
theorem dX11_isTaken_18 : decode cX11_isTaken 18 = .ok (.bipush 10, 2) := by decide +kernel
theorem dX11_isTaken_20 : decode cX11_isTaken 20 = .ok (.iload_n 1, 1) := by decide +kernel
theorem dX11_isTaken_21 : decode cX11_isTaken 21 = .ok (.iadd, 1) := by decide +kernel
theorem dX11_isTaken_22 : decode cX11_isTaken 22 = .ok (.laload, 1) := by decide +kernel
theorem dX11_isTaken_23 : decode cX11_isTaken 23 = .ok (.aload_n 0, 1) := by decide +kernel
theorem dX11_isTaken_24 : decode cX11_isTaken 24 = .ok (.getfield 106, 3) := by decide +kernel
theorem dX11_isTaken_27 : decode cX11_isTaken 27 = .ok (.lcmp, 1) := by decide +kernel
theorem dX11_isTaken_28 : decode cX11_isTaken 28 = .ok (.ifCond .ne 5, 3) := by decide +kernel
theorem dX11_isTaken_31 : decode cX11_isTaken 31 = .ok (.iconst 1, 1) := by decide +kernel
theorem dX11_isTaken_32 : decode cX11_isTaken 32 = .ok (.ireturn, 1) := by decide +kernel
theorem dX11_isTaken_33 : decode cX11_isTaken 33 = .ok (.iinc 1 1, 3) := by decide +kernel
theorem dX11_isTaken_36 : decode cX11_isTaken 36 = .ok (.goto (-34), 3) := by decide +kernel
theorem dX11_isTaken_39 : decode cX11_isTaken 39 = .ok (.aload_n 0, 1) := by decide +kernel
theorem dX11_isTaken_40 : decode cX11_isTaken 40 = .ok (.invokevirtual 145, 3) := by decide +kernel
theorem dX11_isTaken_43 : decode cX11_isTaken 43 = .ok (.iconst (-1), 1) := by decide +kernel
theorem dX11_isTaken_44 : decode cX11_isTaken 44 = .ok (.if_icmp .eq 7, 3) := by decide +kernel
theorem dX11_isTaken_47 : decode cX11_isTaken 47 = .ok (.iconst 1, 1) := by decide +kernel
theorem dX11_isTaken_48 : decode cX11_isTaken 48 = .ok (.goto 4, 3) := by decide +kernel
theorem dX11_isTaken_51 : decode cX11_isTaken 51 = .ok (.iconst 0, 1) := by decide +kernel
theorem dX11_isTaken_52 : decode cX11_isTaken 52 = .ok (.ireturn, 1) := by decide +kernel
theorem dX11_readName_0 : decode cX11_readName 0 = .ok (.aload_n 0, 1) := by decide +kernel
theorem dX11_readName_1 : decode cX11_readName 1 = .ok (.invokevirtual 149, 3) := by decide +kernel
theorem dX11_readName_4 : decode cX11_readName 4 = .ok (.ifCond .ne 9, 3) := by decide +kernel
theorem dX11_readName_7 : decode cX11_readName 7 = .ok (.aload_n 0, 1) := by decide +kernel
theorem dX11_readName_8 : decode cX11_readName 8 = .ok (.iconst 2, 1) := by decide +kernel
theorem dX11_readName_9 : decode cX11_readName 9 = .ok (.invokevirtual 139, 3) := by decide +kernel
theorem dX11_readName_12 : decode cX11_readName 12 = .ok (.ireturn, 1) := by decide +kernel
theorem dX11_readName_13 : decode cX11_readName 13 = .ok (.aload_n 0, 1) := by decide +kernel
theorem dX11_readName_14 : decode cX11_readName 14 = .ok (.invokevirtual 153, 3) := by decide +kernel
theorem dX11_readName_17 : decode cX11_readName 17 = .ok (.ifCond .eq 9, 3) := by decide +kernel
theorem dX11_readName_20 : decode cX11_readName 20 = .ok (.aload_n 0, 1) := by decide +kernel
theorem dX11_readName_21 : decode cX11_readName 21 = .ok (.iconst 4, 1) := by decide +kernel
theorem dX11_readName_22 : decode cX11_readName 22 = .ok (.invokevirtual 139, 3) := by decide +kernel
theorem dX11_readName_25 : decode cX11_readName 25 = .ok (.ireturn, 1) := by decide +kernel
theorem dX11_readName_26 : decode cX11_readName 26 = .ok (.aload_n 0, 1) := by decide +kernel
theorem dX11_readName_27 : decode cX11_readName 27 = .ok (.getfield 29, 3) := by decide +kernel
theorem dX11_readName_30 : decode cX11_readName 30 = .ok (.iload_n 1, 1) := by decide +kernel
theorem dX11_readName_31 : decode cX11_readName 31 = .ok (.aload_n 0, 1) := by decide +kernel
theorem dX11_readName_32 : decode cX11_readName 32 = .ok (.getfield 106, 3) := by decide +kernel
theorem dX11_readName_35 : decode cX11_readName 35 = .ok (.lastore, 1) := by decide +kernel
theorem dX11_readName_36 : decode cX11_readName 36 = .ok (.aload_n 0, 1) := by decide +kernel
theorem dX11_readName_37 : decode cX11_readName 37 = .ok (.invokevirtual 142, 3) := by decide +kernel
theorem dX11_readName_40 : decode cX11_readName 40 = .ok (.iconst 1, 1) := by decide +kernel
theorem dX11_readName_41 : decode cX11_readName 41 = .ok (.ireturn, 1) := by decide +kernel
theorem dX11_readHome_0 : decode cX11_readHome 0 = .ok (.aload_n 0, 1) := by decide +kernel
theorem dX11_readHome_1 : decode cX11_readHome 1 = .ok (.getfield 13, 3) := by decide +kernel
theorem dX11_readHome_4 : decode cX11_readHome 4 = .ok (.sipush 230, 3) := by decide +kernel
theorem dX11_readHome_7 : decode cX11_readHome 7 = .ok (.iaload, 1) := by decide +kernel
theorem dX11_readHome_8 : decode cX11_readHome 8 = .ok (.istore_n 1, 1) := by decide +kernel
theorem dX11_readHome_9 : decode cX11_readHome 9 = .ok (.iload_n 1, 1) := by decide +kernel
theorem dX11_readHome_10 : decode cX11_readHome 10 = .ok (.bipush 10, 2) := by decide +kernel
theorem dX11_readHome_12 : decode cX11_readHome 12 = .ok (.if_icmp .ne 9, 3) := by decide +kernel
theorem dX11_readHome_15 : decode cX11_readHome 15 = .ok (.aload_n 0, 1) := by decide +kernel
theorem dX11_readHome_16 : decode cX11_readHome 16 = .ok (.iconst 5, 1) := by decide +kernel
theorem dX11_readHome_17 : decode cX11_readHome 17 = .ok (.invokevirtual 139, 3) := by decide +kernel
theorem dX11_readHome_20 : decode cX11_readHome 20 = .ok (.ireturn, 1) := by decide +kernel
theorem dX11_readHome_21 : decode cX11_readHome 21 = .ok (.aload_n 0, 1) := by decide +kernel
theorem dX11_readHome_22 : decode cX11_readHome 22 = .ok (.invokevirtual 142, 3) := by decide +kernel
theorem dX11_readHome_25 : decode cX11_readHome 25 = .ok (.bipush 8, 2) := by decide +kernel
theorem dX11_readHome_27 : decode cX11_readHome 27 = .ok (.iload_n 1, 1) := by decide +kernel
theorem dX11_readHome_28 : decode cX11_readHome 28 = .ok (.imul, 1) := by decide +kernel
theorem dX11_readHome_29 : decode cX11_readHome 29 = .ok (.istore_n 2, 1) := by decide +kernel
theorem dX11_readHome_30 : decode cX11_readHome 30 = .ok (.aload_n 0, 1) := by decide +kernel
theorem dX11_readHome_31 : decode cX11_readHome 31 = .ok (.iload_n 1, 1) := by decide +kernel
theorem dX11_readHome_32 : decode cX11_readHome 32 = .ok (.invokevirtual 156, 3) := by decide +kernel
theorem dX11_readHome_35 : decode cX11_readHome 35 = .ok (.ifCond .eq 28, 3) := by decide +kernel
theorem dX11_readHome_38 : decode cX11_readHome 38 = .ok (.aload_n 0, 1) := by decide +kernel
theorem dX11_readHome_39 : decode cX11_readHome 39 = .ok (.iload_n 2, 1) := by decide +kernel
theorem dX11_readHome_40 : decode cX11_readHome 40 = .ok (.iconst 0, 1) := by decide +kernel
theorem dX11_readHome_41 : decode cX11_readHome 41 = .ok (.iadd, 1) := by decide +kernel
theorem dX11_readHome_42 : decode cX11_readHome 42 = .ok (.iconst 1, 1) := by decide +kernel
theorem dX11_readHome_43 : decode cX11_readHome 43 = .ok (.iconst 4, 1) := by decide +kernel
theorem dX11_readHome_44 : decode cX11_readHome 44 = .ok (.invokevirtual 159, 3) := by decide +kernel
theorem dX11_readHome_47 : decode cX11_readHome 47 = .ok (.ifCond .eq 16, 3) := by decide +kernel
theorem dX11_readHome_50 : decode cX11_readHome 50 = .ok (.aload_n 0, 1) := by decide +kernel
theorem dX11_readHome_51 : decode cX11_readHome 51 = .ok (.iload_n 2, 1) := by decide +kernel
theorem dX11_readHome_52 : decode cX11_readHome 52 = .ok (.iconst 1, 1) := by decide +kernel
theorem dX11_readHome_53 : decode cX11_readHome 53 = .ok (.iadd, 1) := by decide +kernel
theorem dX11_readHome_54 : decode cX11_readHome 54 = .ok (.iconst 0, 1) := by decide +kernel
theorem dX11_readHome_55 : decode cX11_readHome 55 = .ok (.bipush 7, 2) := by decide +kernel
theorem dX11_readHome_57 : decode cX11_readHome 57 = .ok (.invokevirtual 159, 3) := by decide +kernel
theorem dX11_readHome_60 : decode cX11_readHome 60 = .ok (.ifCond .ne 5, 3) := by decide +kernel
theorem dX11_readHome_63 : decode cX11_readHome 63 = .ok (.iconst 0, 1) := by decide +kernel
theorem dX11_readHome_64 : decode cX11_readHome 64 = .ok (.ireturn, 1) := by decide +kernel
theorem dX11_readHome_65 : decode cX11_readHome 65 = .ok (.aload_n 0, 1) := by decide +kernel
theorem dX11_readHome_66 : decode cX11_readHome 66 = .ok (.getfield 13, 3) := by decide +kernel
theorem dX11_readHome_69 : decode cX11_readHome 69 = .ok (.iload_n 2, 1) := by decide +kernel
theorem dX11_readHome_70 : decode cX11_readHome 70 = .ok (.iconst 2, 1) := by decide +kernel
theorem dX11_readHome_71 : decode cX11_readHome 71 = .ok (.iadd, 1) := by decide +kernel
theorem dX11_readHome_72 : decode cX11_readHome 72 = .ok (.iconst (-1), 1) := by decide +kernel
theorem dX11_readHome_73 : decode cX11_readHome 73 = .ok (.iastore, 1) := by decide +kernel
theorem dX11_readHome_74 : decode cX11_readHome 74 = .ok (.aload_n 0, 1) := by decide +kernel
theorem dX11_readHome_75 : decode cX11_readHome 75 = .ok (.getfield 13, 3) := by decide +kernel
theorem dX11_readHome_78 : decode cX11_readHome 78 = .ok (.sipush 230, 3) := by decide +kernel
theorem dX11_readHome_81 : decode cX11_readHome 81 = .ok (.dup2, 1) := by decide +kernel
theorem dX11_readHome_82 : decode cX11_readHome 82 = .ok (.iaload, 1) := by decide +kernel
theorem dX11_readHome_83 : decode cX11_readHome 83 = .ok (.iconst 1, 1) := by decide +kernel
theorem dX11_readHome_84 : decode cX11_readHome 84 = .ok (.iadd, 1) := by decide +kernel
theorem dX11_readHome_85 : decode cX11_readHome 85 = .ok (.iastore, 1) := by decide +kernel
theorem dX11_readHome_86 : decode cX11_readHome 86 = .ok (.aload_n 0, 1) := by decide +kernel
theorem dX11_readHome_87 : decode cX11_readHome 87 = .ok (.invokevirtual 162, 3) := by decide +kernel
theorem dX11_readHome_90 : decode cX11_readHome 90 = .ok (.ireturn, 1) := by decide +kernel
theorem dX11_readIn_0 : decode cX11_readIn 0 = .ok (.aload_n 0, 1) := by decide +kernel
theorem dX11_readIn_1 : decode cX11_readIn 1 = .ok (.invokevirtual 142, 3) := by decide +kernel
theorem dX11_readIn_4 : decode cX11_readIn 4 = .ok (.aload_n 0, 1) := by decide +kernel
theorem dX11_readIn_5 : decode cX11_readIn 5 = .ok (.invokevirtual 149, 3) := by decide +kernel
theorem dX11_readIn_8 : decode cX11_readIn 8 = .ok (.ifCond .ne 9, 3) := by decide +kernel
theorem dX11_readIn_11 : decode cX11_readIn 11 = .ok (.aload_n 0, 1) := by decide +kernel
theorem dX11_readIn_12 : decode cX11_readIn 12 = .ok (.iconst 2, 1) := by decide +kernel
theorem dX11_readIn_13 : decode cX11_readIn 13 = .ok (.invokevirtual 139, 3) := by decide +kernel
theorem dX11_readIn_16 : decode cX11_readIn 16 = .ok (.ireturn, 1) := by decide +kernel
theorem dX11_readIn_17 : decode cX11_readIn 17 = .ok (.aload_n 0, 1) := by decide +kernel
theorem dX11_readIn_18 : decode cX11_readIn 18 = .ok (.invokevirtual 145, 3) := by decide +kernel
theorem dX11_readIn_21 : decode cX11_readIn 21 = .ok (.istore_n 2, 1) := by decide +kernel
theorem dX11_readIn_22 : decode cX11_readIn 22 = .ok (.iload_n 2, 1) := by decide +kernel
theorem dX11_readIn_23 : decode cX11_readIn 23 = .ok (.iconst (-1), 1) := by decide +kernel
theorem dX11_readIn_24 : decode cX11_readIn 24 = .ok (.if_icmp .eq 18, 3) := by decide +kernel
theorem dX11_readIn_27 : decode cX11_readIn 27 = .ok (.aload_n 0, 1) := by decide +kernel
theorem dX11_readIn_28 : decode cX11_readIn 28 = .ok (.getfield 13, 3) := by decide +kernel
theorem dX11_readIn_31 : decode cX11_readIn 31 = .ok (.bipush 8, 2) := by decide +kernel
theorem dX11_readIn_33 : decode cX11_readIn 33 = .ok (.iload_n 2, 1) := by decide +kernel
theorem dX11_readIn_34 : decode cX11_readIn 34 = .ok (.imul, 1) := by decide +kernel
theorem dX11_readIn_35 : decode cX11_readIn 35 = .ok (.iconst 2, 1) := by decide +kernel
theorem dX11_readIn_36 : decode cX11_readIn 36 = .ok (.iadd, 1) := by decide +kernel
theorem dX11_readIn_37 : decode cX11_readIn 37 = .ok (.iaload, 1) := by decide +kernel
theorem dX11_readIn_38 : decode cX11_readIn 38 = .ok (.iconst (-1), 1) := by decide +kernel
theorem dX11_readIn_39 : decode cX11_readIn 39 = .ok (.if_icmp .eq 9, 3) := by decide +kernel
theorem dX11_readIn_42 : decode cX11_readIn 42 = .ok (.aload_n 0, 1) := by decide +kernel
theorem dX11_readIn_43 : decode cX11_readIn 43 = .ok (.iconst 4, 1) := by decide +kernel
theorem dX11_readIn_44 : decode cX11_readIn 44 = .ok (.invokevirtual 139, 3) := by decide +kernel
theorem dX11_readIn_47 : decode cX11_readIn 47 = .ok (.ireturn, 1) := by decide +kernel
theorem dX11_readIn_48 : decode cX11_readIn 48 = .ok (.aload_n 0, 1) := by decide +kernel
theorem dX11_readIn_49 : decode cX11_readIn 49 = .ok (.getfield 13, 3) := by decide +kernel
theorem dX11_readIn_52 : decode cX11_readIn 52 = .ok (.iload_n 1, 1) := by decide +kernel
theorem dX11_readIn_53 : decode cX11_readIn 53 = .ok (.iconst 4, 1) := by decide +kernel
theorem dX11_readIn_54 : decode cX11_readIn 54 = .ok (.invokestatic 75, 3) := by decide +kernel
theorem dX11_readIn_57 : decode cX11_readIn 57 = .ok (.iload_n 2, 1) := by decide +kernel
theorem dX11_readIn_58 : decode cX11_readIn 58 = .ok (.iastore, 1) := by decide +kernel
theorem dX11_readIn_59 : decode cX11_readIn 59 = .ok (.aload_n 0, 1) := by decide +kernel
theorem dX11_readIn_60 : decode cX11_readIn 60 = .ok (.getfield 13, 3) := by decide +kernel
theorem dX11_readIn_63 : decode cX11_readIn 63 = .ok (.bipush 8, 2) := by decide +kernel
theorem dX11_readIn_65 : decode cX11_readIn 65 = .ok (.iload_n 2, 1) := by decide +kernel
theorem dX11_readIn_66 : decode cX11_readIn 66 = .ok (.imul, 1) := by decide +kernel
theorem dX11_readIn_67 : decode cX11_readIn 67 = .ok (.iconst 2, 1) := by decide +kernel
theorem dX11_readIn_68 : decode cX11_readIn 68 = .ok (.iadd, 1) := by decide +kernel
theorem dX11_readIn_69 : decode cX11_readIn 69 = .ok (.iload_n 1, 1) := by decide +kernel
theorem dX11_readIn_70 : decode cX11_readIn 70 = .ok (.iastore, 1) := by decide +kernel
theorem dX11_readIn_71 : decode cX11_readIn 71 = .ok (.aload_n 0, 1) := by decide +kernel
theorem dX11_readIn_72 : decode cX11_readIn 72 = .ok (.invokevirtual 142, 3) := by decide +kernel
theorem dX11_readIn_75 : decode cX11_readIn 75 = .ok (.iconst 1, 1) := by decide +kernel
theorem dX11_readIn_76 : decode cX11_readIn 76 = .ok (.ireturn, 1) := by decide +kernel
theorem dX11_readWish_0 : decode cX11_readWish 0 = .ok (.aload_n 0, 1) := by decide +kernel
theorem dX11_readWish_1 : decode cX11_readWish 1 = .ok (.invokevirtual 145, 3) := by decide +kernel
theorem dX11_readWish_4 : decode cX11_readWish 4 = .ok (.istore_n 2, 1) := by decide +kernel
theorem dX11_readWish_5 : decode cX11_readWish 5 = .ok (.iload_n 2, 1) := by decide +kernel
theorem dX11_readWish_6 : decode cX11_readWish 6 = .ok (.iconst (-1), 1) := by decide +kernel
theorem dX11_readWish_7 : decode cX11_readWish 7 = .ok (.if_icmp .ne 9, 3) := by decide +kernel
theorem dX11_readWish_10 : decode cX11_readWish 10 = .ok (.aload_n 0, 1) := by decide +kernel
theorem dX11_readWish_11 : decode cX11_readWish 11 = .ok (.iconst 4, 1) := by decide +kernel
theorem dX11_readWish_12 : decode cX11_readWish 12 = .ok (.invokevirtual 139, 3) := by decide +kernel
theorem dX11_readWish_15 : decode cX11_readWish 15 = .ok (.ireturn, 1) := by decide +kernel
theorem dX11_readWish_16 : decode cX11_readWish 16 = .ok (.aload_n 0, 1) := by decide +kernel
theorem dX11_readWish_17 : decode cX11_readWish 17 = .ok (.getfield 13, 3) := by decide +kernel
theorem dX11_readWish_20 : decode cX11_readWish 20 = .ok (.iload_n 1, 1) := by decide +kernel
theorem dX11_readWish_21 : decode cX11_readWish 21 = .ok (.bipush 11, 2) := by decide +kernel
theorem dX11_readWish_23 : decode cX11_readWish 23 = .ok (.invokestatic 75, 3) := by decide +kernel
theorem dX11_readWish_26 : decode cX11_readWish 26 = .ok (.iaload, 1) := by decide +kernel
theorem dX11_readWish_27 : decode cX11_readWish 27 = .ok (.istore_n 3, 1) := by decide +kernel
theorem dX11_readWish_28 : decode cX11_readWish 28 = .ok (.iconst 0, 1) := by decide +kernel
theorem dX11_readWish_29 : decode cX11_readWish 29 = .ok (.istore 4, 2) := by decide +kernel
theorem dX11_readWish_31 : decode cX11_readWish 31 = .ok (.iload 4, 2) := by decide +kernel
theorem dX11_readWish_33 : decode cX11_readWish 33 = .ok (.iload_n 3, 1) := by decide +kernel
theorem dX11_readWish_34 : decode cX11_readWish 34 = .ok (.if_icmp .ge 33, 3) := by decide +kernel
theorem dX11_readWish_37 : decode cX11_readWish 37 = .ok (.aload_n 0, 1) := by decide +kernel
theorem dX11_readWish_38 : decode cX11_readWish 38 = .ok (.getfield 13, 3) := by decide +kernel
theorem dX11_readWish_41 : decode cX11_readWish 41 = .ok (.iload_n 1, 1) := by decide +kernel
theorem dX11_readWish_42 : decode cX11_readWish 42 = .ok (.bipush 12, 2) := by decide +kernel
theorem dX11_readWish_44 : decode cX11_readWish 44 = .ok (.iload 4, 2) := by decide +kernel
theorem dX11_readWish_46 : decode cX11_readWish 46 = .ok (.iadd, 1) := by decide +kernel
theorem dX11_readWish_47 : decode cX11_readWish 47 = .ok (.invokestatic 75, 3) := by decide +kernel
theorem dX11_readWish_50 : decode cX11_readWish 50 = .ok (.iaload, 1) := by decide +kernel
theorem dX11_readWish_51 : decode cX11_readWish 51 = .ok (.iload_n 2, 1) := by decide +kernel
theorem dX11_readWish_52 : decode cX11_readWish 52 = .ok (.if_icmp .ne 9, 3) := by decide +kernel
theorem dX11_readWish_55 : decode cX11_readWish 55 = .ok (.aload_n 0, 1) := by decide +kernel
theorem dX11_readWish_56 : decode cX11_readWish 56 = .ok (.iconst 4, 1) := by decide +kernel
theorem dX11_readWish_57 : decode cX11_readWish 57 = .ok (.invokevirtual 139, 3) := by decide +kernel
theorem dX11_readWish_60 : decode cX11_readWish 60 = .ok (.ireturn, 1) := by decide +kernel
theorem dX11_readWish_61 : decode cX11_readWish 61 = .ok (.iinc 4 1, 3) := by decide +kernel
theorem dX11_readWish_64 : decode cX11_readWish 64 = .ok (.goto (-33), 3) := by decide +kernel
theorem dX11_readWish_67 : decode cX11_readWish 67 = .ok (.iload_n 3, 1) := by decide +kernel
theorem dX11_readWish_68 : decode cX11_readWish 68 = .ok (.bipush 6, 2) := by decide +kernel
theorem dX11_readWish_70 : decode cX11_readWish 70 = .ok (.if_icmp .ne 9, 3) := by decide +kernel
theorem dX11_readWish_73 : decode cX11_readWish 73 = .ok (.aload_n 0, 1) := by decide +kernel
theorem dX11_readWish_74 : decode cX11_readWish 74 = .ok (.iconst 5, 1) := by decide +kernel
theorem dX11_readWish_75 : decode cX11_readWish 75 = .ok (.invokevirtual 139, 3) := by decide +kernel
theorem dX11_readWish_78 : decode cX11_readWish 78 = .ok (.ireturn, 1) := by decide +kernel
theorem dX11_readWish_79 : decode cX11_readWish 79 = .ok (.aload_n 0, 1) := by decide +kernel
theorem dX11_readWish_80 : decode cX11_readWish 80 = .ok (.getfield 13, 3) := by decide +kernel
theorem dX11_readWish_83 : decode cX11_readWish 83 = .ok (.iload_n 1, 1) := by decide +kernel
theorem dX11_readWish_84 : decode cX11_readWish 84 = .ok (.bipush 12, 2) := by decide +kernel
theorem dX11_readWish_86 : decode cX11_readWish 86 = .ok (.iload_n 3, 1) := by decide +kernel
theorem dX11_readWish_87 : decode cX11_readWish 87 = .ok (.iadd, 1) := by decide +kernel
theorem dX11_readWish_88 : decode cX11_readWish 88 = .ok (.invokestatic 75, 3) := by decide +kernel
theorem dX11_readWish_91 : decode cX11_readWish 91 = .ok (.iload_n 2, 1) := by decide +kernel
theorem dX11_readWish_92 : decode cX11_readWish 92 = .ok (.iastore, 1) := by decide +kernel
theorem dX11_readWish_93 : decode cX11_readWish 93 = .ok (.aload_n 0, 1) := by decide +kernel
theorem dX11_readWish_94 : decode cX11_readWish 94 = .ok (.getfield 13, 3) := by decide +kernel
theorem dX11_readWish_97 : decode cX11_readWish 97 = .ok (.iload_n 1, 1) := by decide +kernel
theorem dX11_readWish_98 : decode cX11_readWish 98 = .ok (.bipush 11, 2) := by decide +kernel
theorem dX11_readWish_100 : decode cX11_readWish 100 = .ok (.invokestatic 75, 3) := by decide +kernel
theorem dX11_readWish_103 : decode cX11_readWish 103 = .ok (.dup2, 1) := by decide +kernel
theorem dX11_readWish_104 : decode cX11_readWish 104 = .ok (.iaload, 1) := by decide +kernel
theorem dX11_readWish_105 : decode cX11_readWish 105 = .ok (.iconst 1, 1) := by decide +kernel
theorem dX11_readWish_106 : decode cX11_readWish 106 = .ok (.iadd, 1) := by decide +kernel
theorem dX11_readWish_107 : decode cX11_readWish 107 = .ok (.iastore, 1) := by decide +kernel
theorem dX11_readWish_108 : decode cX11_readWish 108 = .ok (.aload_n 0, 1) := by decide +kernel
theorem dX11_readWish_109 : decode cX11_readWish 109 = .ok (.invokevirtual 142, 3) := by decide +kernel
theorem dX11_readWish_112 : decode cX11_readWish 112 = .ok (.iconst 1, 1) := by decide +kernel
theorem dX11_readWish_113 : decode cX11_readWish 113 = .ok (.ireturn, 1) := by decide +kernel
theorem dX11_readHouse_0 : decode cX11_readHouse 0 = .ok (.aload_n 0, 1) := by decide +kernel
theorem dX11_readHouse_1 : decode cX11_readHouse 1 = .ok (.getfield 13, 3) := by decide +kernel
theorem dX11_readHouse_4 : decode cX11_readHouse 4 = .ok (.sipush 231, 3) := by decide +kernel
theorem dX11_readHouse_7 : decode cX11_readHouse 7 = .ok (.iaload, 1) := by decide +kernel
theorem dX11_readHouse_8 : decode cX11_readHouse 8 = .ok (.istore_n 1, 1) := by decide +kernel
theorem dX11_readHouse_9 : decode cX11_readHouse 9 = .ok (.iload_n 1, 1) := by decide +kernel
theorem dX11_readHouse_10 : decode cX11_readHouse 10 = .ok (.bipush 8, 2) := by decide +kernel
theorem dX11_readHouse_12 : decode cX11_readHouse 12 = .ok (.if_icmp .ne 9, 3) := by decide +kernel
theorem dX11_readHouse_15 : decode cX11_readHouse 15 = .ok (.aload_n 0, 1) := by decide +kernel
theorem dX11_readHouse_16 : decode cX11_readHouse 16 = .ok (.iconst 5, 1) := by decide +kernel
theorem dX11_readHouse_17 : decode cX11_readHouse 17 = .ok (.invokevirtual 139, 3) := by decide +kernel
theorem dX11_readHouse_20 : decode cX11_readHouse 20 = .ok (.ireturn, 1) := by decide +kernel
theorem dX11_readHouse_21 : decode cX11_readHouse 21 = .ok (.aload_n 0, 1) := by decide +kernel
theorem dX11_readHouse_22 : decode cX11_readHouse 22 = .ok (.invokevirtual 142, 3) := by decide +kernel
theorem dX11_readHouse_25 : decode cX11_readHouse 25 = .ok (.aload_n 0, 1) := by decide +kernel
theorem dX11_readHouse_26 : decode cX11_readHouse 26 = .ok (.bipush 10, 2) := by decide +kernel
theorem dX11_readHouse_28 : decode cX11_readHouse 28 = .ok (.iload_n 1, 1) := by decide +kernel
theorem dX11_readHouse_29 : decode cX11_readHouse 29 = .ok (.iadd, 1) := by decide +kernel
theorem dX11_readHouse_30 : decode cX11_readHouse 30 = .ok (.invokevirtual 156, 3) := by decide +kernel
theorem dX11_readHouse_33 : decode cX11_readHouse 33 = .ok (.ifCond .eq 31, 3) := by decide +kernel
theorem dX11_readHouse_36 : decode cX11_readHouse 36 = .ok (.aload_n 0, 1) := by decide +kernel
theorem dX11_readHouse_37 : decode cX11_readHouse 37 = .ok (.iload_n 1, 1) := by decide +kernel
theorem dX11_readHouse_38 : decode cX11_readHouse 38 = .ok (.iconst 0, 1) := by decide +kernel
theorem dX11_readHouse_39 : decode cX11_readHouse 39 = .ok (.invokestatic 75, 3) := by decide +kernel
theorem dX11_readHouse_42 : decode cX11_readHouse 42 = .ok (.iconst 1, 1) := by decide +kernel
theorem dX11_readHouse_43 : decode cX11_readHouse 43 = .ok (.iconst 4, 1) := by decide +kernel
theorem dX11_readHouse_44 : decode cX11_readHouse 44 = .ok (.invokevirtual 159, 3) := by decide +kernel
theorem dX11_readHouse_47 : decode cX11_readHouse 47 = .ok (.ifCond .eq 17, 3) := by decide +kernel
theorem dX11_readHouse_50 : decode cX11_readHouse 50 = .ok (.aload_n 0, 1) := by decide +kernel
theorem dX11_readHouse_51 : decode cX11_readHouse 51 = .ok (.iload_n 1, 1) := by decide +kernel
theorem dX11_readHouse_52 : decode cX11_readHouse 52 = .ok (.iconst 1, 1) := by decide +kernel
theorem dX11_readHouse_53 : decode cX11_readHouse 53 = .ok (.invokestatic 75, 3) := by decide +kernel
theorem dX11_readHouse_56 : decode cX11_readHouse 56 = .ok (.iconst 1, 1) := by decide +kernel
theorem dX11_readHouse_57 : decode cX11_readHouse 57 = .ok (.iconst 4, 1) := by decide +kernel
theorem dX11_readHouse_58 : decode cX11_readHouse 58 = .ok (.invokevirtual 159, 3) := by decide +kernel
theorem dX11_readHouse_61 : decode cX11_readHouse 61 = .ok (.ifCond .ne 5, 3) := by decide +kernel
theorem dX11_readHouse_64 : decode cX11_readHouse 64 = .ok (.iconst 0, 1) := by decide +kernel
theorem dX11_readHouse_65 : decode cX11_readHouse 65 = .ok (.ireturn, 1) := by decide +kernel
theorem dX11_readHouse_66 : decode cX11_readHouse 66 = .ok (.aload_n 0, 1) := by decide +kernel
theorem dX11_readHouse_67 : decode cX11_readHouse 67 = .ok (.iload_n 1, 1) := by decide +kernel
theorem dX11_readHouse_68 : decode cX11_readHouse 68 = .ok (.iconst 2, 1) := by decide +kernel
theorem dX11_readHouse_69 : decode cX11_readHouse 69 = .ok (.invokestatic 75, 3) := by decide +kernel
theorem dX11_readHouse_72 : decode cX11_readHouse 72 = .ok (.iconst 0, 1) := by decide +kernel
theorem dX11_readHouse_73 : decode cX11_readHouse 73 = .ok (.bipush 7, 2) := by decide +kernel
theorem dX11_readHouse_75 : decode cX11_readHouse 75 = .ok (.invokevirtual 159, 3) := by decide +kernel
theorem dX11_readHouse_78 : decode cX11_readHouse 78 = .ok (.ifCond .eq 19, 3) := by decide +kernel
theorem dX11_readHouse_81 : decode cX11_readHouse 81 = .ok (.aload_n 0, 1) := by decide +kernel
theorem dX11_readHouse_82 : decode cX11_readHouse 82 = .ok (.iload_n 1, 1) := by decide +kernel
theorem dX11_readHouse_83 : decode cX11_readHouse 83 = .ok (.iconst 3, 1) := by decide +kernel
theorem dX11_readHouse_84 : decode cX11_readHouse 84 = .ok (.invokestatic 75, 3) := by decide +kernel
theorem dX11_readHouse_87 : decode cX11_readHouse 87 = .ok (.iconst 0, 1) := by decide +kernel
theorem dX11_readHouse_88 : decode cX11_readHouse 88 = .ok (.sipush 999, 3) := by decide +kernel
theorem dX11_readHouse_91 : decode cX11_readHouse 91 = .ok (.invokevirtual 159, 3) := by decide +kernel
theorem dX11_readHouse_94 : decode cX11_readHouse 94 = .ok (.ifCond .ne 5, 3) := by decide +kernel
theorem dX11_readHouse_97 : decode cX11_readHouse 97 = .ok (.iconst 0, 1) := by decide +kernel
theorem dX11_readHouse_98 : decode cX11_readHouse 98 = .ok (.ireturn, 1) := by decide +kernel
theorem dX11_readHouse_99 : decode cX11_readHouse 99 = .ok (.aload_n 0, 1) := by decide +kernel
theorem dX11_readHouse_100 : decode cX11_readHouse 100 = .ok (.getfield 13, 3) := by decide +kernel
theorem dX11_readHouse_103 : decode cX11_readHouse 103 = .ok (.iload_n 1, 1) := by decide +kernel
theorem dX11_readHouse_104 : decode cX11_readHouse 104 = .ok (.iconst 4, 1) := by decide +kernel
theorem dX11_readHouse_105 : decode cX11_readHouse 105 = .ok (.invokestatic 75, 3) := by decide +kernel
theorem dX11_readHouse_108 : decode cX11_readHouse 108 = .ok (.iconst (-1), 1) := by decide +kernel
theorem dX11_readHouse_109 : decode cX11_readHouse 109 = .ok (.iastore, 1) := by decide +kernel
theorem dX11_readHouse_110 : decode cX11_readHouse 110 = .ok (.aload_n 0, 1) := by decide +kernel
theorem dX11_readHouse_111 : decode cX11_readHouse 111 = .ok (.bipush 9, 2) := by decide +kernel
theorem dX11_readHouse_113 : decode cX11_readHouse 113 = .ok (.invokevirtual 130, 3) := by decide +kernel
theorem dX11_readHouse_116 : decode cX11_readHouse 116 = .ok (.ifCond .eq 13, 3) := by decide +kernel
theorem dX11_readHouse_119 : decode cX11_readHouse 119 = .ok (.aload_n 0, 1) := by decide +kernel
theorem dX11_readHouse_120 : decode cX11_readHouse 120 = .ok (.iload_n 1, 1) := by decide +kernel
theorem dX11_readHouse_121 : decode cX11_readHouse 121 = .ok (.invokevirtual 165, 3) := by decide +kernel
theorem dX11_readHouse_124 : decode cX11_readHouse 124 = .ok (.ifCond .ne 5, 3) := by decide +kernel
theorem dX11_readHouse_127 : decode cX11_readHouse 127 = .ok (.iconst 0, 1) := by decide +kernel
theorem dX11_readHouse_128 : decode cX11_readHouse 128 = .ok (.ireturn, 1) := by decide +kernel
theorem dX11_readHouse_129 : decode cX11_readHouse 129 = .ok (.aload_n 0, 1) := by decide +kernel
theorem dX11_readHouse_130 : decode cX11_readHouse 130 = .ok (.invokevirtual 149, 3) := by decide +kernel
theorem dX11_readHouse_133 : decode cX11_readHouse 133 = .ok (.ifCond .eq 13, 3) := by decide +kernel
theorem dX11_readHouse_136 : decode cX11_readHouse 136 = .ok (.aload_n 0, 1) := by decide +kernel
theorem dX11_readHouse_137 : decode cX11_readHouse 137 = .ok (.iload_n 1, 1) := by decide +kernel
theorem dX11_readHouse_138 : decode cX11_readHouse 138 = .ok (.invokevirtual 168, 3) := by decide +kernel
theorem dX11_readHouse_141 : decode cX11_readHouse 141 = .ok (.ifCond .ne (-12), 3) := by decide +kernel
theorem dX11_readHouse_144 : decode cX11_readHouse 144 = .ok (.iconst 0, 1) := by decide +kernel
theorem dX11_readHouse_145 : decode cX11_readHouse 145 = .ok (.ireturn, 1) := by decide +kernel
theorem dX11_readHouse_146 : decode cX11_readHouse 146 = .ok (.aload_n 0, 1) := by decide +kernel
theorem dX11_readHouse_147 : decode cX11_readHouse 147 = .ok (.getfield 13, 3) := by decide +kernel
theorem dX11_readHouse_150 : decode cX11_readHouse 150 = .ok (.sipush 231, 3) := by decide +kernel
theorem dX11_readHouse_153 : decode cX11_readHouse 153 = .ok (.dup2, 1) := by decide +kernel
theorem dX11_readHouse_154 : decode cX11_readHouse 154 = .ok (.iaload, 1) := by decide +kernel
theorem dX11_readHouse_155 : decode cX11_readHouse 155 = .ok (.iconst 1, 1) := by decide +kernel
theorem dX11_readHouse_156 : decode cX11_readHouse 156 = .ok (.iadd, 1) := by decide +kernel
theorem dX11_readHouse_157 : decode cX11_readHouse 157 = .ok (.iastore, 1) := by decide +kernel
theorem dX11_readHouse_158 : decode cX11_readHouse 158 = .ok (.aload_n 0, 1) := by decide +kernel
theorem dX11_readHouse_159 : decode cX11_readHouse 159 = .ok (.invokevirtual 162, 3) := by decide +kernel
theorem dX11_readHouse_162 : decode cX11_readHouse 162 = .ok (.ireturn, 1) := by decide +kernel
theorem dX11_leastOf_0 : decode cX11_leastOf 0 = .ok (.iload_n 0, 1) := by decide +kernel
theorem dX11_leastOf_1 : decode cX11_leastOf 1 = .ok (.iconst 2, 1) := by decide +kernel
theorem dX11_leastOf_2 : decode cX11_leastOf 2 = .ok (.if_icmp .eq 8, 3) := by decide +kernel
theorem dX11_leastOf_5 : decode cX11_leastOf 5 = .ok (.iload_n 0, 1) := by decide +kernel
theorem dX11_leastOf_6 : decode cX11_leastOf 6 = .ok (.iconst 3, 1) := by decide +kernel
theorem dX11_leastOf_7 : decode cX11_leastOf 7 = .ok (.if_icmp .ne 7, 3) := by decide +kernel
theorem dX11_leastOf_10 : decode cX11_leastOf 10 = .ok (.iconst 0, 1) := by decide +kernel
theorem dX11_leastOf_11 : decode cX11_leastOf 11 = .ok (.goto 4, 3) := by decide +kernel
theorem dX11_leastOf_14 : decode cX11_leastOf 14 = .ok (.iconst 1, 1) := by decide +kernel
theorem dX11_leastOf_15 : decode cX11_leastOf 15 = .ok (.ireturn, 1) := by decide +kernel
theorem dX11_mostOf_0 : decode cX11_mostOf 0 = .ok (.iload_n 0, 1) := by decide +kernel
theorem dX11_mostOf_1 : decode cX11_mostOf 1 = .ok (.ifCond .eq 8, 3) := by decide +kernel
theorem dX11_mostOf_4 : decode cX11_mostOf 4 = .ok (.iload_n 0, 1) := by decide +kernel
theorem dX11_mostOf_5 : decode cX11_mostOf 5 = .ok (.iconst 2, 1) := by decide +kernel
theorem dX11_mostOf_6 : decode cX11_mostOf 6 = .ok (.if_icmp .ne 8, 3) := by decide +kernel
theorem dX11_mostOf_9 : decode cX11_mostOf 9 = .ok (.bipush 9, 2) := by decide +kernel
theorem dX11_mostOf_11 : decode cX11_mostOf 11 = .ok (.goto 35, 3) := by decide +kernel
theorem dX11_mostOf_14 : decode cX11_mostOf 14 = .ok (.iload_n 0, 1) := by decide +kernel
theorem dX11_mostOf_15 : decode cX11_mostOf 15 = .ok (.iconst 1, 1) := by decide +kernel
theorem dX11_mostOf_16 : decode cX11_mostOf 16 = .ok (.if_icmp .ne 8, 3) := by decide +kernel
theorem dX11_mostOf_19 : decode cX11_mostOf 19 = .ok (.bipush 52, 2) := by decide +kernel
theorem dX11_mostOf_21 : decode cX11_mostOf 21 = .ok (.goto 25, 3) := by decide +kernel
theorem dX11_mostOf_24 : decode cX11_mostOf 24 = .ok (.iload_n 0, 1) := by decide +kernel
theorem dX11_mostOf_25 : decode cX11_mostOf 25 = .ok (.iconst 3, 1) := by decide +kernel
theorem dX11_mostOf_26 : decode cX11_mostOf 26 = .ok (.if_icmp .ne 8, 3) := by decide +kernel
theorem dX11_mostOf_29 : decode cX11_mostOf 29 = .ok (.bipush 100, 2) := by decide +kernel
theorem dX11_mostOf_31 : decode cX11_mostOf 31 = .ok (.goto 15, 3) := by decide +kernel
theorem dX11_mostOf_34 : decode cX11_mostOf 34 = .ok (.iload_n 0, 1) := by decide +kernel
theorem dX11_mostOf_35 : decode cX11_mostOf 35 = .ok (.iconst 4, 1) := by decide +kernel
theorem dX11_mostOf_36 : decode cX11_mostOf 36 = .ok (.if_icmp .ne 9, 3) := by decide +kernel
theorem dX11_mostOf_39 : decode cX11_mostOf 39 = .ok (.sipush 999, 3) := by decide +kernel
theorem dX11_mostOf_42 : decode cX11_mostOf 42 = .ok (.goto 4, 3) := by decide +kernel
theorem dX11_mostOf_45 : decode cX11_mostOf 45 = .ok (.iconst 3, 1) := by decide +kernel
theorem dX11_mostOf_46 : decode cX11_mostOf 46 = .ok (.ireturn, 1) := by decide +kernel
theorem dX11_readRule_0 : decode cX11_readRule 0 = .ok (.aload_n 0, 1) := by decide +kernel
theorem dX11_readRule_1 : decode cX11_readRule 1 = .ok (.invokevirtual 142, 3) := by decide +kernel
theorem dX11_readRule_4 : decode cX11_readRule 4 = .ok (.iconst 0, 1) := by decide +kernel
theorem dX11_readRule_5 : decode cX11_readRule 5 = .ok (.istore_n 1, 1) := by decide +kernel
theorem dX11_readRule_6 : decode cX11_readRule 6 = .ok (.iload_n 1, 1) := by decide +kernel
theorem dX11_readRule_7 : decode cX11_readRule 7 = .ok (.bipush 6, 2) := by decide +kernel
theorem dX11_readRule_9 : decode cX11_readRule 9 = .ok (.if_icmp .ge 17, 3) := by decide +kernel
theorem dX11_readRule_12 : decode cX11_readRule 12 = .ok (.aload_n 0, 1) := by decide +kernel
theorem dX11_readRule_13 : decode cX11_readRule 13 = .ok (.iload_n 1, 1) := by decide +kernel
theorem dX11_readRule_14 : decode cX11_readRule 14 = .ok (.invokevirtual 130, 3) := by decide +kernel
theorem dX11_readRule_17 : decode cX11_readRule 17 = .ok (.ifCond .ne 9, 3) := by decide +kernel
theorem dX11_readRule_20 : decode cX11_readRule 20 = .ok (.iinc 1 1, 3) := by decide +kernel
theorem dX11_readRule_23 : decode cX11_readRule 23 = .ok (.goto (-17), 3) := by decide +kernel
theorem dX11_readRule_26 : decode cX11_readRule 26 = .ok (.iload_n 1, 1) := by decide +kernel
theorem dX11_readRule_27 : decode cX11_readRule 27 = .ok (.bipush 6, 2) := by decide +kernel
theorem dX11_readRule_29 : decode cX11_readRule 29 = .ok (.if_icmp .ne 9, 3) := by decide +kernel
theorem dX11_readRule_32 : decode cX11_readRule 32 = .ok (.aload_n 0, 1) := by decide +kernel
theorem dX11_readRule_33 : decode cX11_readRule 33 = .ok (.iconst 2, 1) := by decide +kernel
theorem dX11_readRule_34 : decode cX11_readRule 34 = .ok (.invokevirtual 139, 3) := by decide +kernel
theorem dX11_readRule_37 : decode cX11_readRule 37 = .ok (.ireturn, 1) := by decide +kernel
theorem dX11_readRule_38 : decode cX11_readRule 38 = .ok (.aload_n 0, 1) := by decide +kernel
theorem dX11_readRule_39 : decode cX11_readRule 39 = .ok (.invokevirtual 142, 3) := by decide +kernel
theorem dX11_readRule_42 : decode cX11_readRule 42 = .ok (.aload_n 0, 1) := by decide +kernel
theorem dX11_readRule_43 : decode cX11_readRule 43 = .ok (.sipush 224, 3) := by decide +kernel
theorem dX11_readRule_46 : decode cX11_readRule 46 = .ok (.iload_n 1, 1) := by decide +kernel
theorem dX11_readRule_47 : decode cX11_readRule 47 = .ok (.iadd, 1) := by decide +kernel
theorem dX11_readRule_48 : decode cX11_readRule 48 = .ok (.iload_n 1, 1) := by decide +kernel
theorem dX11_readRule_49 : decode cX11_readRule 49 = .ok (.invokestatic 171, 3) := by decide +kernel
theorem dX11_readRule_52 : decode cX11_readRule 52 = .ok (.iload_n 1, 1) := by decide +kernel
theorem dX11_readRule_53 : decode cX11_readRule 53 = .ok (.invokestatic 174, 3) := by decide +kernel
theorem dX11_readRule_56 : decode cX11_readRule 56 = .ok (.invokevirtual 159, 3) := by decide +kernel
theorem dX11_readRule_59 : decode cX11_readRule 59 = .ok (.ifCond .eq 14, 3) := by decide +kernel
theorem dX11_readRule_62 : decode cX11_readRule 62 = .ok (.aload_n 0, 1) := by decide +kernel
theorem dX11_readRule_63 : decode cX11_readRule 63 = .ok (.invokevirtual 162, 3) := by decide +kernel
theorem dX11_readRule_66 : decode cX11_readRule 66 = .ok (.ifCond .eq 7, 3) := by decide +kernel
theorem dX11_readRule_69 : decode cX11_readRule 69 = .ok (.iconst 1, 1) := by decide +kernel
theorem dX11_readRule_70 : decode cX11_readRule 70 = .ok (.goto 4, 3) := by decide +kernel
theorem dX11_readRule_73 : decode cX11_readRule 73 = .ok (.iconst 0, 1) := by decide +kernel
theorem dX11_readRule_74 : decode cX11_readRule 74 = .ok (.ireturn, 1) := by decide +kernel
theorem dX11_readLine_0 : decode cX11_readLine 0 = .ok (.aload_n 0, 1) := by decide +kernel
theorem dX11_readLine_1 : decode cX11_readLine 1 = .ok (.bipush 6, 2) := by decide +kernel
theorem dX11_readLine_3 : decode cX11_readLine 3 = .ok (.invokevirtual 130, 3) := by decide +kernel
theorem dX11_readLine_6 : decode cX11_readLine 6 = .ok (.ifCond .eq 8, 3) := by decide +kernel
theorem dX11_readLine_9 : decode cX11_readLine 9 = .ok (.aload_n 0, 1) := by decide +kernel
theorem dX11_readLine_10 : decode cX11_readLine 10 = .ok (.invokevirtual 177, 3) := by decide +kernel
theorem dX11_readLine_13 : decode cX11_readLine 13 = .ok (.ireturn, 1) := by decide +kernel
theorem dX11_readLine_14 : decode cX11_readLine 14 = .ok (.aload_n 0, 1) := by decide +kernel
theorem dX11_readLine_15 : decode cX11_readLine 15 = .ok (.bipush 7, 2) := by decide +kernel
theorem dX11_readLine_17 : decode cX11_readLine 17 = .ok (.invokevirtual 130, 3) := by decide +kernel
theorem dX11_readLine_20 : decode cX11_readLine 20 = .ok (.ifCond .eq 8, 3) := by decide +kernel
theorem dX11_readLine_23 : decode cX11_readLine 23 = .ok (.aload_n 0, 1) := by decide +kernel
theorem dX11_readLine_24 : decode cX11_readLine 24 = .ok (.invokevirtual 180, 3) := by decide +kernel
theorem dX11_readLine_27 : decode cX11_readLine 27 = .ok (.ireturn, 1) := by decide +kernel
theorem dX11_readLine_28 : decode cX11_readLine 28 = .ok (.aload_n 0, 1) := by decide +kernel
theorem dX11_readLine_29 : decode cX11_readLine 29 = .ok (.bipush 8, 2) := by decide +kernel
theorem dX11_readLine_31 : decode cX11_readLine 31 = .ok (.invokevirtual 130, 3) := by decide +kernel
theorem dX11_readLine_34 : decode cX11_readLine 34 = .ok (.ifCond .eq 10, 3) := by decide +kernel
theorem dX11_readLine_37 : decode cX11_readLine 37 = .ok (.aload_n 0, 1) := by decide +kernel
theorem dX11_readLine_38 : decode cX11_readLine 38 = .ok (.invokevirtual 183, 3) := by decide +kernel
theorem dX11_readLine_41 : decode cX11_readLine 41 = .ok (.goto 8, 3) := by decide +kernel
theorem dX11_readLine_44 : decode cX11_readLine 44 = .ok (.aload_n 0, 1) := by decide +kernel
theorem dX11_readLine_45 : decode cX11_readLine 45 = .ok (.iconst 2, 1) := by decide +kernel
theorem dX11_readLine_46 : decode cX11_readLine 46 = .ok (.invokevirtual 139, 3) := by decide +kernel
theorem dX11_readLine_49 : decode cX11_readLine 49 = .ok (.ireturn, 1) := by decide +kernel
theorem dX11_load_0 : decode cX11_load 0 = .ok (.iload_n 1, 1) := by decide +kernel
theorem dX11_load_1 : decode cX11_load 1 = .ok (.iconst 0, 1) := by decide +kernel
theorem dX11_load_2 : decode cX11_load 2 = .ok (.aload_n 0, 1) := by decide +kernel
theorem dX11_load_3 : decode cX11_load 3 = .ok (.getfield 79, 3) := by decide +kernel
theorem dX11_load_6 : decode cX11_load 6 = .ok (.invokestatic 71, 3) := by decide +kernel
theorem dX11_load_9 : decode cX11_load 9 = .ok (.ifCond .ne 9, 3) := by decide +kernel
theorem dX11_load_12 : decode cX11_load 12 = .ok (.aload_n 0, 1) := by decide +kernel
theorem dX11_load_13 : decode cX11_load 13 = .ok (.iconst 1, 1) := by decide +kernel
theorem dX11_load_14 : decode cX11_load 14 = .ok (.invokevirtual 186, 3) := by decide +kernel
theorem dX11_load_17 : decode cX11_load 17 = .ok (.ireturn, 1) := by decide +kernel
theorem dX11_load_18 : decode cX11_load 18 = .ok (.aload_n 0, 1) := by decide +kernel
theorem dX11_load_19 : decode cX11_load 19 = .ok (.iload_n 1, 1) := by decide +kernel
theorem dX11_load_20 : decode cX11_load 20 = .ok (.putfield 86, 3) := by decide +kernel
theorem dX11_load_23 : decode cX11_load 23 = .ok (.aload_n 0, 1) := by decide +kernel
theorem dX11_load_24 : decode cX11_load 24 = .ok (.iconst 0, 1) := by decide +kernel
theorem dX11_load_25 : decode cX11_load 25 = .ok (.putfield 79, 3) := by decide +kernel
theorem dX11_load_28 : decode cX11_load 28 = .ok (.aload_n 0, 1) := by decide +kernel
theorem dX11_load_29 : decode cX11_load 29 = .ok (.iconst 0, 1) := by decide +kernel
theorem dX11_load_30 : decode cX11_load 30 = .ok (.putfield 89, 3) := by decide +kernel
theorem dX11_load_33 : decode cX11_load 33 = .ok (.aload_n 0, 1) := by decide +kernel
theorem dX11_load_34 : decode cX11_load 34 = .ok (.iconst 0, 1) := by decide +kernel
theorem dX11_load_35 : decode cX11_load 35 = .ok (.putfield 133, 3) := by decide +kernel
theorem dX11_load_38 : decode cX11_load 38 = .ok (.aload_n 0, 1) := by decide +kernel
theorem dX11_load_39 : decode cX11_load 39 = .ok (.iconst (-1), 1) := by decide +kernel
theorem dX11_load_40 : decode cX11_load 40 = .ok (.putfield 136, 3) := by decide +kernel
theorem dX11_load_43 : decode cX11_load 43 = .ok (.aload_n 0, 1) := by decide +kernel
theorem dX11_load_44 : decode cX11_load 44 = .ok (.getfield 13, 3) := by decide +kernel
theorem dX11_load_47 : decode cX11_load 47 = .ok (.invokestatic 61, 3) := by decide +kernel
theorem dX11_load_50 : decode cX11_load 50 = .ok (.aload_n 0, 1) := by decide +kernel
theorem dX11_load_51 : decode cX11_load 51 = .ok (.invokevirtual 142, 3) := by decide +kernel
theorem dX11_load_54 : decode cX11_load 54 = .ok (.iconst 1, 1) := by decide +kernel
theorem dX11_load_55 : decode cX11_load 55 = .ok (.istore_n 2, 1) := by decide +kernel
theorem dX11_load_56 : decode cX11_load 56 = .ok (.iload_n 2, 1) := by decide +kernel
theorem dX11_load_57 : decode cX11_load 57 = .ok (.ifCond .eq 18, 3) := by decide +kernel
theorem dX11_load_60 : decode cX11_load 60 = .ok (.aload_n 0, 1) := by decide +kernel
theorem dX11_load_61 : decode cX11_load 61 = .ok (.getfield 99, 3) := by decide +kernel
theorem dX11_load_64 : decode cX11_load 64 = .ok (.ifCond .eq 11, 3) := by decide +kernel
theorem dX11_load_67 : decode cX11_load 67 = .ok (.aload_n 0, 1) := by decide +kernel
theorem dX11_load_68 : decode cX11_load 68 = .ok (.invokevirtual 189, 3) := by decide +kernel
theorem dX11_load_71 : decode cX11_load 71 = .ok (.istore_n 2, 1) := by decide +kernel
theorem dX11_load_72 : decode cX11_load 72 = .ok (.goto (-16), 3) := by decide +kernel
theorem dX11_load_75 : decode cX11_load 75 = .ok (.aload_n 0, 1) := by decide +kernel
theorem dX11_load_76 : decode cX11_load 76 = .ok (.aload_n 0, 1) := by decide +kernel
theorem dX11_load_77 : decode cX11_load 77 = .ok (.getfield 133, 3) := by decide +kernel
theorem dX11_load_80 : decode cX11_load 80 = .ok (.putfield 32, 3) := by decide +kernel
theorem dX11_load_83 : decode cX11_load 83 = .ok (.aload_n 0, 1) := by decide +kernel
theorem dX11_load_84 : decode cX11_load 84 = .ok (.aload_n 0, 1) := by decide +kernel
theorem dX11_load_85 : decode cX11_load 85 = .ok (.getfield 136, 3) := by decide +kernel
theorem dX11_load_88 : decode cX11_load 88 = .ok (.putfield 36, 3) := by decide +kernel
theorem dX11_load_91 : decode cX11_load 91 = .ok (.iload_n 2, 1) := by decide +kernel
theorem dX11_load_92 : decode cX11_load 92 = .ok (.ifCond .ne 10, 3) := by decide +kernel
theorem dX11_load_95 : decode cX11_load 95 = .ok (.aload_n 0, 1) := by decide +kernel
theorem dX11_load_96 : decode cX11_load 96 = .ok (.bipush 9, 2) := by decide +kernel
theorem dX11_load_98 : decode cX11_load 98 = .ok (.invokevirtual 186, 3) := by decide +kernel
theorem dX11_load_101 : decode cX11_load 101 = .ok (.ireturn, 1) := by decide +kernel
theorem dX11_load_102 : decode cX11_load 102 = .ok (.aload_n 0, 1) := by decide +kernel
theorem dX11_load_103 : decode cX11_load 103 = .ok (.getfield 13, 3) := by decide +kernel
theorem dX11_load_106 : decode cX11_load 106 = .ok (.aload_n 0, 1) := by decide +kernel
theorem dX11_load_107 : decode cX11_load 107 = .ok (.getfield 7, 3) := by decide +kernel
theorem dX11_load_110 : decode cX11_load 110 = .ok (.invokestatic 192, 3) := by decide +kernel
theorem dX11_load_113 : decode cX11_load 113 = .ok (.iconst 0, 1) := by decide +kernel
theorem dX11_load_114 : decode cX11_load 114 = .ok (.istore_n 3, 1) := by decide +kernel
theorem dX11_load_115 : decode cX11_load 115 = .ok (.iload_n 3, 1) := by decide +kernel
theorem dX11_load_116 : decode cX11_load 116 = .ok (.bipush 18, 2) := by decide +kernel
theorem dX11_load_118 : decode cX11_load 118 = .ok (.if_icmp .ge 21, 3) := by decide +kernel
theorem dX11_load_121 : decode cX11_load 121 = .ok (.aload_n 0, 1) := by decide +kernel
theorem dX11_load_122 : decode cX11_load 122 = .ok (.getfield 25, 3) := by decide +kernel
theorem dX11_load_125 : decode cX11_load 125 = .ok (.iload_n 3, 1) := by decide +kernel
theorem dX11_load_126 : decode cX11_load 126 = .ok (.aload_n 0, 1) := by decide +kernel
theorem dX11_load_127 : decode cX11_load 127 = .ok (.getfield 29, 3) := by decide +kernel
theorem dX11_load_130 : decode cX11_load 130 = .ok (.iload_n 3, 1) := by decide +kernel
theorem dX11_load_131 : decode cX11_load 131 = .ok (.laload, 1) := by decide +kernel
theorem dX11_load_132 : decode cX11_load 132 = .ok (.lastore, 1) := by decide +kernel
theorem dX11_load_133 : decode cX11_load 133 = .ok (.iinc 3 1, 3) := by decide +kernel
theorem dX11_load_136 : decode cX11_load 136 = .ok (.goto (-21), 3) := by decide +kernel
theorem dX11_load_139 : decode cX11_load 139 = .ok (.aload_n 0, 1) := by decide +kernel
theorem dX11_load_140 : decode cX11_load 140 = .ok (.iconst 0, 1) := by decide +kernel
theorem dX11_load_141 : decode cX11_load 141 = .ok (.putfield 196, 3) := by decide +kernel
theorem dX11_load_144 : decode cX11_load 144 = .ok (.aload_n 0, 1) := by decide +kernel
theorem dX11_load_145 : decode cX11_load 145 = .ok (.aload_n 0, 1) := by decide +kernel
theorem dX11_load_146 : decode cX11_load 146 = .ok (.getfield 7, 3) := by decide +kernel
theorem dX11_load_149 : decode cX11_load 149 = .ok (.sipush 231, 3) := by decide +kernel
theorem dX11_load_152 : decode cX11_load 152 = .ok (.iaload, 1) := by decide +kernel
theorem dX11_load_153 : decode cX11_load 153 = .ok (.invokevirtual 199, 3) := by decide +kernel
theorem dX11_load_156 : decode cX11_load 156 = .ok (.ireturn, 1) := by decide +kernel
theorem dX11_copies_0 : decode cX11_copies 0 = .ok (.iconst 0, 1) := by decide +kernel
theorem dX11_copies_1 : decode cX11_copies 1 = .ok (.istore_n 2, 1) := by decide +kernel
theorem dX11_copies_2 : decode cX11_copies 2 = .ok (.iload_n 2, 1) := by decide +kernel
theorem dX11_copies_3 : decode cX11_copies 3 = .ok (.sipush 390, 3) := by decide +kernel
theorem dX11_copies_6 : decode cX11_copies 6 = .ok (.if_icmp .ge 15, 3) := by decide +kernel
theorem dX11_copies_9 : decode cX11_copies 9 = .ok (.aload_n 1, 1) := by decide +kernel
theorem dX11_copies_10 : decode cX11_copies 10 = .ok (.iload_n 2, 1) := by decide +kernel
theorem dX11_copies_11 : decode cX11_copies 11 = .ok (.aload_n 0, 1) := by decide +kernel
theorem dX11_copies_12 : decode cX11_copies 12 = .ok (.iload_n 2, 1) := by decide +kernel
theorem dX11_copies_13 : decode cX11_copies 13 = .ok (.iaload, 1) := by decide +kernel
theorem dX11_copies_14 : decode cX11_copies 14 = .ok (.iastore, 1) := by decide +kernel
theorem dX11_copies_15 : decode cX11_copies 15 = .ok (.iinc 2 1, 3) := by decide +kernel
theorem dX11_copies_18 : decode cX11_copies 18 = .ok (.goto (-16), 3) := by decide +kernel
theorem dX11_copies_21 : decode cX11_copies 21 = .ok (.return_, 1) := by decide +kernel
theorem dX11_fault_0 : decode cX11_fault 0 = .ok (.aload_n 0, 1) := by decide +kernel
theorem dX11_fault_1 : decode cX11_fault 1 = .ok (.iconst 0, 1) := by decide +kernel
theorem dX11_fault_2 : decode cX11_fault 2 = .ok (.putfield 65, 3) := by decide +kernel
theorem dX11_fault_5 : decode cX11_fault 5 = .ok (.iload_n 1, 1) := by decide +kernel
theorem dX11_fault_6 : decode cX11_fault 6 = .ok (.ifCond .ne 10, 3) := by decide +kernel
theorem dX11_fault_9 : decode cX11_fault 9 = .ok (.aload_n 0, 1) := by decide +kernel
theorem dX11_fault_10 : decode cX11_fault 10 = .ok (.getfield 32, 3) := by decide +kernel
theorem dX11_fault_13 : decode cX11_fault 13 = .ok (.goto 16, 3) := by decide +kernel
theorem dX11_fault_16 : decode cX11_fault 16 = .ok (.iload_n 1, 1) := by decide +kernel
theorem dX11_fault_17 : decode cX11_fault 17 = .ok (.iconst 1, 1) := by decide +kernel
theorem dX11_fault_18 : decode cX11_fault 18 = .ok (.if_icmp .ne 10, 3) := by decide +kernel
theorem dX11_fault_21 : decode cX11_fault 21 = .ok (.aload_n 0, 1) := by decide +kernel
theorem dX11_fault_22 : decode cX11_fault 22 = .ok (.getfield 36, 3) := by decide +kernel
theorem dX11_fault_25 : decode cX11_fault 25 = .ok (.goto 4, 3) := by decide +kernel
theorem dX11_fault_28 : decode cX11_fault 28 = .ok (.iconst (-1), 1) := by decide +kernel
theorem dX11_fault_29 : decode cX11_fault 29 = .ok (.ireturn, 1) := by decide +kernel
theorem dX11_isFree_0 : decode cX11_isFree 0 = .ok (.aload_n 0, 1) := by decide +kernel
theorem dX11_isFree_1 : decode cX11_isFree 1 = .ok (.iload_n 1, 1) := by decide +kernel
theorem dX11_isFree_2 : decode cX11_isFree 2 = .ok (.iconst 2, 1) := by decide +kernel
theorem dX11_isFree_3 : decode cX11_isFree 3 = .ok (.invokevirtual 202, 3) := by decide +kernel
theorem dX11_isFree_6 : decode cX11_isFree 6 = .ok (.iconst (-1), 1) := by decide +kernel
theorem dX11_isFree_7 : decode cX11_isFree 7 = .ok (.if_icmp .ne 26, 3) := by decide +kernel
theorem dX11_isFree_10 : decode cX11_isFree 10 = .ok (.aload_n 0, 1) := by decide +kernel
theorem dX11_isFree_11 : decode cX11_isFree 11 = .ok (.iload_n 1, 1) := by decide +kernel
theorem dX11_isFree_12 : decode cX11_isFree 12 = .ok (.iconst 3, 1) := by decide +kernel
theorem dX11_isFree_13 : decode cX11_isFree 13 = .ok (.invokevirtual 202, 3) := by decide +kernel
theorem dX11_isFree_16 : decode cX11_isFree 16 = .ok (.ifCond .ne 17, 3) := by decide +kernel
theorem dX11_isFree_19 : decode cX11_isFree 19 = .ok (.aload_n 0, 1) := by decide +kernel
theorem dX11_isFree_20 : decode cX11_isFree 20 = .ok (.iload_n 1, 1) := by decide +kernel
theorem dX11_isFree_21 : decode cX11_isFree 21 = .ok (.bipush 6, 2) := by decide +kernel
theorem dX11_isFree_23 : decode cX11_isFree 23 = .ok (.invokevirtual 202, 3) := by decide +kernel
theorem dX11_isFree_26 : decode cX11_isFree 26 = .ok (.ifCond .ne 7, 3) := by decide +kernel
theorem dX11_isFree_29 : decode cX11_isFree 29 = .ok (.iconst 1, 1) := by decide +kernel
theorem dX11_isFree_30 : decode cX11_isFree 30 = .ok (.goto 4, 3) := by decide +kernel
theorem dX11_isFree_33 : decode cX11_isFree 33 = .ok (.iconst 0, 1) := by decide +kernel
theorem dX11_isFree_34 : decode cX11_isFree 34 = .ok (.ireturn, 1) := by decide +kernel
theorem dX11_isIn_0 : decode cX11_isIn 0 = .ok (.aload_n 0, 1) := by decide +kernel
theorem dX11_isIn_1 : decode cX11_isIn 1 = .ok (.iload_n 1, 1) := by decide +kernel
theorem dX11_isIn_2 : decode cX11_isIn 2 = .ok (.bipush 8, 2) := by decide +kernel
theorem dX11_isIn_4 : decode cX11_isIn 4 = .ok (.invokevirtual 205, 3) := by decide +kernel
theorem dX11_isIn_7 : decode cX11_isIn 7 = .ok (.ifCond .ne 7, 3) := by decide +kernel
theorem dX11_isIn_10 : decode cX11_isIn 10 = .ok (.iconst 1, 1) := by decide +kernel
theorem dX11_isIn_11 : decode cX11_isIn 11 = .ok (.goto 4, 3) := by decide +kernel
theorem dX11_isIn_14 : decode cX11_isIn 14 = .ok (.iconst 0, 1) := by decide +kernel
theorem dX11_isIn_15 : decode cX11_isIn 15 = .ok (.ireturn, 1) := by decide +kernel
theorem dX11_mayHope_0 : decode cX11_mayHope 0 = .ok (.aload_n 0, 1) := by decide +kernel
theorem dX11_mayHope_1 : decode cX11_mayHope 1 = .ok (.iload_n 1, 1) := by decide +kernel
theorem dX11_mayHope_2 : decode cX11_mayHope 2 = .ok (.invokevirtual 208, 3) := by decide +kernel
theorem dX11_mayHope_5 : decode cX11_mayHope 5 = .ok (.ifCond .eq 17, 3) := by decide +kernel
theorem dX11_mayHope_8 : decode cX11_mayHope 8 = .ok (.aload_n 0, 1) := by decide +kernel
theorem dX11_mayHope_9 : decode cX11_mayHope 9 = .ok (.iload_n 1, 1) := by decide +kernel
theorem dX11_mayHope_10 : decode cX11_mayHope 10 = .ok (.bipush 6, 2) := by decide +kernel
theorem dX11_mayHope_12 : decode cX11_mayHope 12 = .ok (.invokevirtual 205, 3) := by decide +kernel
theorem dX11_mayHope_15 : decode cX11_mayHope 15 = .ok (.ifCond .ne 7, 3) := by decide +kernel
theorem dX11_mayHope_18 : decode cX11_mayHope 18 = .ok (.iconst 1, 1) := by decide +kernel
theorem dX11_mayHope_19 : decode cX11_mayHope 19 = .ok (.goto 4, 3) := by decide +kernel
theorem dX11_mayHope_22 : decode cX11_mayHope 22 = .ok (.iconst 0, 1) := by decide +kernel
theorem dX11_mayHope_23 : decode cX11_mayHope 23 = .ok (.ireturn, 1) := by decide +kernel
theorem dX11_bandNow_0 : decode cX11_bandNow 0 = .ok (.iconst 1, 1) := by decide +kernel
theorem dX11_bandNow_1 : decode cX11_bandNow 1 = .ok (.aload_n 0, 1) := by decide +kernel
theorem dX11_bandNow_2 : decode cX11_bandNow 2 = .ok (.iload_n 1, 1) := by decide +kernel
theorem dX11_bandNow_3 : decode cX11_bandNow 3 = .ok (.iconst 0, 1) := by decide +kernel
theorem dX11_bandNow_4 : decode cX11_bandNow 4 = .ok (.invokevirtual 205, 3) := by decide +kernel
theorem dX11_bandNow_7 : decode cX11_bandNow 7 = .ok (.sipush 1000, 3) := by decide +kernel
theorem dX11_bandNow_10 : decode cX11_bandNow 10 = .ok (.bipush 7, 2) := by decide +kernel
theorem dX11_bandNow_12 : decode cX11_bandNow 12 = .ok (.aload_n 0, 1) := by decide +kernel
theorem dX11_bandNow_13 : decode cX11_bandNow 13 = .ok (.getfield 7, 3) := by decide +kernel
theorem dX11_bandNow_16 : decode cX11_bandNow 16 = .ok (.sipush 232, 3) := by decide +kernel
theorem dX11_bandNow_19 : decode cX11_bandNow 19 = .ok (.iaload, 1) := by decide +kernel
theorem dX11_bandNow_20 : decode cX11_bandNow 20 = .ok (.imul, 1) := by decide +kernel
theorem dX11_bandNow_21 : decode cX11_bandNow 21 = .ok (.iadd, 1) := by decide +kernel
theorem dX11_bandNow_22 : decode cX11_bandNow 22 = .ok (.aload_n 0, 1) := by decide +kernel
theorem dX11_bandNow_23 : decode cX11_bandNow 23 = .ok (.iload_n 1, 1) := by decide +kernel
theorem dX11_bandNow_24 : decode cX11_bandNow 24 = .ok (.iconst 3, 1) := by decide +kernel
theorem dX11_bandNow_25 : decode cX11_bandNow 25 = .ok (.invokevirtual 205, 3) := by decide +kernel
theorem dX11_bandNow_28 : decode cX11_bandNow 28 = .ok (.isub, 1) := by decide +kernel
theorem dX11_bandNow_29 : decode cX11_bandNow 29 = .ok (.aload_n 0, 1) := by decide +kernel
theorem dX11_bandNow_30 : decode cX11_bandNow 30 = .ok (.getfield 7, 3) := by decide +kernel
theorem dX11_bandNow_33 : decode cX11_bandNow 33 = .ok (.sipush 228, 3) := by decide +kernel
theorem dX11_bandNow_36 : decode cX11_bandNow 36 = .ok (.iaload, 1) := by decide +kernel
theorem dX11_bandNow_37 : decode cX11_bandNow 37 = .ok (.idiv, 1) := by decide +kernel
theorem dX11_bandNow_38 : decode cX11_bandNow 38 = .ok (.isub, 1) := by decide +kernel
theorem dX11_bandNow_39 : decode cX11_bandNow 39 = .ok (.invokestatic 211, 3) := by decide +kernel
theorem dX11_bandNow_42 : decode cX11_bandNow 42 = .ok (.ireturn, 1) := by decide +kernel
theorem dX11_doesFit_0 : decode cX11_doesFit 0 = .ok (.aload_n 0, 1) := by decide +kernel
theorem dX11_doesFit_1 : decode cX11_doesFit 1 = .ok (.iload_n 2, 1) := by decide +kernel
theorem dX11_doesFit_2 : decode cX11_doesFit 2 = .ok (.iconst 0, 1) := by decide +kernel
theorem dX11_doesFit_3 : decode cX11_doesFit 3 = .ok (.invokevirtual 202, 3) := by decide +kernel
theorem dX11_doesFit_6 : decode cX11_doesFit 6 = .ok (.aload_n 0, 1) := by decide +kernel
theorem dX11_doesFit_7 : decode cX11_doesFit 7 = .ok (.iload_n 1, 1) := by decide +kernel
theorem dX11_doesFit_8 : decode cX11_doesFit 8 = .ok (.iconst 1, 1) := by decide +kernel
theorem dX11_doesFit_9 : decode cX11_doesFit 9 = .ok (.invokevirtual 205, 3) := by decide +kernel
theorem dX11_doesFit_12 : decode cX11_doesFit 12 = .ok (.isub, 1) := by decide +kernel
theorem dX11_doesFit_13 : decode cX11_doesFit 13 = .ok (.iconst 0, 1) := by decide +kernel
theorem dX11_doesFit_14 : decode cX11_doesFit 14 = .ok (.iconst 1, 1) := by decide +kernel
theorem dX11_doesFit_15 : decode cX11_doesFit 15 = .ok (.invokestatic 71, 3) := by decide +kernel
theorem dX11_doesFit_18 : decode cX11_doesFit 18 = .ok (.ireturn, 1) := by decide +kernel
theorem dX11_isBid_0 : decode cX11_isBid 0 = .ok (.aload_n 0, 1) := by decide +kernel
theorem dX11_isBid_1 : decode cX11_isBid 1 = .ok (.iload_n 1, 1) := by decide +kernel
theorem dX11_isBid_2 : decode cX11_isBid 2 = .ok (.bipush 10, 2) := by decide +kernel
theorem dX11_isBid_4 : decode cX11_isBid 4 = .ok (.invokevirtual 205, 3) := by decide +kernel
theorem dX11_isBid_7 : decode cX11_isBid 7 = .ok (.iload_n 2, 1) := by decide +kernel
theorem dX11_isBid_8 : decode cX11_isBid 8 = .ok (.ishr, 1) := by decide +kernel
theorem dX11_isBid_9 : decode cX11_isBid 9 = .ok (.iconst 1, 1) := by decide +kernel
theorem dX11_isBid_10 : decode cX11_isBid 10 = .ok (.iand, 1) := by decide +kernel
theorem dX11_isBid_11 : decode cX11_isBid 11 = .ok (.iconst 1, 1) := by decide +kernel
theorem dX11_isBid_12 : decode cX11_isBid 12 = .ok (.if_icmp .ne 7, 3) := by decide +kernel
theorem dX11_isBid_15 : decode cX11_isBid 15 = .ok (.iconst 1, 1) := by decide +kernel
theorem dX11_isBid_16 : decode cX11_isBid 16 = .ok (.goto 4, 3) := by decide +kernel
theorem dX11_isBid_19 : decode cX11_isBid 19 = .ok (.iconst 0, 1) := by decide +kernel
theorem dX11_isBid_20 : decode cX11_isBid 20 = .ok (.ireturn, 1) := by decide +kernel
theorem dX11_wishOf_0 : decode cX11_wishOf 0 = .ok (.iconst 0, 1) := by decide +kernel
theorem dX11_wishOf_1 : decode cX11_wishOf 1 = .ok (.istore_n 3, 1) := by decide +kernel
theorem dX11_wishOf_2 : decode cX11_wishOf 2 = .ok (.iload_n 3, 1) := by decide +kernel
theorem dX11_wishOf_3 : decode cX11_wishOf 3 = .ok (.aload_n 0, 1) := by decide +kernel
theorem dX11_wishOf_4 : decode cX11_wishOf 4 = .ok (.iload_n 1, 1) := by decide +kernel
theorem dX11_wishOf_5 : decode cX11_wishOf 5 = .ok (.bipush 11, 2) := by decide +kernel
theorem dX11_wishOf_7 : decode cX11_wishOf 7 = .ok (.invokevirtual 205, 3) := by decide +kernel
theorem dX11_wishOf_10 : decode cX11_wishOf 10 = .ok (.if_icmp .ge 24, 3) := by decide +kernel
theorem dX11_wishOf_13 : decode cX11_wishOf 13 = .ok (.aload_n 0, 1) := by decide +kernel
theorem dX11_wishOf_14 : decode cX11_wishOf 14 = .ok (.iload_n 1, 1) := by decide +kernel
theorem dX11_wishOf_15 : decode cX11_wishOf 15 = .ok (.bipush 12, 2) := by decide +kernel
theorem dX11_wishOf_17 : decode cX11_wishOf 17 = .ok (.iload_n 3, 1) := by decide +kernel
theorem dX11_wishOf_18 : decode cX11_wishOf 18 = .ok (.iadd, 1) := by decide +kernel
theorem dX11_wishOf_19 : decode cX11_wishOf 19 = .ok (.invokevirtual 205, 3) := by decide +kernel
theorem dX11_wishOf_22 : decode cX11_wishOf 22 = .ok (.iload_n 2, 1) := by decide +kernel
theorem dX11_wishOf_23 : decode cX11_wishOf 23 = .ok (.if_icmp .ne 5, 3) := by decide +kernel
theorem dX11_wishOf_26 : decode cX11_wishOf 26 = .ok (.iload_n 3, 1) := by decide +kernel
theorem dX11_wishOf_27 : decode cX11_wishOf 27 = .ok (.ireturn, 1) := by decide +kernel
theorem dX11_wishOf_28 : decode cX11_wishOf 28 = .ok (.iinc 3 1, 3) := by decide +kernel
theorem dX11_wishOf_31 : decode cX11_wishOf 31 = .ok (.goto (-29), 3) := by decide +kernel
theorem dX11_wishOf_34 : decode cX11_wishOf 34 = .ok (.iconst (-1), 1) := by decide +kernel
theorem dX11_wishOf_35 : decode cX11_wishOf 35 = .ok (.ireturn, 1) := by decide +kernel
theorem dX11_wouldTake_0 : decode cX11_wouldTake 0 = .ok (.aload_n 0, 1) := by decide +kernel
theorem dX11_wouldTake_1 : decode cX11_wouldTake 1 = .ok (.iload_n 1, 1) := by decide +kernel
theorem dX11_wouldTake_2 : decode cX11_wouldTake 2 = .ok (.bipush 11, 2) := by decide +kernel
theorem dX11_wouldTake_4 : decode cX11_wouldTake 4 = .ok (.invokevirtual 205, 3) := by decide +kernel
theorem dX11_wouldTake_7 : decode cX11_wouldTake 7 = .ok (.ifCond .eq 13, 3) := by decide +kernel
theorem dX11_wouldTake_10 : decode cX11_wouldTake 10 = .ok (.aload_n 0, 1) := by decide +kernel
theorem dX11_wouldTake_11 : decode cX11_wouldTake 11 = .ok (.iload_n 1, 1) := by decide +kernel
theorem dX11_wouldTake_12 : decode cX11_wouldTake 12 = .ok (.iload_n 2, 1) := by decide +kernel
theorem dX11_wouldTake_13 : decode cX11_wouldTake 13 = .ok (.invokevirtual 216, 3) := by decide +kernel
theorem dX11_wouldTake_16 : decode cX11_wouldTake 16 = .ok (.iconst (-1), 1) := by decide +kernel
theorem dX11_wouldTake_17 : decode cX11_wouldTake 17 = .ok (.if_icmp .eq 7, 3) := by decide +kernel
theorem dX11_wouldTake_20 : decode cX11_wouldTake 20 = .ok (.iconst 1, 1) := by decide +kernel
theorem dX11_wouldTake_21 : decode cX11_wouldTake 21 = .ok (.goto 4, 3) := by decide +kernel
theorem dX11_wouldTake_24 : decode cX11_wouldTake 24 = .ok (.iconst 0, 1) := by decide +kernel
theorem dX11_wouldTake_25 : decode cX11_wouldTake 25 = .ok (.ireturn, 1) := by decide +kernel
theorem dX11_bits_0 : decode cX11_bits 0 = .ok (.iconst 0, 1) := by decide +kernel
theorem dX11_bits_1 : decode cX11_bits 1 = .ok (.istore_n 1, 1) := by decide +kernel
theorem dX11_bits_2 : decode cX11_bits 2 = .ok (.iload_n 0, 1) := by decide +kernel
theorem dX11_bits_3 : decode cX11_bits 3 = .ok (.istore_n 2, 1) := by decide +kernel
theorem dX11_bits_4 : decode cX11_bits 4 = .ok (.iload_n 2, 1) := by decide +kernel
theorem dX11_bits_5 : decode cX11_bits 5 = .ok (.ifCond .eq 15, 3) := by decide +kernel
theorem dX11_bits_8 : decode cX11_bits 8 = .ok (.iinc 1 1, 3) := by decide +kernel
theorem dX11_bits_11 : decode cX11_bits 11 = .ok (.iload_n 2, 1) := by decide +kernel
theorem dX11_bits_12 : decode cX11_bits 12 = .ok (.iload_n 2, 1) := by decide +kernel
theorem dX11_bits_13 : decode cX11_bits 13 = .ok (.iconst 1, 1) := by decide +kernel
theorem dX11_bits_14 : decode cX11_bits 14 = .ok (.isub, 1) := by decide +kernel
theorem dX11_bits_15 : decode cX11_bits 15 = .ok (.iand, 1) := by decide +kernel
theorem dX11_bits_16 : decode cX11_bits 16 = .ok (.istore_n 2, 1) := by decide +kernel
theorem dX11_bits_17 : decode cX11_bits 17 = .ok (.goto (-13), 3) := by decide +kernel
theorem dX11_bits_20 : decode cX11_bits 20 = .ok (.iload_n 1, 1) := by decide +kernel
theorem dX11_bits_21 : decode cX11_bits 21 = .ok (.ireturn, 1) := by decide +kernel
theorem dX11_freeOnes_0 : decode cX11_freeOnes 0 = .ok (.iconst 0, 1) := by decide +kernel
theorem dX11_freeOnes_1 : decode cX11_freeOnes 1 = .ok (.istore_n 1, 1) := by decide +kernel
theorem dX11_freeOnes_2 : decode cX11_freeOnes 2 = .ok (.iconst 0, 1) := by decide +kernel
theorem dX11_freeOnes_3 : decode cX11_freeOnes 3 = .ok (.istore_n 2, 1) := by decide +kernel
theorem dX11_freeOnes_4 : decode cX11_freeOnes 4 = .ok (.iload_n 2, 1) := by decide +kernel
theorem dX11_freeOnes_5 : decode cX11_freeOnes 5 = .ok (.aload_n 0, 1) := by decide +kernel
theorem dX11_freeOnes_6 : decode cX11_freeOnes 6 = .ok (.getfield 7, 3) := by decide +kernel
theorem dX11_freeOnes_9 : decode cX11_freeOnes 9 = .ok (.sipush 230, 3) := by decide +kernel
theorem dX11_freeOnes_12 : decode cX11_freeOnes 12 = .ok (.iaload, 1) := by decide +kernel
theorem dX11_freeOnes_13 : decode cX11_freeOnes 13 = .ok (.if_icmp .ge 25, 3) := by decide +kernel
theorem dX11_freeOnes_16 : decode cX11_freeOnes 16 = .ok (.iload_n 1, 1) := by decide +kernel
theorem dX11_freeOnes_17 : decode cX11_freeOnes 17 = .ok (.aload_n 0, 1) := by decide +kernel
theorem dX11_freeOnes_18 : decode cX11_freeOnes 18 = .ok (.iload_n 2, 1) := by decide +kernel
theorem dX11_freeOnes_19 : decode cX11_freeOnes 19 = .ok (.invokevirtual 219, 3) := by decide +kernel
theorem dX11_freeOnes_22 : decode cX11_freeOnes 22 = .ok (.ifCond .eq 7, 3) := by decide +kernel
theorem dX11_freeOnes_25 : decode cX11_freeOnes 25 = .ok (.iconst 1, 1) := by decide +kernel
theorem dX11_freeOnes_26 : decode cX11_freeOnes 26 = .ok (.goto 4, 3) := by decide +kernel
theorem dX11_freeOnes_29 : decode cX11_freeOnes 29 = .ok (.iconst 0, 1) := by decide +kernel
theorem dX11_freeOnes_30 : decode cX11_freeOnes 30 = .ok (.iadd, 1) := by decide +kernel
theorem dX11_freeOnes_31 : decode cX11_freeOnes 31 = .ok (.istore_n 1, 1) := by decide +kernel
theorem dX11_freeOnes_32 : decode cX11_freeOnes 32 = .ok (.iinc 2 1, 3) := by decide +kernel
theorem dX11_freeOnes_35 : decode cX11_freeOnes 35 = .ok (.goto (-31), 3) := by decide +kernel
theorem dX11_freeOnes_38 : decode cX11_freeOnes 38 = .ok (.iload_n 1, 1) := by decide +kernel
theorem dX11_freeOnes_39 : decode cX11_freeOnes 39 = .ok (.ireturn, 1) := by decide +kernel
theorem dX11_inOnes_0 : decode cX11_inOnes 0 = .ok (.iconst 0, 1) := by decide +kernel
theorem dX11_inOnes_1 : decode cX11_inOnes 1 = .ok (.istore_n 1, 1) := by decide +kernel
theorem dX11_inOnes_2 : decode cX11_inOnes 2 = .ok (.iconst 0, 1) := by decide +kernel
theorem dX11_inOnes_3 : decode cX11_inOnes 3 = .ok (.istore_n 2, 1) := by decide +kernel
theorem dX11_inOnes_4 : decode cX11_inOnes 4 = .ok (.iload_n 2, 1) := by decide +kernel
theorem dX11_inOnes_5 : decode cX11_inOnes 5 = .ok (.aload_n 0, 1) := by decide +kernel
theorem dX11_inOnes_6 : decode cX11_inOnes 6 = .ok (.getfield 7, 3) := by decide +kernel
theorem dX11_inOnes_9 : decode cX11_inOnes 9 = .ok (.sipush 231, 3) := by decide +kernel
theorem dX11_inOnes_12 : decode cX11_inOnes 12 = .ok (.iaload, 1) := by decide +kernel
theorem dX11_inOnes_13 : decode cX11_inOnes 13 = .ok (.if_icmp .ge 25, 3) := by decide +kernel
theorem dX11_inOnes_16 : decode cX11_inOnes 16 = .ok (.iload_n 1, 1) := by decide +kernel
theorem dX11_inOnes_17 : decode cX11_inOnes 17 = .ok (.aload_n 0, 1) := by decide +kernel
theorem dX11_inOnes_18 : decode cX11_inOnes 18 = .ok (.iload_n 2, 1) := by decide +kernel
theorem dX11_inOnes_19 : decode cX11_inOnes 19 = .ok (.invokevirtual 208, 3) := by decide +kernel
theorem dX11_inOnes_22 : decode cX11_inOnes 22 = .ok (.ifCond .eq 7, 3) := by decide +kernel
theorem dX11_inOnes_25 : decode cX11_inOnes 25 = .ok (.iconst 1, 1) := by decide +kernel
theorem dX11_inOnes_26 : decode cX11_inOnes 26 = .ok (.goto 4, 3) := by decide +kernel
theorem dX11_inOnes_29 : decode cX11_inOnes 29 = .ok (.iconst 0, 1) := by decide +kernel
theorem dX11_inOnes_30 : decode cX11_inOnes 30 = .ok (.iadd, 1) := by decide +kernel
theorem dX11_inOnes_31 : decode cX11_inOnes 31 = .ok (.istore_n 1, 1) := by decide +kernel
theorem dX11_inOnes_32 : decode cX11_inOnes 32 = .ok (.iinc 2 1, 3) := by decide +kernel
theorem dX11_inOnes_35 : decode cX11_inOnes 35 = .ok (.goto (-31), 3) := by decide +kernel
theorem dX11_inOnes_38 : decode cX11_inOnes 38 = .ok (.iload_n 1, 1) := by decide +kernel
theorem dX11_inOnes_39 : decode cX11_inOnes 39 = .ok (.ireturn, 1) := by decide +kernel
theorem dX11_allBids_0 : decode cX11_allBids 0 = .ok (.iconst 0, 1) := by decide +kernel
theorem dX11_allBids_1 : decode cX11_allBids 1 = .ok (.istore_n 1, 1) := by decide +kernel
theorem dX11_allBids_2 : decode cX11_allBids 2 = .ok (.iconst 0, 1) := by decide +kernel
theorem dX11_allBids_3 : decode cX11_allBids 3 = .ok (.istore_n 2, 1) := by decide +kernel
theorem dX11_allBids_4 : decode cX11_allBids 4 = .ok (.iload_n 2, 1) := by decide +kernel
theorem dX11_allBids_5 : decode cX11_allBids 5 = .ok (.aload_n 0, 1) := by decide +kernel
theorem dX11_allBids_6 : decode cX11_allBids 6 = .ok (.getfield 7, 3) := by decide +kernel
theorem dX11_allBids_9 : decode cX11_allBids 9 = .ok (.sipush 231, 3) := by decide +kernel
theorem dX11_allBids_12 : decode cX11_allBids 12 = .ok (.iaload, 1) := by decide +kernel
theorem dX11_allBids_13 : decode cX11_allBids 13 = .ok (.if_icmp .ge 22, 3) := by decide +kernel
theorem dX11_allBids_16 : decode cX11_allBids 16 = .ok (.iload_n 1, 1) := by decide +kernel
theorem dX11_allBids_17 : decode cX11_allBids 17 = .ok (.aload_n 0, 1) := by decide +kernel
theorem dX11_allBids_18 : decode cX11_allBids 18 = .ok (.iload_n 2, 1) := by decide +kernel
theorem dX11_allBids_19 : decode cX11_allBids 19 = .ok (.bipush 10, 2) := by decide +kernel
theorem dX11_allBids_21 : decode cX11_allBids 21 = .ok (.invokevirtual 205, 3) := by decide +kernel
theorem dX11_allBids_24 : decode cX11_allBids 24 = .ok (.invokestatic 222, 3) := by decide +kernel
theorem dX11_allBids_27 : decode cX11_allBids 27 = .ok (.iadd, 1) := by decide +kernel
theorem dX11_allBids_28 : decode cX11_allBids 28 = .ok (.istore_n 1, 1) := by decide +kernel
theorem dX11_allBids_29 : decode cX11_allBids 29 = .ok (.iinc 2 1, 3) := by decide +kernel
theorem dX11_allBids_32 : decode cX11_allBids 32 = .ok (.goto (-28), 3) := by decide +kernel
theorem dX11_allBids_35 : decode cX11_allBids 35 = .ok (.iload_n 1, 1) := by decide +kernel
theorem dX11_allBids_36 : decode cX11_allBids 36 = .ok (.ireturn, 1) := by decide +kernel
theorem dX11_many_0 : decode cX11_many 0 = .ok (.iload_n 1, 1) := by decide +kernel
theorem dX11_many_1 : decode cX11_many 1 = .ok (.tableswitch 169 0 9 #[55, 68, 81, 94, 107, 116, 125, 134, 143, 156], 55) := by decide +kernel
theorem dX11_many_56 : decode cX11_many 56 = .ok (.aload_n 0, 1) := by decide +kernel
theorem dX11_many_57 : decode cX11_many 57 = .ok (.aload_n 0, 1) := by decide +kernel
theorem dX11_many_58 : decode cX11_many 58 = .ok (.getfield 7, 3) := by decide +kernel
theorem dX11_many_61 : decode cX11_many 61 = .ok (.sipush 230, 3) := by decide +kernel
theorem dX11_many_64 : decode cX11_many 64 = .ok (.iaload, 1) := by decide +kernel
theorem dX11_many_65 : decode cX11_many 65 = .ok (.invokevirtual 199, 3) := by decide +kernel
theorem dX11_many_68 : decode cX11_many 68 = .ok (.ireturn, 1) := by decide +kernel
theorem dX11_many_69 : decode cX11_many 69 = .ok (.aload_n 0, 1) := by decide +kernel
theorem dX11_many_70 : decode cX11_many 70 = .ok (.aload_n 0, 1) := by decide +kernel
theorem dX11_many_71 : decode cX11_many 71 = .ok (.getfield 7, 3) := by decide +kernel
theorem dX11_many_74 : decode cX11_many 74 = .ok (.sipush 231, 3) := by decide +kernel
theorem dX11_many_77 : decode cX11_many 77 = .ok (.iaload, 1) := by decide +kernel
theorem dX11_many_78 : decode cX11_many 78 = .ok (.invokevirtual 199, 3) := by decide +kernel
theorem dX11_many_81 : decode cX11_many 81 = .ok (.ireturn, 1) := by decide +kernel
theorem dX11_many_82 : decode cX11_many 82 = .ok (.aload_n 0, 1) := by decide +kernel
theorem dX11_many_83 : decode cX11_many 83 = .ok (.aload_n 0, 1) := by decide +kernel
theorem dX11_many_84 : decode cX11_many 84 = .ok (.getfield 7, 3) := by decide +kernel
theorem dX11_many_87 : decode cX11_many 87 = .ok (.sipush 232, 3) := by decide +kernel
theorem dX11_many_90 : decode cX11_many 90 = .ok (.iaload, 1) := by decide +kernel
theorem dX11_many_91 : decode cX11_many 91 = .ok (.invokevirtual 199, 3) := by decide +kernel
theorem dX11_many_94 : decode cX11_many 94 = .ok (.ireturn, 1) := by decide +kernel
theorem dX11_many_95 : decode cX11_many 95 = .ok (.aload_n 0, 1) := by decide +kernel
theorem dX11_many_96 : decode cX11_many 96 = .ok (.aload_n 0, 1) := by decide +kernel
theorem dX11_many_97 : decode cX11_many 97 = .ok (.getfield 7, 3) := by decide +kernel
theorem dX11_many_100 : decode cX11_many 100 = .ok (.sipush 233, 3) := by decide +kernel
theorem dX11_many_103 : decode cX11_many 103 = .ok (.iaload, 1) := by decide +kernel
theorem dX11_many_104 : decode cX11_many 104 = .ok (.invokevirtual 199, 3) := by decide +kernel
theorem dX11_many_107 : decode cX11_many 107 = .ok (.ireturn, 1) := by decide +kernel
theorem dX11_many_108 : decode cX11_many 108 = .ok (.aload_n 0, 1) := by decide +kernel
theorem dX11_many_109 : decode cX11_many 109 = .ok (.aload_n 0, 1) := by decide +kernel
theorem dX11_many_110 : decode cX11_many 110 = .ok (.invokevirtual 225, 3) := by decide +kernel
theorem dX11_many_113 : decode cX11_many 113 = .ok (.invokevirtual 199, 3) := by decide +kernel
theorem dX11_many_116 : decode cX11_many 116 = .ok (.ireturn, 1) := by decide +kernel
theorem dX11_many_117 : decode cX11_many 117 = .ok (.aload_n 0, 1) := by decide +kernel
theorem dX11_many_118 : decode cX11_many 118 = .ok (.aload_n 0, 1) := by decide +kernel
theorem dX11_many_119 : decode cX11_many 119 = .ok (.invokevirtual 228, 3) := by decide +kernel
theorem dX11_many_122 : decode cX11_many 122 = .ok (.invokevirtual 199, 3) := by decide +kernel
theorem dX11_many_125 : decode cX11_many 125 = .ok (.ireturn, 1) := by decide +kernel
theorem dX11_many_126 : decode cX11_many 126 = .ok (.aload_n 0, 1) := by decide +kernel
theorem dX11_many_127 : decode cX11_many 127 = .ok (.aload_n 0, 1) := by decide +kernel
theorem dX11_many_128 : decode cX11_many 128 = .ok (.invokevirtual 231, 3) := by decide +kernel
theorem dX11_many_131 : decode cX11_many 131 = .ok (.invokevirtual 199, 3) := by decide +kernel
theorem dX11_many_134 : decode cX11_many 134 = .ok (.ireturn, 1) := by decide +kernel
theorem dX11_many_135 : decode cX11_many 135 = .ok (.aload_n 0, 1) := by decide +kernel
theorem dX11_many_136 : decode cX11_many 136 = .ok (.aload_n 0, 1) := by decide +kernel
theorem dX11_many_137 : decode cX11_many 137 = .ok (.getfield 196, 3) := by decide +kernel
theorem dX11_many_140 : decode cX11_many 140 = .ok (.invokevirtual 199, 3) := by decide +kernel
theorem dX11_many_143 : decode cX11_many 143 = .ok (.ireturn, 1) := by decide +kernel
theorem dX11_many_144 : decode cX11_many 144 = .ok (.aload_n 0, 1) := by decide +kernel
theorem dX11_many_145 : decode cX11_many 145 = .ok (.aload_n 0, 1) := by decide +kernel
theorem dX11_many_146 : decode cX11_many 146 = .ok (.getfield 7, 3) := by decide +kernel
theorem dX11_many_149 : decode cX11_many 149 = .ok (.sipush 298, 3) := by decide +kernel
theorem dX11_many_152 : decode cX11_many 152 = .ok (.iaload, 1) := by decide +kernel
theorem dX11_many_153 : decode cX11_many 153 = .ok (.invokevirtual 199, 3) := by decide +kernel
theorem dX11_many_156 : decode cX11_many 156 = .ok (.ireturn, 1) := by decide +kernel
theorem dX11_many_157 : decode cX11_many 157 = .ok (.aload_n 0, 1) := by decide +kernel
theorem dX11_many_158 : decode cX11_many 158 = .ok (.aload_n 0, 1) := by decide +kernel
theorem dX11_many_159 : decode cX11_many 159 = .ok (.getfield 7, 3) := by decide +kernel
theorem dX11_many_162 : decode cX11_many 162 = .ok (.sipush 299, 3) := by decide +kernel
theorem dX11_many_165 : decode cX11_many 165 = .ok (.iaload, 1) := by decide +kernel
theorem dX11_many_166 : decode cX11_many 166 = .ok (.invokevirtual 199, 3) := by decide +kernel
theorem dX11_many_169 : decode cX11_many 169 = .ok (.ireturn, 1) := by decide +kernel
theorem dX11_many_170 : decode cX11_many 170 = .ok (.aload_n 0, 1) := by decide +kernel
theorem dX11_many_171 : decode cX11_many 171 = .ok (.iconst 1, 1) := by decide +kernel
theorem dX11_many_172 : decode cX11_many 172 = .ok (.invokevirtual 186, 3) := by decide +kernel
theorem dX11_many_175 : decode cX11_many 175 = .ok (.ireturn, 1) := by decide +kernel
theorem dX11_bidders_0 : decode cX11_bidders 0 = .ok (.iconst 0, 1) := by decide +kernel
theorem dX11_bidders_1 : decode cX11_bidders 1 = .ok (.istore_n 2, 1) := by decide +kernel
theorem dX11_bidders_2 : decode cX11_bidders 2 = .ok (.iconst 0, 1) := by decide +kernel
theorem dX11_bidders_3 : decode cX11_bidders 3 = .ok (.istore_n 3, 1) := by decide +kernel
theorem dX11_bidders_4 : decode cX11_bidders 4 = .ok (.iload_n 3, 1) := by decide +kernel
theorem dX11_bidders_5 : decode cX11_bidders 5 = .ok (.aload_n 0, 1) := by decide +kernel
theorem dX11_bidders_6 : decode cX11_bidders 6 = .ok (.getfield 7, 3) := by decide +kernel
theorem dX11_bidders_9 : decode cX11_bidders 9 = .ok (.sipush 231, 3) := by decide +kernel
theorem dX11_bidders_12 : decode cX11_bidders 12 = .ok (.iaload, 1) := by decide +kernel
theorem dX11_bidders_13 : decode cX11_bidders 13 = .ok (.if_icmp .ge 26, 3) := by decide +kernel
theorem dX11_bidders_16 : decode cX11_bidders 16 = .ok (.iload_n 2, 1) := by decide +kernel
theorem dX11_bidders_17 : decode cX11_bidders 17 = .ok (.aload_n 0, 1) := by decide +kernel
theorem dX11_bidders_18 : decode cX11_bidders 18 = .ok (.iload_n 3, 1) := by decide +kernel
theorem dX11_bidders_19 : decode cX11_bidders 19 = .ok (.iload_n 1, 1) := by decide +kernel
theorem dX11_bidders_20 : decode cX11_bidders 20 = .ok (.invokevirtual 234, 3) := by decide +kernel
theorem dX11_bidders_23 : decode cX11_bidders 23 = .ok (.ifCond .eq 7, 3) := by decide +kernel
theorem dX11_bidders_26 : decode cX11_bidders 26 = .ok (.iconst 1, 1) := by decide +kernel
theorem dX11_bidders_27 : decode cX11_bidders 27 = .ok (.goto 4, 3) := by decide +kernel
theorem dX11_bidders_30 : decode cX11_bidders 30 = .ok (.iconst 0, 1) := by decide +kernel
theorem dX11_bidders_31 : decode cX11_bidders 31 = .ok (.iadd, 1) := by decide +kernel
theorem dX11_bidders_32 : decode cX11_bidders 32 = .ok (.istore_n 2, 1) := by decide +kernel
theorem dX11_bidders_33 : decode cX11_bidders 33 = .ok (.iinc 3 1, 3) := by decide +kernel
theorem dX11_bidders_36 : decode cX11_bidders 36 = .ok (.goto (-32), 3) := by decide +kernel
theorem dX11_bidders_39 : decode cX11_bidders 39 = .ok (.iload_n 2, 1) := by decide +kernel
theorem dX11_bidders_40 : decode cX11_bidders 40 = .ok (.ireturn, 1) := by decide +kernel
theorem dX11_home_0 : decode cX11_home 0 = .ok (.iload_n 2, 1) := by decide +kernel
theorem dX11_home_1 : decode cX11_home 1 = .ok (.iconst 0, 1) := by decide +kernel
theorem dX11_home_2 : decode cX11_home 2 = .ok (.bipush 7, 2) := by decide +kernel
theorem dX11_home_4 : decode cX11_home 4 = .ok (.invokestatic 71, 3) := by decide +kernel
theorem dX11_home_7 : decode cX11_home 7 = .ok (.ifCond .ne 9, 3) := by decide +kernel
theorem dX11_home_10 : decode cX11_home 10 = .ok (.aload_n 0, 1) := by decide +kernel
theorem dX11_home_11 : decode cX11_home 11 = .ok (.iconst 1, 1) := by decide +kernel
theorem dX11_home_12 : decode cX11_home 12 = .ok (.invokevirtual 186, 3) := by decide +kernel
theorem dX11_home_15 : decode cX11_home 15 = .ok (.ireturn, 1) := by decide +kernel
theorem dX11_home_16 : decode cX11_home 16 = .ok (.aload_n 0, 1) := by decide +kernel
theorem dX11_home_17 : decode cX11_home 17 = .ok (.iload_n 1, 1) := by decide +kernel
theorem dX11_home_18 : decode cX11_home 18 = .ok (.invokevirtual 238, 3) := by decide +kernel
theorem dX11_home_21 : decode cX11_home 21 = .ok (.ifCond .ne 9, 3) := by decide +kernel
theorem dX11_home_24 : decode cX11_home 24 = .ok (.aload_n 0, 1) := by decide +kernel
theorem dX11_home_25 : decode cX11_home 25 = .ok (.iconst 2, 1) := by decide +kernel
theorem dX11_home_26 : decode cX11_home 26 = .ok (.invokevirtual 186, 3) := by decide +kernel
theorem dX11_home_29 : decode cX11_home 29 = .ok (.ireturn, 1) := by decide +kernel
theorem dX11_home_30 : decode cX11_home 30 = .ok (.iload_n 2, 1) := by decide +kernel
theorem dX11_home_31 : decode cX11_home 31 = .ok (.tableswitch 127 0 5 #[37, 48, 59, 88, 106, 116], 37) := by decide +kernel
theorem dX11_home_68 : decode cX11_home 68 = .ok (.aload_n 0, 1) := by decide +kernel
theorem dX11_home_69 : decode cX11_home 69 = .ok (.aload_n 0, 1) := by decide +kernel
theorem dX11_home_70 : decode cX11_home 70 = .ok (.iload_n 1, 1) := by decide +kernel
theorem dX11_home_71 : decode cX11_home 71 = .ok (.iconst 0, 1) := by decide +kernel
theorem dX11_home_72 : decode cX11_home 72 = .ok (.invokevirtual 202, 3) := by decide +kernel
theorem dX11_home_75 : decode cX11_home 75 = .ok (.invokevirtual 199, 3) := by decide +kernel
theorem dX11_home_78 : decode cX11_home 78 = .ok (.ireturn, 1) := by decide +kernel
theorem dX11_home_79 : decode cX11_home 79 = .ok (.aload_n 0, 1) := by decide +kernel
theorem dX11_home_80 : decode cX11_home 80 = .ok (.aload_n 0, 1) := by decide +kernel
theorem dX11_home_81 : decode cX11_home 81 = .ok (.iload_n 1, 1) := by decide +kernel
theorem dX11_home_82 : decode cX11_home 82 = .ok (.iconst 1, 1) := by decide +kernel
theorem dX11_home_83 : decode cX11_home 83 = .ok (.invokevirtual 202, 3) := by decide +kernel
theorem dX11_home_86 : decode cX11_home 86 = .ok (.invokevirtual 199, 3) := by decide +kernel
theorem dX11_home_89 : decode cX11_home 89 = .ok (.ireturn, 1) := by decide +kernel
theorem dX11_home_90 : decode cX11_home 90 = .ok (.aload_n 0, 1) := by decide +kernel
theorem dX11_home_91 : decode cX11_home 91 = .ok (.iload_n 1, 1) := by decide +kernel
theorem dX11_home_92 : decode cX11_home 92 = .ok (.iconst 2, 1) := by decide +kernel
theorem dX11_home_93 : decode cX11_home 93 = .ok (.invokevirtual 202, 3) := by decide +kernel
theorem dX11_home_96 : decode cX11_home 96 = .ok (.iconst (-1), 1) := by decide +kernel
theorem dX11_home_97 : decode cX11_home 97 = .ok (.if_icmp .ne 11, 3) := by decide +kernel
theorem dX11_home_100 : decode cX11_home 100 = .ok (.aload_n 0, 1) := by decide +kernel
theorem dX11_home_101 : decode cX11_home 101 = .ok (.iconst 5, 1) := by decide +kernel
theorem dX11_home_102 : decode cX11_home 102 = .ok (.invokevirtual 186, 3) := by decide +kernel
theorem dX11_home_105 : decode cX11_home 105 = .ok (.goto 13, 3) := by decide +kernel
theorem dX11_home_108 : decode cX11_home 108 = .ok (.aload_n 0, 1) := by decide +kernel
theorem dX11_home_109 : decode cX11_home 109 = .ok (.aload_n 0, 1) := by decide +kernel
theorem dX11_home_110 : decode cX11_home 110 = .ok (.iload_n 1, 1) := by decide +kernel
theorem dX11_home_111 : decode cX11_home 111 = .ok (.iconst 2, 1) := by decide +kernel
theorem dX11_home_112 : decode cX11_home 112 = .ok (.invokevirtual 202, 3) := by decide +kernel
theorem dX11_home_115 : decode cX11_home 115 = .ok (.invokevirtual 199, 3) := by decide +kernel
theorem dX11_home_118 : decode cX11_home 118 = .ok (.ireturn, 1) := by decide +kernel
theorem dX11_home_119 : decode cX11_home 119 = .ok (.aload_n 0, 1) := by decide +kernel
theorem dX11_home_120 : decode cX11_home 120 = .ok (.aload_n 0, 1) := by decide +kernel
theorem dX11_home_121 : decode cX11_home 121 = .ok (.iload_n 1, 1) := by decide +kernel
theorem dX11_home_122 : decode cX11_home 122 = .ok (.invokevirtual 219, 3) := by decide +kernel
theorem dX11_home_125 : decode cX11_home 125 = .ok (.ifCond .eq 7, 3) := by decide +kernel
theorem dX11_home_128 : decode cX11_home 128 = .ok (.iconst 1, 1) := by decide +kernel
theorem dX11_home_129 : decode cX11_home 129 = .ok (.goto 4, 3) := by decide +kernel
theorem dX11_home_132 : decode cX11_home 132 = .ok (.iconst 0, 1) := by decide +kernel
theorem dX11_home_133 : decode cX11_home 133 = .ok (.invokevirtual 199, 3) := by decide +kernel
theorem dX11_home_136 : decode cX11_home 136 = .ok (.ireturn, 1) := by decide +kernel
theorem dX11_home_137 : decode cX11_home 137 = .ok (.aload_n 0, 1) := by decide +kernel
theorem dX11_home_138 : decode cX11_home 138 = .ok (.aload_n 0, 1) := by decide +kernel
theorem dX11_home_139 : decode cX11_home 139 = .ok (.iload_n 1, 1) := by decide +kernel
theorem dX11_home_140 : decode cX11_home 140 = .ok (.invokevirtual 241, 3) := by decide +kernel
theorem dX11_home_143 : decode cX11_home 143 = .ok (.invokevirtual 199, 3) := by decide +kernel
theorem dX11_home_146 : decode cX11_home 146 = .ok (.ireturn, 1) := by decide +kernel
theorem dX11_home_147 : decode cX11_home 147 = .ok (.aload_n 0, 1) := by decide +kernel
theorem dX11_home_148 : decode cX11_home 148 = .ok (.aload_n 0, 1) := by decide +kernel
theorem dX11_home_149 : decode cX11_home 149 = .ok (.iload_n 1, 1) := by decide +kernel
theorem dX11_home_150 : decode cX11_home 150 = .ok (.iconst 4, 1) := by decide +kernel
theorem dX11_home_151 : decode cX11_home 151 = .ok (.invokevirtual 202, 3) := by decide +kernel
theorem dX11_home_154 : decode cX11_home 154 = .ok (.invokevirtual 199, 3) := by decide +kernel
theorem dX11_home_157 : decode cX11_home 157 = .ok (.ireturn, 1) := by decide +kernel
theorem dX11_home_158 : decode cX11_home 158 = .ok (.aload_n 0, 1) := by decide +kernel
theorem dX11_home_159 : decode cX11_home 159 = .ok (.aload_n 0, 1) := by decide +kernel
theorem dX11_home_160 : decode cX11_home 160 = .ok (.iload_n 1, 1) := by decide +kernel
theorem dX11_home_161 : decode cX11_home 161 = .ok (.iload_n 2, 1) := by decide +kernel
theorem dX11_home_162 : decode cX11_home 162 = .ok (.invokevirtual 202, 3) := by decide +kernel
theorem dX11_home_165 : decode cX11_home 165 = .ok (.invokevirtual 199, 3) := by decide +kernel
theorem dX11_home_168 : decode cX11_home 168 = .ok (.ireturn, 1) := by decide +kernel
theorem dX11_house_0 : decode cX11_house 0 = .ok (.iload_n 2, 1) := by decide +kernel
theorem dX11_house_1 : decode cX11_house 1 = .ok (.iconst 0, 1) := by decide +kernel
theorem dX11_house_2 : decode cX11_house 2 = .ok (.bipush 11, 2) := by decide +kernel
theorem dX11_house_4 : decode cX11_house 4 = .ok (.invokestatic 71, 3) := by decide +kernel
theorem dX11_house_7 : decode cX11_house 7 = .ok (.ifCond .ne 20, 3) := by decide +kernel
theorem dX11_house_10 : decode cX11_house 10 = .ok (.iload_n 2, 1) := by decide +kernel
theorem dX11_house_11 : decode cX11_house 11 = .ok (.bipush 20, 2) := by decide +kernel
theorem dX11_house_13 : decode cX11_house 13 = .ok (.bipush 25, 2) := by decide +kernel
theorem dX11_house_15 : decode cX11_house 15 = .ok (.invokestatic 71, 3) := by decide +kernel
theorem dX11_house_18 : decode cX11_house 18 = .ok (.ifCond .ne 9, 3) := by decide +kernel
theorem dX11_house_21 : decode cX11_house 21 = .ok (.aload_n 0, 1) := by decide +kernel
theorem dX11_house_22 : decode cX11_house 22 = .ok (.iconst 1, 1) := by decide +kernel
theorem dX11_house_23 : decode cX11_house 23 = .ok (.invokevirtual 186, 3) := by decide +kernel
theorem dX11_house_26 : decode cX11_house 26 = .ok (.ireturn, 1) := by decide +kernel
theorem dX11_house_27 : decode cX11_house 27 = .ok (.aload_n 0, 1) := by decide +kernel
theorem dX11_house_28 : decode cX11_house 28 = .ok (.iload_n 1, 1) := by decide +kernel
theorem dX11_house_29 : decode cX11_house 29 = .ok (.invokevirtual 244, 3) := by decide +kernel
theorem dX11_house_32 : decode cX11_house 32 = .ok (.ifCond .ne 9, 3) := by decide +kernel
theorem dX11_house_35 : decode cX11_house 35 = .ok (.aload_n 0, 1) := by decide +kernel
theorem dX11_house_36 : decode cX11_house 36 = .ok (.iconst 2, 1) := by decide +kernel
theorem dX11_house_37 : decode cX11_house 37 = .ok (.invokevirtual 186, 3) := by decide +kernel
theorem dX11_house_40 : decode cX11_house 40 = .ok (.ireturn, 1) := by decide +kernel
theorem dX11_house_41 : decode cX11_house 41 = .ok (.iload_n 2, 1) := by decide +kernel
theorem dX11_house_42 : decode cX11_house 42 = .ok (.bipush 20, 2) := by decide +kernel
theorem dX11_house_44 : decode cX11_house 44 = .ok (.if_icmp .lt 42, 3) := by decide +kernel
theorem dX11_house_47 : decode cX11_house 47 = .ok (.iload_n 2, 1) := by decide +kernel
theorem dX11_house_48 : decode cX11_house 48 = .ok (.bipush 20, 2) := by decide +kernel
theorem dX11_house_50 : decode cX11_house 50 = .ok (.isub, 1) := by decide +kernel
theorem dX11_house_51 : decode cX11_house 51 = .ok (.aload_n 0, 1) := by decide +kernel
theorem dX11_house_52 : decode cX11_house 52 = .ok (.iload_n 1, 1) := by decide +kernel
theorem dX11_house_53 : decode cX11_house 53 = .ok (.bipush 11, 2) := by decide +kernel
theorem dX11_house_55 : decode cX11_house 55 = .ok (.invokevirtual 205, 3) := by decide +kernel
theorem dX11_house_58 : decode cX11_house 58 = .ok (.if_icmp .ge 22, 3) := by decide +kernel
theorem dX11_house_61 : decode cX11_house 61 = .ok (.aload_n 0, 1) := by decide +kernel
theorem dX11_house_62 : decode cX11_house 62 = .ok (.aload_n 0, 1) := by decide +kernel
theorem dX11_house_63 : decode cX11_house 63 = .ok (.iload_n 1, 1) := by decide +kernel
theorem dX11_house_64 : decode cX11_house 64 = .ok (.bipush 12, 2) := by decide +kernel
theorem dX11_house_66 : decode cX11_house 66 = .ok (.iload_n 2, 1) := by decide +kernel
theorem dX11_house_67 : decode cX11_house 67 = .ok (.iadd, 1) := by decide +kernel
theorem dX11_house_68 : decode cX11_house 68 = .ok (.bipush 20, 2) := by decide +kernel
theorem dX11_house_70 : decode cX11_house 70 = .ok (.isub, 1) := by decide +kernel
theorem dX11_house_71 : decode cX11_house 71 = .ok (.invokevirtual 205, 3) := by decide +kernel
theorem dX11_house_74 : decode cX11_house 74 = .ok (.invokevirtual 199, 3) := by decide +kernel
theorem dX11_house_77 : decode cX11_house 77 = .ok (.goto 8, 3) := by decide +kernel
theorem dX11_house_80 : decode cX11_house 80 = .ok (.aload_n 0, 1) := by decide +kernel
theorem dX11_house_81 : decode cX11_house 81 = .ok (.iconst 5, 1) := by decide +kernel
theorem dX11_house_82 : decode cX11_house 82 = .ok (.invokevirtual 186, 3) := by decide +kernel
theorem dX11_house_85 : decode cX11_house 85 = .ok (.ireturn, 1) := by decide +kernel
theorem dX11_house_86 : decode cX11_house 86 = .ok (.iload_n 2, 1) := by decide +kernel
theorem dX11_house_87 : decode cX11_house 87 = .ok (.tableswitch 202 0 10 #[57, 68, 78, 89, 100, 111, 140, 151, 163, 175, 190], 57) := by decide +kernel
theorem dX11_house_144 : decode cX11_house 144 = .ok (.aload_n 0, 1) := by decide +kernel
theorem dX11_house_145 : decode cX11_house 145 = .ok (.aload_n 0, 1) := by decide +kernel
theorem dX11_house_146 : decode cX11_house 146 = .ok (.iload_n 1, 1) := by decide +kernel
theorem dX11_house_147 : decode cX11_house 147 = .ok (.iconst 0, 1) := by decide +kernel
theorem dX11_house_148 : decode cX11_house 148 = .ok (.invokevirtual 205, 3) := by decide +kernel
theorem dX11_house_151 : decode cX11_house 151 = .ok (.invokevirtual 199, 3) := by decide +kernel
theorem dX11_house_154 : decode cX11_house 154 = .ok (.ireturn, 1) := by decide +kernel
theorem dX11_house_155 : decode cX11_house 155 = .ok (.aload_n 0, 1) := by decide +kernel
theorem dX11_house_156 : decode cX11_house 156 = .ok (.aload_n 0, 1) := by decide +kernel
theorem dX11_house_157 : decode cX11_house 157 = .ok (.iload_n 1, 1) := by decide +kernel
theorem dX11_house_158 : decode cX11_house 158 = .ok (.invokevirtual 247, 3) := by decide +kernel
theorem dX11_house_161 : decode cX11_house 161 = .ok (.invokevirtual 199, 3) := by decide +kernel
theorem dX11_house_164 : decode cX11_house 164 = .ok (.ireturn, 1) := by decide +kernel
theorem dX11_house_165 : decode cX11_house 165 = .ok (.aload_n 0, 1) := by decide +kernel
theorem dX11_house_166 : decode cX11_house 166 = .ok (.aload_n 0, 1) := by decide +kernel
theorem dX11_house_167 : decode cX11_house 167 = .ok (.iload_n 1, 1) := by decide +kernel
theorem dX11_house_168 : decode cX11_house 168 = .ok (.iconst 1, 1) := by decide +kernel
theorem dX11_house_169 : decode cX11_house 169 = .ok (.invokevirtual 205, 3) := by decide +kernel
theorem dX11_house_172 : decode cX11_house 172 = .ok (.invokevirtual 199, 3) := by decide +kernel
theorem dX11_house_175 : decode cX11_house 175 = .ok (.ireturn, 1) := by decide +kernel
theorem dX11_house_176 : decode cX11_house 176 = .ok (.aload_n 0, 1) := by decide +kernel
theorem dX11_house_177 : decode cX11_house 177 = .ok (.aload_n 0, 1) := by decide +kernel
theorem dX11_house_178 : decode cX11_house 178 = .ok (.iload_n 1, 1) := by decide +kernel
theorem dX11_house_179 : decode cX11_house 179 = .ok (.iconst 2, 1) := by decide +kernel
theorem dX11_house_180 : decode cX11_house 180 = .ok (.invokevirtual 205, 3) := by decide +kernel
theorem dX11_house_183 : decode cX11_house 183 = .ok (.invokevirtual 199, 3) := by decide +kernel
theorem dX11_house_186 : decode cX11_house 186 = .ok (.ireturn, 1) := by decide +kernel
theorem dX11_house_187 : decode cX11_house 187 = .ok (.aload_n 0, 1) := by decide +kernel
theorem dX11_house_188 : decode cX11_house 188 = .ok (.aload_n 0, 1) := by decide +kernel
theorem dX11_house_189 : decode cX11_house 189 = .ok (.iload_n 1, 1) := by decide +kernel
theorem dX11_house_190 : decode cX11_house 190 = .ok (.iconst 3, 1) := by decide +kernel
theorem dX11_house_191 : decode cX11_house 191 = .ok (.invokevirtual 205, 3) := by decide +kernel
theorem dX11_house_194 : decode cX11_house 194 = .ok (.invokevirtual 199, 3) := by decide +kernel
theorem dX11_house_197 : decode cX11_house 197 = .ok (.ireturn, 1) := by decide +kernel
theorem dX11_house_198 : decode cX11_house 198 = .ok (.aload_n 0, 1) := by decide +kernel
theorem dX11_house_199 : decode cX11_house 199 = .ok (.iload_n 1, 1) := by decide +kernel
theorem dX11_house_200 : decode cX11_house 200 = .ok (.iconst 4, 1) := by decide +kernel
theorem dX11_house_201 : decode cX11_house 201 = .ok (.invokevirtual 205, 3) := by decide +kernel
theorem dX11_house_204 : decode cX11_house 204 = .ok (.iconst (-1), 1) := by decide +kernel
theorem dX11_house_205 : decode cX11_house 205 = .ok (.if_icmp .ne 11, 3) := by decide +kernel
theorem dX11_house_208 : decode cX11_house 208 = .ok (.aload_n 0, 1) := by decide +kernel
theorem dX11_house_209 : decode cX11_house 209 = .ok (.iconst 5, 1) := by decide +kernel
theorem dX11_house_210 : decode cX11_house 210 = .ok (.invokevirtual 186, 3) := by decide +kernel
theorem dX11_house_213 : decode cX11_house 213 = .ok (.goto 13, 3) := by decide +kernel
theorem dX11_house_216 : decode cX11_house 216 = .ok (.aload_n 0, 1) := by decide +kernel
theorem dX11_house_217 : decode cX11_house 217 = .ok (.aload_n 0, 1) := by decide +kernel
theorem dX11_house_218 : decode cX11_house 218 = .ok (.iload_n 1, 1) := by decide +kernel
theorem dX11_house_219 : decode cX11_house 219 = .ok (.iconst 4, 1) := by decide +kernel
theorem dX11_house_220 : decode cX11_house 220 = .ok (.invokevirtual 205, 3) := by decide +kernel
theorem dX11_house_223 : decode cX11_house 223 = .ok (.invokevirtual 199, 3) := by decide +kernel
theorem dX11_house_226 : decode cX11_house 226 = .ok (.ireturn, 1) := by decide +kernel
theorem dX11_house_227 : decode cX11_house 227 = .ok (.aload_n 0, 1) := by decide +kernel
theorem dX11_house_228 : decode cX11_house 228 = .ok (.aload_n 0, 1) := by decide +kernel
theorem dX11_house_229 : decode cX11_house 229 = .ok (.iload_n 1, 1) := by decide +kernel
theorem dX11_house_230 : decode cX11_house 230 = .ok (.iconst 5, 1) := by decide +kernel
theorem dX11_house_231 : decode cX11_house 231 = .ok (.invokevirtual 205, 3) := by decide +kernel
theorem dX11_house_234 : decode cX11_house 234 = .ok (.invokevirtual 199, 3) := by decide +kernel
theorem dX11_house_237 : decode cX11_house 237 = .ok (.ireturn, 1) := by decide +kernel
theorem dX11_house_238 : decode cX11_house 238 = .ok (.aload_n 0, 1) := by decide +kernel
theorem dX11_house_239 : decode cX11_house 239 = .ok (.aload_n 0, 1) := by decide +kernel
theorem dX11_house_240 : decode cX11_house 240 = .ok (.iload_n 1, 1) := by decide +kernel
theorem dX11_house_241 : decode cX11_house 241 = .ok (.bipush 6, 2) := by decide +kernel
theorem dX11_house_243 : decode cX11_house 243 = .ok (.invokevirtual 205, 3) := by decide +kernel
theorem dX11_house_246 : decode cX11_house 246 = .ok (.invokevirtual 199, 3) := by decide +kernel
theorem dX11_house_249 : decode cX11_house 249 = .ok (.ireturn, 1) := by decide +kernel
theorem dX11_house_250 : decode cX11_house 250 = .ok (.aload_n 0, 1) := by decide +kernel
theorem dX11_house_251 : decode cX11_house 251 = .ok (.aload_n 0, 1) := by decide +kernel
theorem dX11_house_252 : decode cX11_house 252 = .ok (.iload_n 1, 1) := by decide +kernel
theorem dX11_house_253 : decode cX11_house 253 = .ok (.bipush 8, 2) := by decide +kernel
theorem dX11_house_255 : decode cX11_house 255 = .ok (.invokevirtual 205, 3) := by decide +kernel
theorem dX11_house_258 : decode cX11_house 258 = .ok (.invokevirtual 199, 3) := by decide +kernel
theorem dX11_house_261 : decode cX11_house 261 = .ok (.ireturn, 1) := by decide +kernel
theorem dX11_house_262 : decode cX11_house 262 = .ok (.aload_n 0, 1) := by decide +kernel
theorem dX11_house_263 : decode cX11_house 263 = .ok (.aload_n 0, 1) := by decide +kernel
theorem dX11_house_264 : decode cX11_house 264 = .ok (.iload_n 1, 1) := by decide +kernel
theorem dX11_house_265 : decode cX11_house 265 = .ok (.bipush 10, 2) := by decide +kernel
theorem dX11_house_267 : decode cX11_house 267 = .ok (.invokevirtual 205, 3) := by decide +kernel
theorem dX11_house_270 : decode cX11_house 270 = .ok (.invokestatic 222, 3) := by decide +kernel
theorem dX11_house_273 : decode cX11_house 273 = .ok (.invokevirtual 199, 3) := by decide +kernel
theorem dX11_house_276 : decode cX11_house 276 = .ok (.ireturn, 1) := by decide +kernel
theorem dX11_house_277 : decode cX11_house 277 = .ok (.aload_n 0, 1) := by decide +kernel
theorem dX11_house_278 : decode cX11_house 278 = .ok (.aload_n 0, 1) := by decide +kernel
theorem dX11_house_279 : decode cX11_house 279 = .ok (.iload_n 1, 1) := by decide +kernel
theorem dX11_house_280 : decode cX11_house 280 = .ok (.bipush 11, 2) := by decide +kernel
theorem dX11_house_282 : decode cX11_house 282 = .ok (.invokevirtual 205, 3) := by decide +kernel
theorem dX11_house_285 : decode cX11_house 285 = .ok (.invokevirtual 199, 3) := by decide +kernel
theorem dX11_house_288 : decode cX11_house 288 = .ok (.ireturn, 1) := by decide +kernel
theorem dX11_house_289 : decode cX11_house 289 = .ok (.aload_n 0, 1) := by decide +kernel
theorem dX11_house_290 : decode cX11_house 290 = .ok (.aload_n 0, 1) := by decide +kernel
theorem dX11_house_291 : decode cX11_house 291 = .ok (.iload_n 1, 1) := by decide +kernel
theorem dX11_house_292 : decode cX11_house 292 = .ok (.bipush 9, 2) := by decide +kernel
theorem dX11_house_294 : decode cX11_house 294 = .ok (.invokevirtual 205, 3) := by decide +kernel
theorem dX11_house_297 : decode cX11_house 297 = .ok (.invokevirtual 199, 3) := by decide +kernel
theorem dX11_house_300 : decode cX11_house 300 = .ok (.ireturn, 1) := by decide +kernel
theorem dX11_rule_0 : decode cX11_rule 0 = .ok (.iload_n 1, 1) := by decide +kernel
theorem dX11_rule_1 : decode cX11_rule 1 = .ok (.iconst 0, 1) := by decide +kernel
theorem dX11_rule_2 : decode cX11_rule 2 = .ok (.iconst 5, 1) := by decide +kernel
theorem dX11_rule_3 : decode cX11_rule 3 = .ok (.invokestatic 71, 3) := by decide +kernel
theorem dX11_rule_6 : decode cX11_rule 6 = .ok (.ifCond .eq 20, 3) := by decide +kernel
theorem dX11_rule_9 : decode cX11_rule 9 = .ok (.aload_n 0, 1) := by decide +kernel
theorem dX11_rule_10 : decode cX11_rule 10 = .ok (.aload_n 0, 1) := by decide +kernel
theorem dX11_rule_11 : decode cX11_rule 11 = .ok (.getfield 7, 3) := by decide +kernel
theorem dX11_rule_14 : decode cX11_rule 14 = .ok (.sipush 224, 3) := by decide +kernel
theorem dX11_rule_17 : decode cX11_rule 17 = .ok (.iload_n 1, 1) := by decide +kernel
theorem dX11_rule_18 : decode cX11_rule 18 = .ok (.iadd, 1) := by decide +kernel
theorem dX11_rule_19 : decode cX11_rule 19 = .ok (.iaload, 1) := by decide +kernel
theorem dX11_rule_20 : decode cX11_rule 20 = .ok (.invokevirtual 199, 3) := by decide +kernel
theorem dX11_rule_23 : decode cX11_rule 23 = .ok (.goto 8, 3) := by decide +kernel
theorem dX11_rule_26 : decode cX11_rule 26 = .ok (.aload_n 0, 1) := by decide +kernel
theorem dX11_rule_27 : decode cX11_rule 27 = .ok (.iconst 1, 1) := by decide +kernel
theorem dX11_rule_28 : decode cX11_rule 28 = .ok (.invokevirtual 186, 3) := by decide +kernel
theorem dX11_rule_31 : decode cX11_rule 31 = .ok (.ireturn, 1) := by decide +kernel
theorem dX11_whyNot_0 : decode cX11_whyNot 0 = .ok (.aload_n 0, 1) := by decide +kernel
theorem dX11_whyNot_1 : decode cX11_whyNot 1 = .ok (.iload_n 1, 1) := by decide +kernel
theorem dX11_whyNot_2 : decode cX11_whyNot 2 = .ok (.invokevirtual 208, 3) := by decide +kernel
theorem dX11_whyNot_5 : decode cX11_whyNot 5 = .ok (.ifCond .ne 5, 3) := by decide +kernel
theorem dX11_whyNot_8 : decode cX11_whyNot 8 = .ok (.iconst 1, 1) := by decide +kernel
theorem dX11_whyNot_9 : decode cX11_whyNot 9 = .ok (.ireturn, 1) := by decide +kernel
theorem dX11_whyNot_10 : decode cX11_whyNot 10 = .ok (.aload_n 0, 1) := by decide +kernel
theorem dX11_whyNot_11 : decode cX11_whyNot 11 = .ok (.iload_n 1, 1) := by decide +kernel
theorem dX11_whyNot_12 : decode cX11_whyNot 12 = .ok (.bipush 6, 2) := by decide +kernel
theorem dX11_whyNot_14 : decode cX11_whyNot 14 = .ok (.invokevirtual 205, 3) := by decide +kernel
theorem dX11_whyNot_17 : decode cX11_whyNot 17 = .ok (.ifCond .le 5, 3) := by decide +kernel
theorem dX11_whyNot_20 : decode cX11_whyNot 20 = .ok (.iconst 2, 1) := by decide +kernel
theorem dX11_whyNot_21 : decode cX11_whyNot 21 = .ok (.ireturn, 1) := by decide +kernel
theorem dX11_whyNot_22 : decode cX11_whyNot 22 = .ok (.aload_n 0, 1) := by decide +kernel
theorem dX11_whyNot_23 : decode cX11_whyNot 23 = .ok (.iload_n 2, 1) := by decide +kernel
theorem dX11_whyNot_24 : decode cX11_whyNot 24 = .ok (.invokevirtual 219, 3) := by decide +kernel
theorem dX11_whyNot_27 : decode cX11_whyNot 27 = .ok (.ifCond .ne 5, 3) := by decide +kernel
theorem dX11_whyNot_30 : decode cX11_whyNot 30 = .ok (.iconst 3, 1) := by decide +kernel
theorem dX11_whyNot_31 : decode cX11_whyNot 31 = .ok (.ireturn, 1) := by decide +kernel
theorem dX11_whyNot_32 : decode cX11_whyNot 32 = .ok (.aload_n 0, 1) := by decide +kernel
theorem dX11_whyNot_33 : decode cX11_whyNot 33 = .ok (.iload_n 1, 1) := by decide +kernel
theorem dX11_whyNot_34 : decode cX11_whyNot 34 = .ok (.iload_n 2, 1) := by decide +kernel
theorem dX11_whyNot_35 : decode cX11_whyNot 35 = .ok (.invokevirtual 250, 3) := by decide +kernel
theorem dX11_whyNot_38 : decode cX11_whyNot 38 = .ok (.ifCond .ne 5, 3) := by decide +kernel
theorem dX11_whyNot_41 : decode cX11_whyNot 41 = .ok (.iconst 4, 1) := by decide +kernel
theorem dX11_whyNot_42 : decode cX11_whyNot 42 = .ok (.ireturn, 1) := by decide +kernel
theorem dX11_whyNot_43 : decode cX11_whyNot 43 = .ok (.aload_n 0, 1) := by decide +kernel
theorem dX11_whyNot_44 : decode cX11_whyNot 44 = .ok (.iload_n 1, 1) := by decide +kernel
theorem dX11_whyNot_45 : decode cX11_whyNot 45 = .ok (.iload_n 2, 1) := by decide +kernel
theorem dX11_whyNot_46 : decode cX11_whyNot 46 = .ok (.invokevirtual 234, 3) := by decide +kernel
theorem dX11_whyNot_49 : decode cX11_whyNot 49 = .ok (.ifCond .eq 7, 3) := by decide +kernel
theorem dX11_whyNot_52 : decode cX11_whyNot 52 = .ok (.iconst 5, 1) := by decide +kernel
theorem dX11_whyNot_53 : decode cX11_whyNot 53 = .ok (.goto 30, 3) := by decide +kernel
theorem dX11_whyNot_56 : decode cX11_whyNot 56 = .ok (.aload_n 0, 1) := by decide +kernel
theorem dX11_whyNot_57 : decode cX11_whyNot 57 = .ok (.iload_n 1, 1) := by decide +kernel
theorem dX11_whyNot_58 : decode cX11_whyNot 58 = .ok (.bipush 10, 2) := by decide +kernel
theorem dX11_whyNot_60 : decode cX11_whyNot 60 = .ok (.invokevirtual 205, 3) := by decide +kernel
theorem dX11_whyNot_63 : decode cX11_whyNot 63 = .ok (.invokestatic 222, 3) := by decide +kernel
theorem dX11_whyNot_66 : decode cX11_whyNot 66 = .ok (.aload_n 0, 1) := by decide +kernel
theorem dX11_whyNot_67 : decode cX11_whyNot 67 = .ok (.getfield 7, 3) := by decide +kernel
theorem dX11_whyNot_70 : decode cX11_whyNot 70 = .ok (.sipush 229, 3) := by decide +kernel
theorem dX11_whyNot_73 : decode cX11_whyNot 73 = .ok (.iaload, 1) := by decide +kernel
theorem dX11_whyNot_74 : decode cX11_whyNot 74 = .ok (.if_icmp .lt 8, 3) := by decide +kernel
theorem dX11_whyNot_77 : decode cX11_whyNot 77 = .ok (.bipush 6, 2) := by decide +kernel
theorem dX11_whyNot_79 : decode cX11_whyNot 79 = .ok (.goto 4, 3) := by decide +kernel
theorem dX11_whyNot_82 : decode cX11_whyNot 82 = .ok (.iconst 0, 1) := by decide +kernel
theorem dX11_whyNot_83 : decode cX11_whyNot 83 = .ok (.ireturn, 1) := by decide +kernel
theorem dX11_areOnes_0 : decode cX11_areOnes 0 = .ok (.aload_n 0, 1) := by decide +kernel
theorem dX11_areOnes_1 : decode cX11_areOnes 1 = .ok (.iload_n 1, 1) := by decide +kernel
theorem dX11_areOnes_2 : decode cX11_areOnes 2 = .ok (.invokevirtual 244, 3) := by decide +kernel
theorem dX11_areOnes_5 : decode cX11_areOnes 5 = .ok (.ifCond .eq 15, 3) := by decide +kernel
theorem dX11_areOnes_8 : decode cX11_areOnes 8 = .ok (.aload_n 0, 1) := by decide +kernel
theorem dX11_areOnes_9 : decode cX11_areOnes 9 = .ok (.iload_n 2, 1) := by decide +kernel
theorem dX11_areOnes_10 : decode cX11_areOnes 10 = .ok (.invokevirtual 238, 3) := by decide +kernel
theorem dX11_areOnes_13 : decode cX11_areOnes 13 = .ok (.ifCond .eq 7, 3) := by decide +kernel
theorem dX11_areOnes_16 : decode cX11_areOnes 16 = .ok (.iconst 1, 1) := by decide +kernel
theorem dX11_areOnes_17 : decode cX11_areOnes 17 = .ok (.goto 4, 3) := by decide +kernel
theorem dX11_areOnes_20 : decode cX11_areOnes 20 = .ok (.iconst 0, 1) := by decide +kernel
theorem dX11_areOnes_21 : decode cX11_areOnes 21 = .ok (.ireturn, 1) := by decide +kernel
theorem dX11_why_0 : decode cX11_why 0 = .ok (.aload_n 0, 1) := by decide +kernel
theorem dX11_why_1 : decode cX11_why 1 = .ok (.iload_n 1, 1) := by decide +kernel
theorem dX11_why_2 : decode cX11_why 2 = .ok (.iload_n 2, 1) := by decide +kernel
theorem dX11_why_3 : decode cX11_why 3 = .ok (.invokevirtual 253, 3) := by decide +kernel
theorem dX11_why_6 : decode cX11_why 6 = .ok (.ifCond .eq 16, 3) := by decide +kernel
theorem dX11_why_9 : decode cX11_why 9 = .ok (.aload_n 0, 1) := by decide +kernel
theorem dX11_why_10 : decode cX11_why 10 = .ok (.aload_n 0, 1) := by decide +kernel
theorem dX11_why_11 : decode cX11_why 11 = .ok (.iload_n 1, 1) := by decide +kernel
theorem dX11_why_12 : decode cX11_why 12 = .ok (.iload_n 2, 1) := by decide +kernel
theorem dX11_why_13 : decode cX11_why 13 = .ok (.invokevirtual 256, 3) := by decide +kernel
theorem dX11_why_16 : decode cX11_why 16 = .ok (.invokevirtual 199, 3) := by decide +kernel
theorem dX11_why_19 : decode cX11_why 19 = .ok (.goto 8, 3) := by decide +kernel
theorem dX11_why_22 : decode cX11_why 22 = .ok (.aload_n 0, 1) := by decide +kernel
theorem dX11_why_23 : decode cX11_why 23 = .ok (.iconst 2, 1) := by decide +kernel
theorem dX11_why_24 : decode cX11_why 24 = .ok (.invokevirtual 186, 3) := by decide +kernel
theorem dX11_why_27 : decode cX11_why 27 = .ok (.ireturn, 1) := by decide +kernel
theorem dX11_bids_0 : decode cX11_bids 0 = .ok (.aload_n 0, 1) := by decide +kernel
theorem dX11_bids_1 : decode cX11_bids 1 = .ok (.iload_n 1, 1) := by decide +kernel
theorem dX11_bids_2 : decode cX11_bids 2 = .ok (.iload_n 2, 1) := by decide +kernel
theorem dX11_bids_3 : decode cX11_bids 3 = .ok (.invokevirtual 253, 3) := by decide +kernel
theorem dX11_bids_6 : decode cX11_bids 6 = .ok (.ifCond .eq 24, 3) := by decide +kernel
theorem dX11_bids_9 : decode cX11_bids 9 = .ok (.aload_n 0, 1) := by decide +kernel
theorem dX11_bids_10 : decode cX11_bids 10 = .ok (.aload_n 0, 1) := by decide +kernel
theorem dX11_bids_11 : decode cX11_bids 11 = .ok (.iload_n 1, 1) := by decide +kernel
theorem dX11_bids_12 : decode cX11_bids 12 = .ok (.iload_n 2, 1) := by decide +kernel
theorem dX11_bids_13 : decode cX11_bids 13 = .ok (.invokevirtual 234, 3) := by decide +kernel
theorem dX11_bids_16 : decode cX11_bids 16 = .ok (.ifCond .eq 7, 3) := by decide +kernel
theorem dX11_bids_19 : decode cX11_bids 19 = .ok (.iconst 1, 1) := by decide +kernel
theorem dX11_bids_20 : decode cX11_bids 20 = .ok (.goto 4, 3) := by decide +kernel
theorem dX11_bids_23 : decode cX11_bids 23 = .ok (.iconst 0, 1) := by decide +kernel
theorem dX11_bids_24 : decode cX11_bids 24 = .ok (.invokevirtual 199, 3) := by decide +kernel
theorem dX11_bids_27 : decode cX11_bids 27 = .ok (.goto 8, 3) := by decide +kernel
theorem dX11_bids_30 : decode cX11_bids 30 = .ok (.aload_n 0, 1) := by decide +kernel
theorem dX11_bids_31 : decode cX11_bids 31 = .ok (.iconst 2, 1) := by decide +kernel
theorem dX11_bids_32 : decode cX11_bids 32 = .ok (.invokevirtual 186, 3) := by decide +kernel
theorem dX11_bids_35 : decode cX11_bids 35 = .ok (.ireturn, 1) := by decide +kernel
theorem dX11_let0_0 : decode cX11_let0 0 = .ok (.aload_n 0, 1) := by decide +kernel
theorem dX11_let0_1 : decode cX11_let0 1 = .ok (.getfield 7, 3) := by decide +kernel
theorem dX11_let0_4 : decode cX11_let0 4 = .ok (.sipush 234, 3) := by decide +kernel
theorem dX11_let0_7 : decode cX11_let0 7 = .ok (.bipush 8, 2) := by decide +kernel
theorem dX11_let0_9 : decode cX11_let0 9 = .ok (.iload_n 1, 1) := by decide +kernel
theorem dX11_let0_10 : decode cX11_let0 10 = .ok (.imul, 1) := by decide +kernel
theorem dX11_let0_11 : decode cX11_let0 11 = .ok (.iadd, 1) := by decide +kernel
theorem dX11_let0_12 : decode cX11_let0 12 = .ok (.iload_n 2, 1) := by decide +kernel
theorem dX11_let0_13 : decode cX11_let0 13 = .ok (.iadd, 1) := by decide +kernel
theorem dX11_let0_14 : decode cX11_let0 14 = .ok (.iaload, 1) := by decide +kernel
theorem dX11_let0_15 : decode cX11_let0 15 = .ok (.ireturn, 1) := by decide +kernel
theorem dX11_isLocal_0 : decode cX11_isLocal 0 = .ok (.aload_n 0, 1) := by decide +kernel
theorem dX11_isLocal_1 : decode cX11_isLocal 1 = .ok (.getfield 7, 3) := by decide +kernel
theorem dX11_isLocal_4 : decode cX11_isLocal 4 = .ok (.sipush 226, 3) := by decide +kernel
theorem dX11_isLocal_7 : decode cX11_isLocal 7 = .ok (.iaload, 1) := by decide +kernel
theorem dX11_isLocal_8 : decode cX11_isLocal 8 = .ok (.ifCond .ne 5, 3) := by decide +kernel
theorem dX11_isLocal_11 : decode cX11_isLocal 11 = .ok (.iconst 0, 1) := by decide +kernel
theorem dX11_isLocal_12 : decode cX11_isLocal 12 = .ok (.ireturn, 1) := by decide +kernel
theorem dX11_isLocal_13 : decode cX11_isLocal 13 = .ok (.iconst 1, 1) := by decide +kernel
theorem dX11_isLocal_14 : decode cX11_isLocal 14 = .ok (.istore_n 2, 1) := by decide +kernel
theorem dX11_isLocal_15 : decode cX11_isLocal 15 = .ok (.iconst 0, 1) := by decide +kernel
theorem dX11_isLocal_16 : decode cX11_isLocal 16 = .ok (.istore_n 3, 1) := by decide +kernel
theorem dX11_isLocal_17 : decode cX11_isLocal 17 = .ok (.iload_n 3, 1) := by decide +kernel
theorem dX11_isLocal_18 : decode cX11_isLocal 18 = .ok (.aload_n 0, 1) := by decide +kernel
theorem dX11_isLocal_19 : decode cX11_isLocal 19 = .ok (.getfield 7, 3) := by decide +kernel
theorem dX11_isLocal_22 : decode cX11_isLocal 22 = .ok (.sipush 233, 3) := by decide +kernel
theorem dX11_isLocal_25 : decode cX11_isLocal 25 = .ok (.iaload, 1) := by decide +kernel
theorem dX11_isLocal_26 : decode cX11_isLocal 26 = .ok (.if_icmp .ge 37, 3) := by decide +kernel
theorem dX11_isLocal_29 : decode cX11_isLocal 29 = .ok (.iload_n 2, 1) := by decide +kernel
theorem dX11_isLocal_30 : decode cX11_isLocal 30 = .ok (.aload_n 0, 1) := by decide +kernel
theorem dX11_isLocal_31 : decode cX11_isLocal 31 = .ok (.aload_n 0, 1) := by decide +kernel
theorem dX11_isLocal_32 : decode cX11_isLocal 32 = .ok (.iload_n 3, 1) := by decide +kernel
theorem dX11_isLocal_33 : decode cX11_isLocal 33 = .ok (.iconst 1, 1) := by decide +kernel
theorem dX11_isLocal_34 : decode cX11_isLocal 34 = .ok (.invokevirtual 259, 3) := by decide +kernel
theorem dX11_isLocal_37 : decode cX11_isLocal 37 = .ok (.iconst 1, 1) := by decide +kernel
theorem dX11_isLocal_38 : decode cX11_isLocal 38 = .ok (.invokevirtual 202, 3) := by decide +kernel
theorem dX11_isLocal_41 : decode cX11_isLocal 41 = .ok (.aload_n 0, 1) := by decide +kernel
theorem dX11_isLocal_42 : decode cX11_isLocal 42 = .ok (.iload_n 1, 1) := by decide +kernel
theorem dX11_isLocal_43 : decode cX11_isLocal 43 = .ok (.iconst 1, 1) := by decide +kernel
theorem dX11_isLocal_44 : decode cX11_isLocal 44 = .ok (.invokevirtual 202, 3) := by decide +kernel
theorem dX11_isLocal_47 : decode cX11_isLocal 47 = .ok (.if_icmp .ne 7, 3) := by decide +kernel
theorem dX11_isLocal_50 : decode cX11_isLocal 50 = .ok (.iconst 1, 1) := by decide +kernel
theorem dX11_isLocal_51 : decode cX11_isLocal 51 = .ok (.goto 4, 3) := by decide +kernel
theorem dX11_isLocal_54 : decode cX11_isLocal 54 = .ok (.iconst 0, 1) := by decide +kernel
theorem dX11_isLocal_55 : decode cX11_isLocal 55 = .ok (.iadd, 1) := by decide +kernel
theorem dX11_isLocal_56 : decode cX11_isLocal 56 = .ok (.istore_n 2, 1) := by decide +kernel
theorem dX11_isLocal_57 : decode cX11_isLocal 57 = .ok (.iinc 3 1, 3) := by decide +kernel
theorem dX11_isLocal_60 : decode cX11_isLocal 60 = .ok (.goto (-43), 3) := by decide +kernel
theorem dX11_isLocal_63 : decode cX11_isLocal 63 = .ok (.iload_n 2, 1) := by decide +kernel
theorem dX11_isLocal_64 : decode cX11_isLocal 64 = .ok (.aload_n 0, 1) := by decide +kernel
theorem dX11_isLocal_65 : decode cX11_isLocal 65 = .ok (.getfield 7, 3) := by decide +kernel
theorem dX11_isLocal_68 : decode cX11_isLocal 68 = .ok (.sipush 226, 3) := by decide +kernel
theorem dX11_isLocal_71 : decode cX11_isLocal 71 = .ok (.iaload, 1) := by decide +kernel
theorem dX11_isLocal_72 : decode cX11_isLocal 72 = .ok (.irem, 1) := by decide +kernel
theorem dX11_isLocal_73 : decode cX11_isLocal 73 = .ok (.ifCond .ne 7, 3) := by decide +kernel
theorem dX11_isLocal_76 : decode cX11_isLocal 76 = .ok (.iconst 1, 1) := by decide +kernel
theorem dX11_isLocal_77 : decode cX11_isLocal 77 = .ok (.goto 4, 3) := by decide +kernel
theorem dX11_isLocal_80 : decode cX11_isLocal 80 = .ok (.iconst 0, 1) := by decide +kernel
theorem dX11_isLocal_81 : decode cX11_isLocal 81 = .ok (.ireturn, 1) := by decide +kernel
theorem dX11_livedLets_0 : decode cX11_livedLets 0 = .ok (.iconst 0, 1) := by decide +kernel
theorem dX11_livedLets_1 : decode cX11_livedLets 1 = .ok (.istore_n 1, 1) := by decide +kernel
theorem dX11_livedLets_2 : decode cX11_livedLets 2 = .ok (.iconst 0, 1) := by decide +kernel
theorem dX11_livedLets_3 : decode cX11_livedLets 3 = .ok (.istore_n 2, 1) := by decide +kernel
theorem dX11_livedLets_4 : decode cX11_livedLets 4 = .ok (.iload_n 2, 1) := by decide +kernel
theorem dX11_livedLets_5 : decode cX11_livedLets 5 = .ok (.aload_n 0, 1) := by decide +kernel
theorem dX11_livedLets_6 : decode cX11_livedLets 6 = .ok (.getfield 7, 3) := by decide +kernel
theorem dX11_livedLets_9 : decode cX11_livedLets 9 = .ok (.sipush 233, 3) := by decide +kernel
theorem dX11_livedLets_12 : decode cX11_livedLets 12 = .ok (.iaload, 1) := by decide +kernel
theorem dX11_livedLets_13 : decode cX11_livedLets 13 = .ok (.if_icmp .ge 20, 3) := by decide +kernel
theorem dX11_livedLets_16 : decode cX11_livedLets 16 = .ok (.iload_n 1, 1) := by decide +kernel
theorem dX11_livedLets_17 : decode cX11_livedLets 17 = .ok (.aload_n 0, 1) := by decide +kernel
theorem dX11_livedLets_18 : decode cX11_livedLets 18 = .ok (.iload_n 2, 1) := by decide +kernel
theorem dX11_livedLets_19 : decode cX11_livedLets 19 = .ok (.iconst 5, 1) := by decide +kernel
theorem dX11_livedLets_20 : decode cX11_livedLets 20 = .ok (.invokevirtual 259, 3) := by decide +kernel
theorem dX11_livedLets_23 : decode cX11_livedLets 23 = .ok (.iconst 1, 1) := by decide +kernel
theorem dX11_livedLets_24 : decode cX11_livedLets 24 = .ok (.ishr, 1) := by decide +kernel
theorem dX11_livedLets_25 : decode cX11_livedLets 25 = .ok (.iadd, 1) := by decide +kernel
theorem dX11_livedLets_26 : decode cX11_livedLets 26 = .ok (.istore_n 1, 1) := by decide +kernel
theorem dX11_livedLets_27 : decode cX11_livedLets 27 = .ok (.iinc 2 1, 3) := by decide +kernel
theorem dX11_livedLets_30 : decode cX11_livedLets 30 = .ok (.goto (-26), 3) := by decide +kernel
theorem dX11_livedLets_33 : decode cX11_livedLets 33 = .ok (.iload_n 1, 1) := by decide +kernel
theorem dX11_livedLets_34 : decode cX11_livedLets 34 = .ok (.ireturn, 1) := by decide +kernel
theorem dX11_isQuota_0 : decode cX11_isQuota 0 = .ok (.bipush 100, 2) := by decide +kernel
theorem dX11_isQuota_2 : decode cX11_isQuota 2 = .ok (.aload_n 0, 1) := by decide +kernel
theorem dX11_isQuota_3 : decode cX11_isQuota 3 = .ok (.invokevirtual 262, 3) := by decide +kernel
theorem dX11_isQuota_6 : decode cX11_isQuota 6 = .ok (.imul, 1) := by decide +kernel
theorem dX11_isQuota_7 : decode cX11_isQuota 7 = .ok (.aload_n 0, 1) := by decide +kernel
theorem dX11_isQuota_8 : decode cX11_isQuota 8 = .ok (.getfield 7, 3) := by decide +kernel
theorem dX11_isQuota_11 : decode cX11_isQuota 11 = .ok (.sipush 227, 3) := by decide +kernel
theorem dX11_isQuota_14 : decode cX11_isQuota 14 = .ok (.iaload, 1) := by decide +kernel
theorem dX11_isQuota_15 : decode cX11_isQuota 15 = .ok (.aload_n 0, 1) := by decide +kernel
theorem dX11_isQuota_16 : decode cX11_isQuota 16 = .ok (.getfield 7, 3) := by decide +kernel
theorem dX11_isQuota_19 : decode cX11_isQuota 19 = .ok (.sipush 233, 3) := by decide +kernel
theorem dX11_isQuota_22 : decode cX11_isQuota 22 = .ok (.iaload, 1) := by decide +kernel
theorem dX11_isQuota_23 : decode cX11_isQuota 23 = .ok (.imul, 1) := by decide +kernel
theorem dX11_isQuota_24 : decode cX11_isQuota 24 = .ok (.if_icmp .ge 7, 3) := by decide +kernel
theorem dX11_isQuota_27 : decode cX11_isQuota 27 = .ok (.iconst 1, 1) := by decide +kernel
theorem dX11_isQuota_28 : decode cX11_isQuota 28 = .ok (.goto 4, 3) := by decide +kernel
theorem dX11_isQuota_31 : decode cX11_isQuota 31 = .ok (.iconst 0, 1) := by decide +kernel
theorem dX11_isQuota_32 : decode cX11_isQuota 32 = .ok (.ireturn, 1) := by decide +kernel
theorem dX11_weight_0 : decode cX11_weight 0 = .ok (.aload_n 0, 1) := by decide +kernel
theorem dX11_weight_1 : decode cX11_weight 1 = .ok (.iload_n 2, 1) := by decide +kernel
theorem dX11_weight_2 : decode cX11_weight 2 = .ok (.invokevirtual 265, 3) := by decide +kernel
theorem dX11_weight_5 : decode cX11_weight 5 = .ok (.ifCond .eq 22, 3) := by decide +kernel
theorem dX11_weight_8 : decode cX11_weight 8 = .ok (.aload_n 0, 1) := by decide +kernel
theorem dX11_weight_9 : decode cX11_weight 9 = .ok (.iload_n 1, 1) := by decide +kernel
theorem dX11_weight_10 : decode cX11_weight 10 = .ok (.iconst 2, 1) := by decide +kernel
theorem dX11_weight_11 : decode cX11_weight 11 = .ok (.invokevirtual 205, 3) := by decide +kernel
theorem dX11_weight_14 : decode cX11_weight 14 = .ok (.aload_n 0, 1) := by decide +kernel
theorem dX11_weight_15 : decode cX11_weight 15 = .ok (.iload_n 2, 1) := by decide +kernel
theorem dX11_weight_16 : decode cX11_weight 16 = .ok (.iconst 1, 1) := by decide +kernel
theorem dX11_weight_17 : decode cX11_weight 17 = .ok (.invokevirtual 202, 3) := by decide +kernel
theorem dX11_weight_20 : decode cX11_weight 20 = .ok (.if_icmp .eq 7, 3) := by decide +kernel
theorem dX11_weight_23 : decode cX11_weight 23 = .ok (.iconst 1, 1) := by decide +kernel
theorem dX11_weight_24 : decode cX11_weight 24 = .ok (.goto 4, 3) := by decide +kernel
theorem dX11_weight_27 : decode cX11_weight 27 = .ok (.iconst 0, 1) := by decide +kernel
theorem dX11_weight_28 : decode cX11_weight 28 = .ok (.istore 4, 2) := by decide +kernel
theorem dX11_weight_30 : decode cX11_weight 30 = .ok (.aload_n 0, 1) := by decide +kernel
theorem dX11_weight_31 : decode cX11_weight 31 = .ok (.invokevirtual 268, 3) := by decide +kernel
theorem dX11_weight_34 : decode cX11_weight 34 = .ok (.ifCond .eq 17, 3) := by decide +kernel
theorem dX11_weight_37 : decode cX11_weight 37 = .ok (.aload_n 0, 1) := by decide +kernel
theorem dX11_weight_38 : decode cX11_weight 38 = .ok (.iload_n 1, 1) := by decide +kernel
theorem dX11_weight_39 : decode cX11_weight 39 = .ok (.iconst 4, 1) := by decide +kernel
theorem dX11_weight_40 : decode cX11_weight 40 = .ok (.invokevirtual 205, 3) := by decide +kernel
theorem dX11_weight_43 : decode cX11_weight 43 = .ok (.iconst (-1), 1) := by decide +kernel
theorem dX11_weight_44 : decode cX11_weight 44 = .ok (.if_icmp .ne 7, 3) := by decide +kernel
theorem dX11_weight_47 : decode cX11_weight 47 = .ok (.iconst 1, 1) := by decide +kernel
theorem dX11_weight_48 : decode cX11_weight 48 = .ok (.goto 4, 3) := by decide +kernel
theorem dX11_weight_51 : decode cX11_weight 51 = .ok (.iconst 0, 1) := by decide +kernel
theorem dX11_weight_52 : decode cX11_weight 52 = .ok (.istore 5, 2) := by decide +kernel
theorem dX11_weight_54 : decode cX11_weight 54 = .ok (.iconst 2, 1) := by decide +kernel
theorem dX11_weight_55 : decode cX11_weight 55 = .ok (.iload 4, 2) := by decide +kernel
theorem dX11_weight_57 : decode cX11_weight 57 = .ok (.imul, 1) := by decide +kernel
theorem dX11_weight_58 : decode cX11_weight 58 = .ok (.iload 5, 2) := by decide +kernel
theorem dX11_weight_60 : decode cX11_weight 60 = .ok (.iadd, 1) := by decide +kernel
theorem dX11_weight_61 : decode cX11_weight 61 = .ok (.iconst 5, 1) := by decide +kernel
theorem dX11_weight_62 : decode cX11_weight 62 = .ok (.imul, 1) := by decide +kernel
theorem dX11_weight_63 : decode cX11_weight 63 = .ok (.iload_n 3, 1) := by decide +kernel
theorem dX11_weight_64 : decode cX11_weight 64 = .ok (.iadd, 1) := by decide +kernel
theorem dX11_weight_65 : decode cX11_weight 65 = .ok (.sipush 1000, 3) := by decide +kernel
theorem dX11_weight_68 : decode cX11_weight 68 = .ok (.imul, 1) := by decide +kernel
theorem dX11_weight_69 : decode cX11_weight 69 = .ok (.aload_n 0, 1) := by decide +kernel
theorem dX11_weight_70 : decode cX11_weight 70 = .ok (.iload_n 1, 1) := by decide +kernel
theorem dX11_weight_71 : decode cX11_weight 71 = .ok (.iconst 3, 1) := by decide +kernel
theorem dX11_weight_72 : decode cX11_weight 72 = .ok (.invokevirtual 205, 3) := by decide +kernel
theorem dX11_weight_75 : decode cX11_weight 75 = .ok (.iadd, 1) := by decide +kernel
theorem dX11_weight_76 : decode cX11_weight 76 = .ok (.bipush 8, 2) := by decide +kernel
theorem dX11_weight_78 : decode cX11_weight 78 = .ok (.imul, 1) := by decide +kernel
theorem dX11_weight_79 : decode cX11_weight 79 = .ok (.iload_n 1, 1) := by decide +kernel
theorem dX11_weight_80 : decode cX11_weight 80 = .ok (.iadd, 1) := by decide +kernel
theorem dX11_weight_81 : decode cX11_weight 81 = .ok (.ireturn, 1) := by decide +kernel
theorem dX11_weight__0 : decode cX11_weight_ 0 = .ok (.aload_n 0, 1) := by decide +kernel
theorem dX11_weight__1 : decode cX11_weight_ 1 = .ok (.iload_n 1, 1) := by decide +kernel
theorem dX11_weight__2 : decode cX11_weight_ 2 = .ok (.iload_n 2, 1) := by decide +kernel
theorem dX11_weight__3 : decode cX11_weight_ 3 = .ok (.aload_n 0, 1) := by decide +kernel
theorem dX11_weight__4 : decode cX11_weight_ 4 = .ok (.iload_n 1, 1) := by decide +kernel
theorem dX11_weight__5 : decode cX11_weight_ 5 = .ok (.invokevirtual 247, 3) := by decide +kernel
theorem dX11_weight__8 : decode cX11_weight_ 8 = .ok (.invokevirtual 271, 3) := by decide +kernel
theorem dX11_weight__11 : decode cX11_weight_ 11 = .ok (.ireturn, 1) := by decide +kernel
theorem dX11_firstOf_0 : decode cX11_firstOf 0 = .ok (.iconst (-1), 1) := by decide +kernel
theorem dX11_firstOf_1 : decode cX11_firstOf 1 = .ok (.istore_n 3, 1) := by decide +kernel
theorem dX11_firstOf_2 : decode cX11_firstOf 2 = .ok (.iconst 0, 1) := by decide +kernel
theorem dX11_firstOf_3 : decode cX11_firstOf 3 = .ok (.istore 4, 2) := by decide +kernel
theorem dX11_firstOf_5 : decode cX11_firstOf 5 = .ok (.iload 4, 2) := by decide +kernel
theorem dX11_firstOf_7 : decode cX11_firstOf 7 = .ok (.aload_n 0, 1) := by decide +kernel
theorem dX11_firstOf_8 : decode cX11_firstOf 8 = .ok (.getfield 7, 3) := by decide +kernel
theorem dX11_firstOf_11 : decode cX11_firstOf 11 = .ok (.sipush 231, 3) := by decide +kernel
theorem dX11_firstOf_14 : decode cX11_firstOf 14 = .ok (.iaload, 1) := by decide +kernel
theorem dX11_firstOf_15 : decode cX11_firstOf 15 = .ok (.if_icmp .ge 43, 3) := by decide +kernel
theorem dX11_firstOf_18 : decode cX11_firstOf 18 = .ok (.iload_n 1, 1) := by decide +kernel
theorem dX11_firstOf_19 : decode cX11_firstOf 19 = .ok (.iload 4, 2) := by decide +kernel
theorem dX11_firstOf_21 : decode cX11_firstOf 21 = .ok (.ishr, 1) := by decide +kernel
theorem dX11_firstOf_22 : decode cX11_firstOf 22 = .ok (.iconst 1, 1) := by decide +kernel
theorem dX11_firstOf_23 : decode cX11_firstOf 23 = .ok (.iand, 1) := by decide +kernel
theorem dX11_firstOf_24 : decode cX11_firstOf 24 = .ok (.iconst 1, 1) := by decide +kernel
theorem dX11_firstOf_25 : decode cX11_firstOf 25 = .ok (.if_icmp .ne 27, 3) := by decide +kernel
theorem dX11_firstOf_28 : decode cX11_firstOf 28 = .ok (.iload_n 3, 1) := by decide +kernel
theorem dX11_firstOf_29 : decode cX11_firstOf 29 = .ok (.iconst (-1), 1) := by decide +kernel
theorem dX11_firstOf_30 : decode cX11_firstOf 30 = .ok (.if_icmp .eq 19, 3) := by decide +kernel
theorem dX11_firstOf_33 : decode cX11_firstOf 33 = .ok (.aload_n 0, 1) := by decide +kernel
theorem dX11_firstOf_34 : decode cX11_firstOf 34 = .ok (.iload 4, 2) := by decide +kernel
theorem dX11_firstOf_36 : decode cX11_firstOf 36 = .ok (.iload_n 2, 1) := by decide +kernel
theorem dX11_firstOf_37 : decode cX11_firstOf 37 = .ok (.invokevirtual 275, 3) := by decide +kernel
theorem dX11_firstOf_40 : decode cX11_firstOf 40 = .ok (.aload_n 0, 1) := by decide +kernel
theorem dX11_firstOf_41 : decode cX11_firstOf 41 = .ok (.iload_n 3, 1) := by decide +kernel
theorem dX11_firstOf_42 : decode cX11_firstOf 42 = .ok (.iload_n 2, 1) := by decide +kernel
theorem dX11_firstOf_43 : decode cX11_firstOf 43 = .ok (.invokevirtual 275, 3) := by decide +kernel
theorem dX11_firstOf_46 : decode cX11_firstOf 46 = .ok (.if_icmp .ge 6, 3) := by decide +kernel
theorem dX11_firstOf_49 : decode cX11_firstOf 49 = .ok (.iload 4, 2) := by decide +kernel
theorem dX11_firstOf_51 : decode cX11_firstOf 51 = .ok (.istore_n 3, 1) := by decide +kernel
theorem dX11_firstOf_52 : decode cX11_firstOf 52 = .ok (.iinc 4 1, 3) := by decide +kernel
theorem dX11_firstOf_55 : decode cX11_firstOf 55 = .ok (.goto (-50), 3) := by decide +kernel
theorem dX11_firstOf_58 : decode cX11_firstOf 58 = .ok (.iload_n 3, 1) := by decide +kernel
theorem dX11_firstOf_59 : decode cX11_firstOf 59 = .ok (.ireturn, 1) := by decide +kernel
theorem dX11_biddersOf_0 : decode cX11_biddersOf 0 = .ok (.iconst 0, 1) := by decide +kernel
theorem dX11_biddersOf_1 : decode cX11_biddersOf 1 = .ok (.istore_n 2, 1) := by decide +kernel
theorem dX11_biddersOf_2 : decode cX11_biddersOf 2 = .ok (.iconst 0, 1) := by decide +kernel
theorem dX11_biddersOf_3 : decode cX11_biddersOf 3 = .ok (.istore_n 3, 1) := by decide +kernel
theorem dX11_biddersOf_4 : decode cX11_biddersOf 4 = .ok (.iload_n 3, 1) := by decide +kernel
theorem dX11_biddersOf_5 : decode cX11_biddersOf 5 = .ok (.aload_n 0, 1) := by decide +kernel
theorem dX11_biddersOf_6 : decode cX11_biddersOf 6 = .ok (.getfield 7, 3) := by decide +kernel
theorem dX11_biddersOf_9 : decode cX11_biddersOf 9 = .ok (.sipush 231, 3) := by decide +kernel
theorem dX11_biddersOf_12 : decode cX11_biddersOf 12 = .ok (.iaload, 1) := by decide +kernel
theorem dX11_biddersOf_13 : decode cX11_biddersOf 13 = .ok (.if_icmp .ge 28, 3) := by decide +kernel
theorem dX11_biddersOf_16 : decode cX11_biddersOf 16 = .ok (.iload_n 2, 1) := by decide +kernel
theorem dX11_biddersOf_17 : decode cX11_biddersOf 17 = .ok (.aload_n 0, 1) := by decide +kernel
theorem dX11_biddersOf_18 : decode cX11_biddersOf 18 = .ok (.iload_n 3, 1) := by decide +kernel
theorem dX11_biddersOf_19 : decode cX11_biddersOf 19 = .ok (.iload_n 1, 1) := by decide +kernel
theorem dX11_biddersOf_20 : decode cX11_biddersOf 20 = .ok (.invokevirtual 234, 3) := by decide +kernel
theorem dX11_biddersOf_23 : decode cX11_biddersOf 23 = .ok (.ifCond .eq 9, 3) := by decide +kernel
theorem dX11_biddersOf_26 : decode cX11_biddersOf 26 = .ok (.iconst 1, 1) := by decide +kernel
theorem dX11_biddersOf_27 : decode cX11_biddersOf 27 = .ok (.iload_n 3, 1) := by decide +kernel
theorem dX11_biddersOf_28 : decode cX11_biddersOf 28 = .ok (.ishl, 1) := by decide +kernel
theorem dX11_biddersOf_29 : decode cX11_biddersOf 29 = .ok (.goto 4, 3) := by decide +kernel
theorem dX11_biddersOf_32 : decode cX11_biddersOf 32 = .ok (.iconst 0, 1) := by decide +kernel
theorem dX11_biddersOf_33 : decode cX11_biddersOf 33 = .ok (.ior, 1) := by decide +kernel
theorem dX11_biddersOf_34 : decode cX11_biddersOf 34 = .ok (.istore_n 2, 1) := by decide +kernel
theorem dX11_biddersOf_35 : decode cX11_biddersOf 35 = .ok (.iinc 3 1, 3) := by decide +kernel
theorem dX11_biddersOf_38 : decode cX11_biddersOf 38 = .ok (.goto (-34), 3) := by decide +kernel
theorem dX11_biddersOf_41 : decode cX11_biddersOf 41 = .ok (.iload_n 2, 1) := by decide +kernel
theorem dX11_biddersOf_42 : decode cX11_biddersOf 42 = .ok (.ireturn, 1) := by decide +kernel
theorem dX11_order_0 : decode cX11_order 0 = .ok (.iload_n 2, 1) := by decide +kernel
theorem dX11_order_1 : decode cX11_order 1 = .ok (.ifCond .ge 9, 3) := by decide +kernel
theorem dX11_order_4 : decode cX11_order 4 = .ok (.aload_n 0, 1) := by decide +kernel
theorem dX11_order_5 : decode cX11_order 5 = .ok (.iconst 1, 1) := by decide +kernel
theorem dX11_order_6 : decode cX11_order 6 = .ok (.invokevirtual 186, 3) := by decide +kernel
theorem dX11_order_9 : decode cX11_order 9 = .ok (.ireturn, 1) := by decide +kernel
theorem dX11_order_10 : decode cX11_order 10 = .ok (.aload_n 0, 1) := by decide +kernel
theorem dX11_order_11 : decode cX11_order 11 = .ok (.iload_n 1, 1) := by decide +kernel
theorem dX11_order_12 : decode cX11_order 12 = .ok (.invokevirtual 238, 3) := by decide +kernel
theorem dX11_order_15 : decode cX11_order 15 = .ok (.ifCond .ne 9, 3) := by decide +kernel
theorem dX11_order_18 : decode cX11_order 18 = .ok (.aload_n 0, 1) := by decide +kernel
theorem dX11_order_19 : decode cX11_order 19 = .ok (.iconst 2, 1) := by decide +kernel
theorem dX11_order_20 : decode cX11_order 20 = .ok (.invokevirtual 186, 3) := by decide +kernel
theorem dX11_order_23 : decode cX11_order 23 = .ok (.ireturn, 1) := by decide +kernel
theorem dX11_order_24 : decode cX11_order 24 = .ok (.aload_n 0, 1) := by decide +kernel
theorem dX11_order_25 : decode cX11_order 25 = .ok (.iload_n 1, 1) := by decide +kernel
theorem dX11_order_26 : decode cX11_order 26 = .ok (.invokevirtual 277, 3) := by decide +kernel
theorem dX11_order_29 : decode cX11_order 29 = .ok (.istore_n 3, 1) := by decide +kernel
theorem dX11_order_30 : decode cX11_order 30 = .ok (.iload_n 2, 1) := by decide +kernel
theorem dX11_order_31 : decode cX11_order 31 = .ok (.iload_n 3, 1) := by decide +kernel
theorem dX11_order_32 : decode cX11_order 32 = .ok (.invokestatic 222, 3) := by decide +kernel
theorem dX11_order_35 : decode cX11_order 35 = .ok (.if_icmp .lt 9, 3) := by decide +kernel
theorem dX11_order_38 : decode cX11_order 38 = .ok (.aload_n 0, 1) := by decide +kernel
theorem dX11_order_39 : decode cX11_order 39 = .ok (.iconst 5, 1) := by decide +kernel
theorem dX11_order_40 : decode cX11_order 40 = .ok (.invokevirtual 186, 3) := by decide +kernel
theorem dX11_order_43 : decode cX11_order 43 = .ok (.ireturn, 1) := by decide +kernel
theorem dX11_order_44 : decode cX11_order 44 = .ok (.iconst 0, 1) := by decide +kernel
theorem dX11_order_45 : decode cX11_order 45 = .ok (.istore 4, 2) := by decide +kernel
theorem dX11_order_47 : decode cX11_order 47 = .ok (.iload 4, 2) := by decide +kernel
theorem dX11_order_49 : decode cX11_order 49 = .ok (.iload_n 2, 1) := by decide +kernel
theorem dX11_order_50 : decode cX11_order 50 = .ok (.if_icmp .ge 22, 3) := by decide +kernel
theorem dX11_order_53 : decode cX11_order 53 = .ok (.iload_n 3, 1) := by decide +kernel
theorem dX11_order_54 : decode cX11_order 54 = .ok (.iconst 1, 1) := by decide +kernel
theorem dX11_order_55 : decode cX11_order 55 = .ok (.aload_n 0, 1) := by decide +kernel
theorem dX11_order_56 : decode cX11_order 56 = .ok (.iload_n 3, 1) := by decide +kernel
theorem dX11_order_57 : decode cX11_order 57 = .ok (.iload_n 1, 1) := by decide +kernel
theorem dX11_order_58 : decode cX11_order 58 = .ok (.invokevirtual 280, 3) := by decide +kernel
theorem dX11_order_61 : decode cX11_order 61 = .ok (.ishl, 1) := by decide +kernel
theorem dX11_order_62 : decode cX11_order 62 = .ok (.iconst (-1), 1) := by decide +kernel
theorem dX11_order_63 : decode cX11_order 63 = .ok (.ixor, 1) := by decide +kernel
theorem dX11_order_64 : decode cX11_order 64 = .ok (.iand, 1) := by decide +kernel
theorem dX11_order_65 : decode cX11_order 65 = .ok (.istore_n 3, 1) := by decide +kernel
theorem dX11_order_66 : decode cX11_order 66 = .ok (.iinc 4 1, 3) := by decide +kernel
theorem dX11_order_69 : decode cX11_order 69 = .ok (.goto (-22), 3) := by decide +kernel
theorem dX11_order_72 : decode cX11_order 72 = .ok (.aload_n 0, 1) := by decide +kernel
theorem dX11_order_73 : decode cX11_order 73 = .ok (.aload_n 0, 1) := by decide +kernel
theorem dX11_order_74 : decode cX11_order 74 = .ok (.iload_n 3, 1) := by decide +kernel
theorem dX11_order_75 : decode cX11_order 75 = .ok (.iload_n 1, 1) := by decide +kernel
theorem dX11_order_76 : decode cX11_order 76 = .ok (.invokevirtual 280, 3) := by decide +kernel
theorem dX11_order_79 : decode cX11_order 79 = .ok (.invokevirtual 199, 3) := by decide +kernel
theorem dX11_order_82 : decode cX11_order 82 = .ok (.ireturn, 1) := by decide +kernel
theorem dX11_aheadOf_0 : decode cX11_aheadOf 0 = .ok (.iconst 0, 1) := by decide +kernel
theorem dX11_aheadOf_1 : decode cX11_aheadOf 1 = .ok (.istore 4, 2) := by decide +kernel
theorem dX11_aheadOf_3 : decode cX11_aheadOf 3 = .ok (.iconst 0, 1) := by decide +kernel
theorem dX11_aheadOf_4 : decode cX11_aheadOf 4 = .ok (.istore 5, 2) := by decide +kernel
theorem dX11_aheadOf_6 : decode cX11_aheadOf 6 = .ok (.iload 5, 2) := by decide +kernel
theorem dX11_aheadOf_8 : decode cX11_aheadOf 8 = .ok (.aload_n 0, 1) := by decide +kernel
theorem dX11_aheadOf_9 : decode cX11_aheadOf 9 = .ok (.getfield 7, 3) := by decide +kernel
theorem dX11_aheadOf_12 : decode cX11_aheadOf 12 = .ok (.sipush 231, 3) := by decide +kernel
theorem dX11_aheadOf_15 : decode cX11_aheadOf 15 = .ok (.iaload, 1) := by decide +kernel
theorem dX11_aheadOf_16 : decode cX11_aheadOf 16 = .ok (.if_icmp .ge 45, 3) := by decide +kernel
theorem dX11_aheadOf_19 : decode cX11_aheadOf 19 = .ok (.iload 4, 2) := by decide +kernel
theorem dX11_aheadOf_21 : decode cX11_aheadOf 21 = .ok (.iload_n 3, 1) := by decide +kernel
theorem dX11_aheadOf_22 : decode cX11_aheadOf 22 = .ok (.iload 5, 2) := by decide +kernel
theorem dX11_aheadOf_24 : decode cX11_aheadOf 24 = .ok (.ishr, 1) := by decide +kernel
theorem dX11_aheadOf_25 : decode cX11_aheadOf 25 = .ok (.iconst 1, 1) := by decide +kernel
theorem dX11_aheadOf_26 : decode cX11_aheadOf 26 = .ok (.iand, 1) := by decide +kernel
theorem dX11_aheadOf_27 : decode cX11_aheadOf 27 = .ok (.iconst 1, 1) := by decide +kernel
theorem dX11_aheadOf_28 : decode cX11_aheadOf 28 = .ok (.if_icmp .ne 23, 3) := by decide +kernel
theorem dX11_aheadOf_31 : decode cX11_aheadOf 31 = .ok (.aload_n 0, 1) := by decide +kernel
theorem dX11_aheadOf_32 : decode cX11_aheadOf 32 = .ok (.iload 5, 2) := by decide +kernel
theorem dX11_aheadOf_34 : decode cX11_aheadOf 34 = .ok (.iload_n 2, 1) := by decide +kernel
theorem dX11_aheadOf_35 : decode cX11_aheadOf 35 = .ok (.invokevirtual 275, 3) := by decide +kernel
theorem dX11_aheadOf_38 : decode cX11_aheadOf 38 = .ok (.aload_n 0, 1) := by decide +kernel
theorem dX11_aheadOf_39 : decode cX11_aheadOf 39 = .ok (.iload_n 1, 1) := by decide +kernel
theorem dX11_aheadOf_40 : decode cX11_aheadOf 40 = .ok (.iload_n 2, 1) := by decide +kernel
theorem dX11_aheadOf_41 : decode cX11_aheadOf 41 = .ok (.invokevirtual 275, 3) := by decide +kernel
theorem dX11_aheadOf_44 : decode cX11_aheadOf 44 = .ok (.if_icmp .ge 7, 3) := by decide +kernel
theorem dX11_aheadOf_47 : decode cX11_aheadOf 47 = .ok (.iconst 1, 1) := by decide +kernel
theorem dX11_aheadOf_48 : decode cX11_aheadOf 48 = .ok (.goto 4, 3) := by decide +kernel
theorem dX11_aheadOf_51 : decode cX11_aheadOf 51 = .ok (.iconst 0, 1) := by decide +kernel
theorem dX11_aheadOf_52 : decode cX11_aheadOf 52 = .ok (.iadd, 1) := by decide +kernel
theorem dX11_aheadOf_53 : decode cX11_aheadOf 53 = .ok (.istore 4, 2) := by decide +kernel
theorem dX11_aheadOf_55 : decode cX11_aheadOf 55 = .ok (.iinc 5 1, 3) := by decide +kernel
theorem dX11_aheadOf_58 : decode cX11_aheadOf 58 = .ok (.goto (-52), 3) := by decide +kernel
theorem dX11_aheadOf_61 : decode cX11_aheadOf 61 = .ok (.iload 4, 2) := by decide +kernel
theorem dX11_aheadOf_63 : decode cX11_aheadOf 63 = .ok (.ireturn, 1) := by decide +kernel
theorem dX11_ahead_0 : decode cX11_ahead 0 = .ok (.aload_n 0, 1) := by decide +kernel
theorem dX11_ahead_1 : decode cX11_ahead 1 = .ok (.iload_n 1, 1) := by decide +kernel
theorem dX11_ahead_2 : decode cX11_ahead 2 = .ok (.iload_n 2, 1) := by decide +kernel
theorem dX11_ahead_3 : decode cX11_ahead 3 = .ok (.invokevirtual 253, 3) := by decide +kernel
theorem dX11_ahead_6 : decode cX11_ahead 6 = .ok (.ifCond .ne 9, 3) := by decide +kernel
theorem dX11_ahead_9 : decode cX11_ahead 9 = .ok (.aload_n 0, 1) := by decide +kernel
theorem dX11_ahead_10 : decode cX11_ahead 10 = .ok (.iconst 2, 1) := by decide +kernel
theorem dX11_ahead_11 : decode cX11_ahead 11 = .ok (.invokevirtual 186, 3) := by decide +kernel
theorem dX11_ahead_14 : decode cX11_ahead 14 = .ok (.ireturn, 1) := by decide +kernel
theorem dX11_ahead_15 : decode cX11_ahead 15 = .ok (.aload_n 0, 1) := by decide +kernel
theorem dX11_ahead_16 : decode cX11_ahead 16 = .ok (.iload_n 1, 1) := by decide +kernel
theorem dX11_ahead_17 : decode cX11_ahead 17 = .ok (.invokevirtual 283, 3) := by decide +kernel
theorem dX11_ahead_20 : decode cX11_ahead 20 = .ok (.ifCond .eq 12, 3) := by decide +kernel
theorem dX11_ahead_23 : decode cX11_ahead 23 = .ok (.aload_n 0, 1) := by decide +kernel
theorem dX11_ahead_24 : decode cX11_ahead 24 = .ok (.iload_n 1, 1) := by decide +kernel
theorem dX11_ahead_25 : decode cX11_ahead 25 = .ok (.iload_n 2, 1) := by decide +kernel
theorem dX11_ahead_26 : decode cX11_ahead 26 = .ok (.invokevirtual 250, 3) := by decide +kernel
theorem dX11_ahead_29 : decode cX11_ahead 29 = .ok (.ifCond .ne 9, 3) := by decide +kernel
theorem dX11_ahead_32 : decode cX11_ahead 32 = .ok (.aload_n 0, 1) := by decide +kernel
theorem dX11_ahead_33 : decode cX11_ahead 33 = .ok (.iconst 5, 1) := by decide +kernel
theorem dX11_ahead_34 : decode cX11_ahead 34 = .ok (.invokevirtual 186, 3) := by decide +kernel
theorem dX11_ahead_37 : decode cX11_ahead 37 = .ok (.ireturn, 1) := by decide +kernel
theorem dX11_ahead_38 : decode cX11_ahead 38 = .ok (.iconst 0, 1) := by decide +kernel
theorem dX11_ahead_39 : decode cX11_ahead 39 = .ok (.istore_n 3, 1) := by decide +kernel
theorem dX11_ahead_40 : decode cX11_ahead 40 = .ok (.iconst 0, 1) := by decide +kernel
theorem dX11_ahead_41 : decode cX11_ahead 41 = .ok (.istore 4, 2) := by decide +kernel
theorem dX11_ahead_43 : decode cX11_ahead 43 = .ok (.iload 4, 2) := by decide +kernel
theorem dX11_ahead_45 : decode cX11_ahead 45 = .ok (.aload_n 0, 1) := by decide +kernel
theorem dX11_ahead_46 : decode cX11_ahead 46 = .ok (.getfield 7, 3) := by decide +kernel
theorem dX11_ahead_49 : decode cX11_ahead 49 = .ok (.sipush 231, 3) := by decide +kernel
theorem dX11_ahead_52 : decode cX11_ahead 52 = .ok (.iaload, 1) := by decide +kernel
theorem dX11_ahead_53 : decode cX11_ahead 53 = .ok (.if_icmp .ge 39, 3) := by decide +kernel
theorem dX11_ahead_56 : decode cX11_ahead 56 = .ok (.iload_n 3, 1) := by decide +kernel
theorem dX11_ahead_57 : decode cX11_ahead 57 = .ok (.aload_n 0, 1) := by decide +kernel
theorem dX11_ahead_58 : decode cX11_ahead 58 = .ok (.iload 4, 2) := by decide +kernel
theorem dX11_ahead_60 : decode cX11_ahead 60 = .ok (.invokevirtual 283, 3) := by decide +kernel
theorem dX11_ahead_63 : decode cX11_ahead 63 = .ok (.ifCond .eq 20, 3) := by decide +kernel
theorem dX11_ahead_66 : decode cX11_ahead 66 = .ok (.aload_n 0, 1) := by decide +kernel
theorem dX11_ahead_67 : decode cX11_ahead 67 = .ok (.iload 4, 2) := by decide +kernel
theorem dX11_ahead_69 : decode cX11_ahead 69 = .ok (.iload_n 2, 1) := by decide +kernel
theorem dX11_ahead_70 : decode cX11_ahead 70 = .ok (.invokevirtual 250, 3) := by decide +kernel
theorem dX11_ahead_73 : decode cX11_ahead 73 = .ok (.ifCond .eq 10, 3) := by decide +kernel
theorem dX11_ahead_76 : decode cX11_ahead 76 = .ok (.iconst 1, 1) := by decide +kernel
theorem dX11_ahead_77 : decode cX11_ahead 77 = .ok (.iload 4, 2) := by decide +kernel
theorem dX11_ahead_79 : decode cX11_ahead 79 = .ok (.ishl, 1) := by decide +kernel
theorem dX11_ahead_80 : decode cX11_ahead 80 = .ok (.goto 4, 3) := by decide +kernel
theorem dX11_ahead_83 : decode cX11_ahead 83 = .ok (.iconst 0, 1) := by decide +kernel
theorem dX11_ahead_84 : decode cX11_ahead 84 = .ok (.ior, 1) := by decide +kernel
theorem dX11_ahead_85 : decode cX11_ahead 85 = .ok (.istore_n 3, 1) := by decide +kernel
theorem dX11_ahead_86 : decode cX11_ahead 86 = .ok (.iinc 4 1, 3) := by decide +kernel
theorem dX11_ahead_89 : decode cX11_ahead 89 = .ok (.goto (-46), 3) := by decide +kernel
theorem dX11_ahead_92 : decode cX11_ahead 92 = .ok (.aload_n 0, 1) := by decide +kernel
theorem dX11_ahead_93 : decode cX11_ahead 93 = .ok (.aload_n 0, 1) := by decide +kernel
theorem dX11_ahead_94 : decode cX11_ahead 94 = .ok (.iload_n 1, 1) := by decide +kernel
theorem dX11_ahead_95 : decode cX11_ahead 95 = .ok (.iload_n 2, 1) := by decide +kernel
theorem dX11_ahead_96 : decode cX11_ahead 96 = .ok (.iload_n 3, 1) := by decide +kernel
theorem dX11_ahead_97 : decode cX11_ahead 97 = .ok (.invokevirtual 286, 3) := by decide +kernel
theorem dX11_ahead_100 : decode cX11_ahead 100 = .ok (.invokevirtual 199, 3) := by decide +kernel
theorem dX11_ahead_103 : decode cX11_ahead 103 = .ok (.ireturn, 1) := by decide +kernel
theorem dX11_turn_0 : decode cX11_turn 0 = .ok (.iload_n 2, 1) := by decide +kernel
theorem dX11_turn_1 : decode cX11_turn 1 = .ok (.iconst 0, 1) := by decide +kernel
theorem dX11_turn_2 : decode cX11_turn 2 = .ok (.iconst 1, 1) := by decide +kernel
theorem dX11_turn_3 : decode cX11_turn 3 = .ok (.invokestatic 71, 3) := by decide +kernel
theorem dX11_turn_6 : decode cX11_turn 6 = .ok (.ifCond .ne 9, 3) := by decide +kernel
theorem dX11_turn_9 : decode cX11_turn 9 = .ok (.aload_n 0, 1) := by decide +kernel
theorem dX11_turn_10 : decode cX11_turn 10 = .ok (.iconst 1, 1) := by decide +kernel
theorem dX11_turn_11 : decode cX11_turn 11 = .ok (.invokevirtual 186, 3) := by decide +kernel
theorem dX11_turn_14 : decode cX11_turn 14 = .ok (.ireturn, 1) := by decide +kernel
theorem dX11_turn_15 : decode cX11_turn 15 = .ok (.aload_n 0, 1) := by decide +kernel
theorem dX11_turn_16 : decode cX11_turn 16 = .ok (.iload_n 1, 1) := by decide +kernel
theorem dX11_turn_17 : decode cX11_turn 17 = .ok (.invokevirtual 238, 3) := by decide +kernel
theorem dX11_turn_20 : decode cX11_turn 20 = .ok (.ifCond .ne 9, 3) := by decide +kernel
theorem dX11_turn_23 : decode cX11_turn 23 = .ok (.aload_n 0, 1) := by decide +kernel
theorem dX11_turn_24 : decode cX11_turn 24 = .ok (.iconst 2, 1) := by decide +kernel
theorem dX11_turn_25 : decode cX11_turn 25 = .ok (.invokevirtual 186, 3) := by decide +kernel
theorem dX11_turn_28 : decode cX11_turn 28 = .ok (.ireturn, 1) := by decide +kernel
theorem dX11_turn_29 : decode cX11_turn 29 = .ok (.aload_n 0, 1) := by decide +kernel
theorem dX11_turn_30 : decode cX11_turn 30 = .ok (.iload_n 2, 1) := by decide +kernel
theorem dX11_turn_31 : decode cX11_turn 31 = .ok (.ifCond .ne 14, 3) := by decide +kernel
theorem dX11_turn_34 : decode cX11_turn 34 = .ok (.aload_n 0, 1) := by decide +kernel
theorem dX11_turn_35 : decode cX11_turn 35 = .ok (.iload_n 1, 1) := by decide +kernel
theorem dX11_turn_36 : decode cX11_turn 36 = .ok (.invokevirtual 265, 3) := by decide +kernel
theorem dX11_turn_39 : decode cX11_turn 39 = .ok (.ifCond .eq 17, 3) := by decide +kernel
theorem dX11_turn_42 : decode cX11_turn 42 = .ok (.goto 10, 3) := by decide +kernel
theorem dX11_turn_45 : decode cX11_turn 45 = .ok (.aload_n 0, 1) := by decide +kernel
theorem dX11_turn_46 : decode cX11_turn 46 = .ok (.invokevirtual 268, 3) := by decide +kernel
theorem dX11_turn_49 : decode cX11_turn 49 = .ok (.ifCond .eq 7, 3) := by decide +kernel
theorem dX11_turn_52 : decode cX11_turn 52 = .ok (.iconst 1, 1) := by decide +kernel
theorem dX11_turn_53 : decode cX11_turn 53 = .ok (.goto 4, 3) := by decide +kernel
theorem dX11_turn_56 : decode cX11_turn 56 = .ok (.iconst 0, 1) := by decide +kernel
theorem dX11_turn_57 : decode cX11_turn 57 = .ok (.invokevirtual 199, 3) := by decide +kernel
theorem dX11_turn_60 : decode cX11_turn 60 = .ok (.ireturn, 1) := by decide +kernel
theorem dX11_gap_0 : decode cX11_gap 0 = .ok (.aload_n 0, 1) := by decide +kernel
theorem dX11_gap_1 : decode cX11_gap 1 = .ok (.iload_n 1, 1) := by decide +kernel
theorem dX11_gap_2 : decode cX11_gap 2 = .ok (.iload_n 2, 1) := by decide +kernel
theorem dX11_gap_3 : decode cX11_gap 3 = .ok (.invokevirtual 253, 3) := by decide +kernel
theorem dX11_gap_6 : decode cX11_gap 6 = .ok (.ifCond .ne 9, 3) := by decide +kernel
theorem dX11_gap_9 : decode cX11_gap 9 = .ok (.aload_n 0, 1) := by decide +kernel
theorem dX11_gap_10 : decode cX11_gap 10 = .ok (.iconst 2, 1) := by decide +kernel
theorem dX11_gap_11 : decode cX11_gap 11 = .ok (.invokevirtual 186, 3) := by decide +kernel
theorem dX11_gap_14 : decode cX11_gap 14 = .ok (.ireturn, 1) := by decide +kernel
theorem dX11_gap_15 : decode cX11_gap 15 = .ok (.aload_n 0, 1) := by decide +kernel
theorem dX11_gap_16 : decode cX11_gap 16 = .ok (.iload_n 1, 1) := by decide +kernel
theorem dX11_gap_17 : decode cX11_gap 17 = .ok (.invokevirtual 283, 3) := by decide +kernel
theorem dX11_gap_20 : decode cX11_gap 20 = .ok (.ifCond .eq 12, 3) := by decide +kernel
theorem dX11_gap_23 : decode cX11_gap 23 = .ok (.aload_n 0, 1) := by decide +kernel
theorem dX11_gap_24 : decode cX11_gap 24 = .ok (.iload_n 1, 1) := by decide +kernel
theorem dX11_gap_25 : decode cX11_gap 25 = .ok (.iload_n 2, 1) := by decide +kernel
theorem dX11_gap_26 : decode cX11_gap 26 = .ok (.invokevirtual 250, 3) := by decide +kernel
theorem dX11_gap_29 : decode cX11_gap 29 = .ok (.ifCond .ne 9, 3) := by decide +kernel
theorem dX11_gap_32 : decode cX11_gap 32 = .ok (.aload_n 0, 1) := by decide +kernel
theorem dX11_gap_33 : decode cX11_gap 33 = .ok (.iconst 5, 1) := by decide +kernel
theorem dX11_gap_34 : decode cX11_gap 34 = .ok (.invokevirtual 186, 3) := by decide +kernel
theorem dX11_gap_37 : decode cX11_gap 37 = .ok (.ireturn, 1) := by decide +kernel
theorem dX11_gap_38 : decode cX11_gap 38 = .ok (.aload_n 0, 1) := by decide +kernel
theorem dX11_gap_39 : decode cX11_gap 39 = .ok (.iload_n 2, 1) := by decide +kernel
theorem dX11_gap_40 : decode cX11_gap 40 = .ok (.invokevirtual 277, 3) := by decide +kernel
theorem dX11_gap_43 : decode cX11_gap 43 = .ok (.iconst 1, 1) := by decide +kernel
theorem dX11_gap_44 : decode cX11_gap 44 = .ok (.iload_n 1, 1) := by decide +kernel
theorem dX11_gap_45 : decode cX11_gap 45 = .ok (.ishl, 1) := by decide +kernel
theorem dX11_gap_46 : decode cX11_gap 46 = .ok (.iconst (-1), 1) := by decide +kernel
theorem dX11_gap_47 : decode cX11_gap 47 = .ok (.ixor, 1) := by decide +kernel
theorem dX11_gap_48 : decode cX11_gap 48 = .ok (.iand, 1) := by decide +kernel
theorem dX11_gap_49 : decode cX11_gap 49 = .ok (.istore_n 3, 1) := by decide +kernel
theorem dX11_gap_50 : decode cX11_gap 50 = .ok (.aload_n 0, 1) := by decide +kernel
theorem dX11_gap_51 : decode cX11_gap 51 = .ok (.iload_n 3, 1) := by decide +kernel
theorem dX11_gap_52 : decode cX11_gap 52 = .ok (.iload_n 2, 1) := by decide +kernel
theorem dX11_gap_53 : decode cX11_gap 53 = .ok (.invokevirtual 280, 3) := by decide +kernel
theorem dX11_gap_56 : decode cX11_gap 56 = .ok (.istore 4, 2) := by decide +kernel
theorem dX11_gap_58 : decode cX11_gap 58 = .ok (.iconst 0, 1) := by decide +kernel
theorem dX11_gap_59 : decode cX11_gap 59 = .ok (.istore 5, 2) := by decide +kernel
theorem dX11_gap_61 : decode cX11_gap 61 = .ok (.iload 5, 2) := by decide +kernel
theorem dX11_gap_63 : decode cX11_gap 63 = .ok (.aload_n 0, 1) := by decide +kernel
theorem dX11_gap_64 : decode cX11_gap 64 = .ok (.iload_n 1, 1) := by decide +kernel
theorem dX11_gap_65 : decode cX11_gap 65 = .ok (.invokevirtual 247, 3) := by decide +kernel
theorem dX11_gap_68 : decode cX11_gap 68 = .ok (.if_icmp .ge 46, 3) := by decide +kernel
theorem dX11_gap_71 : decode cX11_gap 71 = .ok (.iload 4, 2) := by decide +kernel
theorem dX11_gap_73 : decode cX11_gap 73 = .ok (.iconst (-1), 1) := by decide +kernel
theorem dX11_gap_74 : decode cX11_gap 74 = .ok (.if_icmp .eq 27, 3) := by decide +kernel
theorem dX11_gap_77 : decode cX11_gap 77 = .ok (.aload_n 0, 1) := by decide +kernel
theorem dX11_gap_78 : decode cX11_gap 78 = .ok (.iload_n 1, 1) := by decide +kernel
theorem dX11_gap_79 : decode cX11_gap 79 = .ok (.iload_n 2, 1) := by decide +kernel
theorem dX11_gap_80 : decode cX11_gap 80 = .ok (.aload_n 0, 1) := by decide +kernel
theorem dX11_gap_81 : decode cX11_gap 81 = .ok (.iload_n 1, 1) := by decide +kernel
theorem dX11_gap_82 : decode cX11_gap 82 = .ok (.invokevirtual 247, 3) := by decide +kernel
theorem dX11_gap_85 : decode cX11_gap 85 = .ok (.iload 5, 2) := by decide +kernel
theorem dX11_gap_87 : decode cX11_gap 87 = .ok (.isub, 1) := by decide +kernel
theorem dX11_gap_88 : decode cX11_gap 88 = .ok (.invokevirtual 271, 3) := by decide +kernel
theorem dX11_gap_91 : decode cX11_gap 91 = .ok (.aload_n 0, 1) := by decide +kernel
theorem dX11_gap_92 : decode cX11_gap 92 = .ok (.iload 4, 2) := by decide +kernel
theorem dX11_gap_94 : decode cX11_gap 94 = .ok (.iload_n 2, 1) := by decide +kernel
theorem dX11_gap_95 : decode cX11_gap 95 = .ok (.invokevirtual 275, 3) := by decide +kernel
theorem dX11_gap_98 : decode cX11_gap 98 = .ok (.if_icmp .ge 10, 3) := by decide +kernel
theorem dX11_gap_101 : decode cX11_gap 101 = .ok (.aload_n 0, 1) := by decide +kernel
theorem dX11_gap_102 : decode cX11_gap 102 = .ok (.iload 5, 2) := by decide +kernel
theorem dX11_gap_104 : decode cX11_gap 104 = .ok (.invokevirtual 199, 3) := by decide +kernel
theorem dX11_gap_107 : decode cX11_gap 107 = .ok (.ireturn, 1) := by decide +kernel
theorem dX11_gap_108 : decode cX11_gap 108 = .ok (.iinc 5 1, 3) := by decide +kernel
theorem dX11_gap_111 : decode cX11_gap 111 = .ok (.goto (-50), 3) := by decide +kernel
theorem dX11_gap_114 : decode cX11_gap 114 = .ok (.aload_n 0, 1) := by decide +kernel
theorem dX11_gap_115 : decode cX11_gap 115 = .ok (.iconst 5, 1) := by decide +kernel
theorem dX11_gap_116 : decode cX11_gap 116 = .ok (.invokevirtual 186, 3) := by decide +kernel
theorem dX11_gap_119 : decode cX11_gap 119 = .ok (.ireturn, 1) := by decide +kernel
theorem dX11_puts_0 : decode cX11_puts 0 = .ok (.aload_n 0, 1) := by decide +kernel
theorem dX11_puts_1 : decode cX11_puts 1 = .ok (.getfield 7, 3) := by decide +kernel
theorem dX11_puts_4 : decode cX11_puts 4 = .ok (.iload_n 1, 1) := by decide +kernel
theorem dX11_puts_5 : decode cX11_puts 5 = .ok (.iload_n 2, 1) := by decide +kernel
theorem dX11_puts_6 : decode cX11_puts 6 = .ok (.invokestatic 75, 3) := by decide +kernel
theorem dX11_puts_9 : decode cX11_puts 9 = .ok (.iload_n 3, 1) := by decide +kernel
theorem dX11_puts_10 : decode cX11_puts 10 = .ok (.iastore, 1) := by decide +kernel
theorem dX11_puts_11 : decode cX11_puts 11 = .ok (.return_, 1) := by decide +kernel
theorem dX11_putsHome_0 : decode cX11_putsHome 0 = .ok (.aload_n 0, 1) := by decide +kernel
theorem dX11_putsHome_1 : decode cX11_putsHome 1 = .ok (.getfield 7, 3) := by decide +kernel
theorem dX11_putsHome_4 : decode cX11_putsHome 4 = .ok (.bipush 8, 2) := by decide +kernel
theorem dX11_putsHome_6 : decode cX11_putsHome 6 = .ok (.iload_n 1, 1) := by decide +kernel
theorem dX11_putsHome_7 : decode cX11_putsHome 7 = .ok (.imul, 1) := by decide +kernel
theorem dX11_putsHome_8 : decode cX11_putsHome 8 = .ok (.iload_n 2, 1) := by decide +kernel
theorem dX11_putsHome_9 : decode cX11_putsHome 9 = .ok (.iadd, 1) := by decide +kernel
theorem dX11_putsHome_10 : decode cX11_putsHome 10 = .ok (.iload_n 3, 1) := by decide +kernel
theorem dX11_putsHome_11 : decode cX11_putsHome 11 = .ok (.iastore, 1) := by decide +kernel
theorem dX11_putsHome_12 : decode cX11_putsHome 12 = .ok (.return_, 1) := by decide +kernel
theorem dX11_offered_0 : decode cX11_offered 0 = .ok (.sipush 300, 3) := by decide +kernel
theorem dX11_offered_3 : decode cX11_offered 3 = .ok (.iconst 3, 1) := by decide +kernel
theorem dX11_offered_4 : decode cX11_offered 4 = .ok (.aload_n 0, 1) := by decide +kernel
theorem dX11_offered_5 : decode cX11_offered 5 = .ok (.getfield 7, 3) := by decide +kernel
theorem dX11_offered_8 : decode cX11_offered 8 = .ok (.sipush 299, 3) := by decide +kernel
theorem dX11_offered_11 : decode cX11_offered 11 = .ok (.iaload, 1) := by decide +kernel
theorem dX11_offered_12 : decode cX11_offered 12 = .ok (.imul, 1) := by decide +kernel
theorem dX11_offered_13 : decode cX11_offered 13 = .ok (.iadd, 1) := by decide +kernel
theorem dX11_offered_14 : decode cX11_offered 14 = .ok (.istore 4, 2) := by decide +kernel
theorem dX11_offered_16 : decode cX11_offered 16 = .ok (.aload_n 0, 1) := by decide +kernel
theorem dX11_offered_17 : decode cX11_offered 17 = .ok (.getfield 7, 3) := by decide +kernel
theorem dX11_offered_20 : decode cX11_offered 20 = .ok (.iload 4, 2) := by decide +kernel
theorem dX11_offered_22 : decode cX11_offered 22 = .ok (.iload_n 1, 1) := by decide +kernel
theorem dX11_offered_23 : decode cX11_offered 23 = .ok (.iastore, 1) := by decide +kernel
theorem dX11_offered_24 : decode cX11_offered 24 = .ok (.aload_n 0, 1) := by decide +kernel
theorem dX11_offered_25 : decode cX11_offered 25 = .ok (.getfield 7, 3) := by decide +kernel
theorem dX11_offered_28 : decode cX11_offered 28 = .ok (.iload 4, 2) := by decide +kernel
theorem dX11_offered_30 : decode cX11_offered 30 = .ok (.iconst 1, 1) := by decide +kernel
theorem dX11_offered_31 : decode cX11_offered 31 = .ok (.iadd, 1) := by decide +kernel
theorem dX11_offered_32 : decode cX11_offered 32 = .ok (.iload_n 2, 1) := by decide +kernel
theorem dX11_offered_33 : decode cX11_offered 33 = .ok (.iastore, 1) := by decide +kernel
theorem dX11_offered_34 : decode cX11_offered 34 = .ok (.aload_n 0, 1) := by decide +kernel
theorem dX11_offered_35 : decode cX11_offered 35 = .ok (.getfield 7, 3) := by decide +kernel
theorem dX11_offered_38 : decode cX11_offered 38 = .ok (.iload 4, 2) := by decide +kernel
theorem dX11_offered_40 : decode cX11_offered 40 = .ok (.iconst 2, 1) := by decide +kernel
theorem dX11_offered_41 : decode cX11_offered 41 = .ok (.iadd, 1) := by decide +kernel
theorem dX11_offered_42 : decode cX11_offered 42 = .ok (.iload_n 3, 1) := by decide +kernel
theorem dX11_offered_43 : decode cX11_offered 43 = .ok (.ifCond .eq 7, 3) := by decide +kernel
theorem dX11_offered_46 : decode cX11_offered 46 = .ok (.iconst 1, 1) := by decide +kernel
theorem dX11_offered_47 : decode cX11_offered 47 = .ok (.goto 4, 3) := by decide +kernel
theorem dX11_offered_50 : decode cX11_offered 50 = .ok (.iconst 0, 1) := by decide +kernel
theorem dX11_offered_51 : decode cX11_offered 51 = .ok (.iastore, 1) := by decide +kernel
theorem dX11_offered_52 : decode cX11_offered 52 = .ok (.aload_n 0, 1) := by decide +kernel
theorem dX11_offered_53 : decode cX11_offered 53 = .ok (.getfield 7, 3) := by decide +kernel
theorem dX11_offered_56 : decode cX11_offered 56 = .ok (.sipush 299, 3) := by decide +kernel
theorem dX11_offered_59 : decode cX11_offered 59 = .ok (.dup2, 1) := by decide +kernel
theorem dX11_offered_60 : decode cX11_offered 60 = .ok (.iaload, 1) := by decide +kernel
theorem dX11_offered_61 : decode cX11_offered 61 = .ok (.iconst 1, 1) := by decide +kernel
theorem dX11_offered_62 : decode cX11_offered 62 = .ok (.iadd, 1) := by decide +kernel
theorem dX11_offered_63 : decode cX11_offered 63 = .ok (.iastore, 1) := by decide +kernel
theorem dX11_offered_64 : decode cX11_offered 64 = .ok (.return_, 1) := by decide +kernel
theorem dX11_refuses_0 : decode cX11_refuses 0 = .ok (.aload_n 0, 1) := by decide +kernel
theorem dX11_refuses_1 : decode cX11_refuses 1 = .ok (.iload_n 1, 1) := by decide +kernel
theorem dX11_refuses_2 : decode cX11_refuses 2 = .ok (.iconst 5, 1) := by decide +kernel
theorem dX11_refuses_3 : decode cX11_refuses 3 = .ok (.aload_n 0, 1) := by decide +kernel
theorem dX11_refuses_4 : decode cX11_refuses 4 = .ok (.iload_n 1, 1) := by decide +kernel
theorem dX11_refuses_5 : decode cX11_refuses 5 = .ok (.iconst 5, 1) := by decide +kernel
theorem dX11_refuses_6 : decode cX11_refuses 6 = .ok (.invokevirtual 205, 3) := by decide +kernel
theorem dX11_refuses_9 : decode cX11_refuses 9 = .ok (.iconst 1, 1) := by decide +kernel
theorem dX11_refuses_10 : decode cX11_refuses 10 = .ok (.iadd, 1) := by decide +kernel
theorem dX11_refuses_11 : decode cX11_refuses 11 = .ok (.invokevirtual 289, 3) := by decide +kernel
theorem dX11_refuses_14 : decode cX11_refuses 14 = .ok (.aload_n 0, 1) := by decide +kernel
theorem dX11_refuses_15 : decode cX11_refuses 15 = .ok (.getfield 7, 3) := by decide +kernel
theorem dX11_refuses_18 : decode cX11_refuses 18 = .ok (.sipush 298, 3) := by decide +kernel
theorem dX11_refuses_21 : decode cX11_refuses 21 = .ok (.dup2, 1) := by decide +kernel
theorem dX11_refuses_22 : decode cX11_refuses 22 = .ok (.iaload, 1) := by decide +kernel
theorem dX11_refuses_23 : decode cX11_refuses 23 = .ok (.iconst 1, 1) := by decide +kernel
theorem dX11_refuses_24 : decode cX11_refuses 24 = .ok (.iadd, 1) := by decide +kernel
theorem dX11_refuses_25 : decode cX11_refuses 25 = .ok (.iastore, 1) := by decide +kernel
theorem dX11_refuses_26 : decode cX11_refuses 26 = .ok (.aload_n 0, 1) := by decide +kernel
theorem dX11_refuses_27 : decode cX11_refuses 27 = .ok (.iload_n 1, 1) := by decide +kernel
theorem dX11_refuses_28 : decode cX11_refuses 28 = .ok (.iconst 5, 1) := by decide +kernel
theorem dX11_refuses_29 : decode cX11_refuses 29 = .ok (.invokevirtual 205, 3) := by decide +kernel
theorem dX11_refuses_32 : decode cX11_refuses 32 = .ok (.aload_n 0, 1) := by decide +kernel
theorem dX11_refuses_33 : decode cX11_refuses 33 = .ok (.getfield 7, 3) := by decide +kernel
theorem dX11_refuses_36 : decode cX11_refuses 36 = .ok (.sipush 224, 3) := by decide +kernel
theorem dX11_refuses_39 : decode cX11_refuses 39 = .ok (.iaload, 1) := by decide +kernel
theorem dX11_refuses_40 : decode cX11_refuses 40 = .ok (.if_icmp .ge 4, 3) := by decide +kernel
theorem dX11_refuses_43 : decode cX11_refuses 43 = .ok (.return_, 1) := by decide +kernel
theorem dX11_refuses_44 : decode cX11_refuses 44 = .ok (.aload_n 0, 1) := by decide +kernel
theorem dX11_refuses_45 : decode cX11_refuses 45 = .ok (.iload_n 1, 1) := by decide +kernel
theorem dX11_refuses_46 : decode cX11_refuses 46 = .ok (.iconst 5, 1) := by decide +kernel
theorem dX11_refuses_47 : decode cX11_refuses 47 = .ok (.iconst 0, 1) := by decide +kernel
theorem dX11_refuses_48 : decode cX11_refuses 48 = .ok (.invokevirtual 289, 3) := by decide +kernel
theorem dX11_refuses_51 : decode cX11_refuses 51 = .ok (.aload_n 0, 1) := by decide +kernel
theorem dX11_refuses_52 : decode cX11_refuses 52 = .ok (.iload_n 1, 1) := by decide +kernel
theorem dX11_refuses_53 : decode cX11_refuses 53 = .ok (.bipush 6, 2) := by decide +kernel
theorem dX11_refuses_55 : decode cX11_refuses 55 = .ok (.aload_n 0, 1) := by decide +kernel
theorem dX11_refuses_56 : decode cX11_refuses 56 = .ok (.getfield 7, 3) := by decide +kernel
theorem dX11_refuses_59 : decode cX11_refuses 59 = .ok (.sipush 225, 3) := by decide +kernel
theorem dX11_refuses_62 : decode cX11_refuses 62 = .ok (.iaload, 1) := by decide +kernel
theorem dX11_refuses_63 : decode cX11_refuses 63 = .ok (.invokevirtual 289, 3) := by decide +kernel
theorem dX11_refuses_66 : decode cX11_refuses 66 = .ok (.aload_n 0, 1) := by decide +kernel
theorem dX11_refuses_67 : decode cX11_refuses 67 = .ok (.iload_n 1, 1) := by decide +kernel
theorem dX11_refuses_68 : decode cX11_refuses 68 = .ok (.bipush 7, 2) := by decide +kernel
theorem dX11_refuses_70 : decode cX11_refuses 70 = .ok (.iconst 1, 1) := by decide +kernel
theorem dX11_refuses_71 : decode cX11_refuses 71 = .ok (.invokevirtual 289, 3) := by decide +kernel
theorem dX11_refuses_74 : decode cX11_refuses 74 = .ok (.return_, 1) := by decide +kernel
theorem dX11_takes_0 : decode cX11_takes 0 = .ok (.sipush 234, 3) := by decide +kernel
theorem dX11_takes_3 : decode cX11_takes 3 = .ok (.bipush 8, 2) := by decide +kernel
theorem dX11_takes_5 : decode cX11_takes 5 = .ok (.aload_n 0, 1) := by decide +kernel
theorem dX11_takes_6 : decode cX11_takes 6 = .ok (.getfield 7, 3) := by decide +kernel
theorem dX11_takes_9 : decode cX11_takes 9 = .ok (.sipush 233, 3) := by decide +kernel
theorem dX11_takes_12 : decode cX11_takes 12 = .ok (.iaload, 1) := by decide +kernel
theorem dX11_takes_13 : decode cX11_takes 13 = .ok (.imul, 1) := by decide +kernel
theorem dX11_takes_14 : decode cX11_takes 14 = .ok (.iadd, 1) := by decide +kernel
theorem dX11_takes_15 : decode cX11_takes 15 = .ok (.istore 4, 2) := by decide +kernel
theorem dX11_takes_17 : decode cX11_takes 17 = .ok (.aload_n 0, 1) := by decide +kernel
theorem dX11_takes_18 : decode cX11_takes 18 = .ok (.iload_n 1, 1) := by decide +kernel
theorem dX11_takes_19 : decode cX11_takes 19 = .ok (.invokevirtual 247, 3) := by decide +kernel
theorem dX11_takes_22 : decode cX11_takes 22 = .ok (.istore 5, 2) := by decide +kernel
theorem dX11_takes_24 : decode cX11_takes 24 = .ok (.aload_n 0, 1) := by decide +kernel
theorem dX11_takes_25 : decode cX11_takes 25 = .ok (.iload_n 1, 1) := by decide +kernel
theorem dX11_takes_26 : decode cX11_takes 26 = .ok (.iconst 4, 1) := by decide +kernel
theorem dX11_takes_27 : decode cX11_takes 27 = .ok (.invokevirtual 205, 3) := by decide +kernel
theorem dX11_takes_30 : decode cX11_takes 30 = .ok (.istore 6, 2) := by decide +kernel
theorem dX11_takes_32 : decode cX11_takes 32 = .ok (.aload_n 0, 1) := by decide +kernel
theorem dX11_takes_33 : decode cX11_takes 33 = .ok (.getfield 7, 3) := by decide +kernel
theorem dX11_takes_36 : decode cX11_takes 36 = .ok (.iload 4, 2) := by decide +kernel
theorem dX11_takes_38 : decode cX11_takes 38 = .ok (.iload_n 1, 1) := by decide +kernel
theorem dX11_takes_39 : decode cX11_takes 39 = .ok (.iastore, 1) := by decide +kernel
theorem dX11_takes_40 : decode cX11_takes 40 = .ok (.aload_n 0, 1) := by decide +kernel
theorem dX11_takes_41 : decode cX11_takes 41 = .ok (.getfield 7, 3) := by decide +kernel
theorem dX11_takes_44 : decode cX11_takes 44 = .ok (.iload 4, 2) := by decide +kernel
theorem dX11_takes_46 : decode cX11_takes 46 = .ok (.iconst 1, 1) := by decide +kernel
theorem dX11_takes_47 : decode cX11_takes 47 = .ok (.iadd, 1) := by decide +kernel
theorem dX11_takes_48 : decode cX11_takes 48 = .ok (.iload_n 2, 1) := by decide +kernel
theorem dX11_takes_49 : decode cX11_takes 49 = .ok (.iastore, 1) := by decide +kernel
theorem dX11_takes_50 : decode cX11_takes 50 = .ok (.aload_n 0, 1) := by decide +kernel
theorem dX11_takes_51 : decode cX11_takes 51 = .ok (.getfield 7, 3) := by decide +kernel
theorem dX11_takes_54 : decode cX11_takes 54 = .ok (.iload 4, 2) := by decide +kernel
theorem dX11_takes_56 : decode cX11_takes 56 = .ok (.iconst 2, 1) := by decide +kernel
theorem dX11_takes_57 : decode cX11_takes 57 = .ok (.iadd, 1) := by decide +kernel
theorem dX11_takes_58 : decode cX11_takes 58 = .ok (.aload_n 0, 1) := by decide +kernel
theorem dX11_takes_59 : decode cX11_takes 59 = .ok (.getfield 7, 3) := by decide +kernel
theorem dX11_takes_62 : decode cX11_takes 62 = .ok (.sipush 232, 3) := by decide +kernel
theorem dX11_takes_65 : decode cX11_takes 65 = .ok (.iaload, 1) := by decide +kernel
theorem dX11_takes_66 : decode cX11_takes 66 = .ok (.iastore, 1) := by decide +kernel
theorem dX11_takes_67 : decode cX11_takes 67 = .ok (.aload_n 0, 1) := by decide +kernel
theorem dX11_takes_68 : decode cX11_takes 68 = .ok (.getfield 7, 3) := by decide +kernel
theorem dX11_takes_71 : decode cX11_takes 71 = .ok (.iload 4, 2) := by decide +kernel
theorem dX11_takes_73 : decode cX11_takes 73 = .ok (.iconst 3, 1) := by decide +kernel
theorem dX11_takes_74 : decode cX11_takes 74 = .ok (.iadd, 1) := by decide +kernel
theorem dX11_takes_75 : decode cX11_takes 75 = .ok (.aload_n 0, 1) := by decide +kernel
theorem dX11_takes_76 : decode cX11_takes 76 = .ok (.iload_n 2, 1) := by decide +kernel
theorem dX11_takes_77 : decode cX11_takes 77 = .ok (.iconst 5, 1) := by decide +kernel
theorem dX11_takes_78 : decode cX11_takes 78 = .ok (.invokevirtual 202, 3) := by decide +kernel
theorem dX11_takes_81 : decode cX11_takes 81 = .ok (.iconst 1, 1) := by decide +kernel
theorem dX11_takes_82 : decode cX11_takes 82 = .ok (.iadd, 1) := by decide +kernel
theorem dX11_takes_83 : decode cX11_takes 83 = .ok (.iastore, 1) := by decide +kernel
theorem dX11_takes_84 : decode cX11_takes 84 = .ok (.aload_n 0, 1) := by decide +kernel
theorem dX11_takes_85 : decode cX11_takes 85 = .ok (.getfield 7, 3) := by decide +kernel
theorem dX11_takes_88 : decode cX11_takes 88 = .ok (.iload 4, 2) := by decide +kernel
theorem dX11_takes_90 : decode cX11_takes 90 = .ok (.iconst 4, 1) := by decide +kernel
theorem dX11_takes_91 : decode cX11_takes 91 = .ok (.iadd, 1) := by decide +kernel
theorem dX11_takes_92 : decode cX11_takes 92 = .ok (.aload_n 0, 1) := by decide +kernel
theorem dX11_takes_93 : decode cX11_takes 93 = .ok (.iload_n 2, 1) := by decide +kernel
theorem dX11_takes_94 : decode cX11_takes 94 = .ok (.invokevirtual 265, 3) := by decide +kernel
theorem dX11_takes_97 : decode cX11_takes 97 = .ok (.ifCond .eq 7, 3) := by decide +kernel
theorem dX11_takes_100 : decode cX11_takes 100 = .ok (.iconst 1, 1) := by decide +kernel
theorem dX11_takes_101 : decode cX11_takes 101 = .ok (.goto 4, 3) := by decide +kernel
theorem dX11_takes_104 : decode cX11_takes 104 = .ok (.iconst 0, 1) := by decide +kernel
theorem dX11_takes_105 : decode cX11_takes 105 = .ok (.iastore, 1) := by decide +kernel
theorem dX11_takes_106 : decode cX11_takes 106 = .ok (.aload_n 0, 1) := by decide +kernel
theorem dX11_takes_107 : decode cX11_takes 107 = .ok (.getfield 7, 3) := by decide +kernel
theorem dX11_takes_110 : decode cX11_takes 110 = .ok (.iload 4, 2) := by decide +kernel
theorem dX11_takes_112 : decode cX11_takes 112 = .ok (.iconst 5, 1) := by decide +kernel
theorem dX11_takes_113 : decode cX11_takes 113 = .ok (.iadd, 1) := by decide +kernel
theorem dX11_takes_114 : decode cX11_takes 114 = .ok (.aload_n 0, 1) := by decide +kernel
theorem dX11_takes_115 : decode cX11_takes 115 = .ok (.invokevirtual 268, 3) := by decide +kernel
theorem dX11_takes_118 : decode cX11_takes 118 = .ok (.ifCond .eq 7, 3) := by decide +kernel
theorem dX11_takes_121 : decode cX11_takes 121 = .ok (.iconst 1, 1) := by decide +kernel
theorem dX11_takes_122 : decode cX11_takes 122 = .ok (.goto 4, 3) := by decide +kernel
theorem dX11_takes_125 : decode cX11_takes 125 = .ok (.iconst 0, 1) := by decide +kernel
theorem dX11_takes_126 : decode cX11_takes 126 = .ok (.iload 6, 2) := by decide +kernel
theorem dX11_takes_128 : decode cX11_takes 128 = .ok (.iconst (-1), 1) := by decide +kernel
theorem dX11_takes_129 : decode cX11_takes 129 = .ok (.if_icmp .ne 7, 3) := by decide +kernel
theorem dX11_takes_132 : decode cX11_takes 132 = .ok (.iconst 0, 1) := by decide +kernel
theorem dX11_takes_133 : decode cX11_takes 133 = .ok (.goto 4, 3) := by decide +kernel
theorem dX11_takes_136 : decode cX11_takes 136 = .ok (.iconst 2, 1) := by decide +kernel
theorem dX11_takes_137 : decode cX11_takes 137 = .ok (.iadd, 1) := by decide +kernel
theorem dX11_takes_138 : decode cX11_takes 138 = .ok (.iastore, 1) := by decide +kernel
theorem dX11_takes_139 : decode cX11_takes 139 = .ok (.aload_n 0, 1) := by decide +kernel
theorem dX11_takes_140 : decode cX11_takes 140 = .ok (.getfield 7, 3) := by decide +kernel
theorem dX11_takes_143 : decode cX11_takes 143 = .ok (.iload 4, 2) := by decide +kernel
theorem dX11_takes_145 : decode cX11_takes 145 = .ok (.bipush 6, 2) := by decide +kernel
theorem dX11_takes_147 : decode cX11_takes 147 = .ok (.iadd, 1) := by decide +kernel
theorem dX11_takes_148 : decode cX11_takes 148 = .ok (.iload_n 3, 1) := by decide +kernel
theorem dX11_takes_149 : decode cX11_takes 149 = .ok (.iastore, 1) := by decide +kernel
theorem dX11_takes_150 : decode cX11_takes 150 = .ok (.aload_n 0, 1) := by decide +kernel
theorem dX11_takes_151 : decode cX11_takes 151 = .ok (.getfield 7, 3) := by decide +kernel
theorem dX11_takes_154 : decode cX11_takes 154 = .ok (.iload 4, 2) := by decide +kernel
theorem dX11_takes_156 : decode cX11_takes 156 = .ok (.bipush 7, 2) := by decide +kernel
theorem dX11_takes_158 : decode cX11_takes 158 = .ok (.iadd, 1) := by decide +kernel
theorem dX11_takes_159 : decode cX11_takes 159 = .ok (.iload 5, 2) := by decide +kernel
theorem dX11_takes_161 : decode cX11_takes 161 = .ok (.iastore, 1) := by decide +kernel
theorem dX11_takes_162 : decode cX11_takes 162 = .ok (.iconst 0, 1) := by decide +kernel
theorem dX11_takes_163 : decode cX11_takes 163 = .ok (.istore 7, 2) := by decide +kernel
theorem dX11_takes_165 : decode cX11_takes 165 = .ok (.iload 7, 2) := by decide +kernel
theorem dX11_takes_167 : decode cX11_takes 167 = .ok (.aload_n 0, 1) := by decide +kernel
theorem dX11_takes_168 : decode cX11_takes 168 = .ok (.getfield 7, 3) := by decide +kernel
theorem dX11_takes_171 : decode cX11_takes 171 = .ok (.sipush 231, 3) := by decide +kernel
theorem dX11_takes_174 : decode cX11_takes 174 = .ok (.iaload, 1) := by decide +kernel
theorem dX11_takes_175 : decode cX11_takes 175 = .ok (.if_icmp .ge 57, 3) := by decide +kernel
theorem dX11_takes_178 : decode cX11_takes 178 = .ok (.aload_n 0, 1) := by decide +kernel
theorem dX11_takes_179 : decode cX11_takes 179 = .ok (.iload 7, 2) := by decide +kernel
theorem dX11_takes_181 : decode cX11_takes 181 = .ok (.iload_n 2, 1) := by decide +kernel
theorem dX11_takes_182 : decode cX11_takes 182 = .ok (.invokevirtual 234, 3) := by decide +kernel
theorem dX11_takes_185 : decode cX11_takes 185 = .ok (.ifCond .eq 41, 3) := by decide +kernel
theorem dX11_takes_188 : decode cX11_takes 188 = .ok (.aload_n 0, 1) := by decide +kernel
theorem dX11_takes_189 : decode cX11_takes 189 = .ok (.iload 7, 2) := by decide +kernel
theorem dX11_takes_191 : decode cX11_takes 191 = .ok (.invokevirtual 283, 3) := by decide +kernel
theorem dX11_takes_194 : decode cX11_takes 194 = .ok (.ifCond .eq 32, 3) := by decide +kernel
theorem dX11_takes_197 : decode cX11_takes 197 = .ok (.aload_n 0, 1) := by decide +kernel
theorem dX11_takes_198 : decode cX11_takes 198 = .ok (.iload 7, 2) := by decide +kernel
theorem dX11_takes_200 : decode cX11_takes 200 = .ok (.invokevirtual 247, 3) := by decide +kernel
theorem dX11_takes_203 : decode cX11_takes 203 = .ok (.iload 5, 2) := by decide +kernel
theorem dX11_takes_205 : decode cX11_takes 205 = .ok (.if_icmp .ge 21, 3) := by decide +kernel
theorem dX11_takes_208 : decode cX11_takes 208 = .ok (.aload_n 0, 1) := by decide +kernel
theorem dX11_takes_209 : decode cX11_takes 209 = .ok (.iload 7, 2) := by decide +kernel
theorem dX11_takes_211 : decode cX11_takes 211 = .ok (.bipush 9, 2) := by decide +kernel
theorem dX11_takes_213 : decode cX11_takes 213 = .ok (.aload_n 0, 1) := by decide +kernel
theorem dX11_takes_214 : decode cX11_takes 214 = .ok (.iload 7, 2) := by decide +kernel
theorem dX11_takes_216 : decode cX11_takes 216 = .ok (.bipush 9, 2) := by decide +kernel
theorem dX11_takes_218 : decode cX11_takes 218 = .ok (.invokevirtual 205, 3) := by decide +kernel
theorem dX11_takes_221 : decode cX11_takes 221 = .ok (.iconst 1, 1) := by decide +kernel
theorem dX11_takes_222 : decode cX11_takes 222 = .ok (.iadd, 1) := by decide +kernel
theorem dX11_takes_223 : decode cX11_takes 223 = .ok (.invokevirtual 289, 3) := by decide +kernel
theorem dX11_takes_226 : decode cX11_takes 226 = .ok (.iinc 7 1, 3) := by decide +kernel
theorem dX11_takes_229 : decode cX11_takes 229 = .ok (.goto (-64), 3) := by decide +kernel
theorem dX11_takes_232 : decode cX11_takes 232 = .ok (.aload_n 0, 1) := by decide +kernel
theorem dX11_takes_233 : decode cX11_takes 233 = .ok (.getfield 7, 3) := by decide +kernel
theorem dX11_takes_236 : decode cX11_takes 236 = .ok (.sipush 233, 3) := by decide +kernel
theorem dX11_takes_239 : decode cX11_takes 239 = .ok (.dup2, 1) := by decide +kernel
theorem dX11_takes_240 : decode cX11_takes 240 = .ok (.iaload, 1) := by decide +kernel
theorem dX11_takes_241 : decode cX11_takes 241 = .ok (.iconst 1, 1) := by decide +kernel
theorem dX11_takes_242 : decode cX11_takes 242 = .ok (.iadd, 1) := by decide +kernel
theorem dX11_takes_243 : decode cX11_takes 243 = .ok (.iastore, 1) := by decide +kernel
theorem dX11_takes_244 : decode cX11_takes 244 = .ok (.aload_n 0, 1) := by decide +kernel
theorem dX11_takes_245 : decode cX11_takes 245 = .ok (.iload_n 1, 1) := by decide +kernel
theorem dX11_takes_246 : decode cX11_takes 246 = .ok (.bipush 8, 2) := by decide +kernel
theorem dX11_takes_248 : decode cX11_takes 248 = .ok (.iconst 1, 1) := by decide +kernel
theorem dX11_takes_249 : decode cX11_takes 249 = .ok (.invokevirtual 289, 3) := by decide +kernel
theorem dX11_takes_252 : decode cX11_takes 252 = .ok (.aload_n 0, 1) := by decide +kernel
theorem dX11_takes_253 : decode cX11_takes 253 = .ok (.iload_n 1, 1) := by decide +kernel
theorem dX11_takes_254 : decode cX11_takes 254 = .ok (.iconst 4, 1) := by decide +kernel
theorem dX11_takes_255 : decode cX11_takes 255 = .ok (.iload_n 2, 1) := by decide +kernel
theorem dX11_takes_256 : decode cX11_takes 256 = .ok (.invokevirtual 289, 3) := by decide +kernel
theorem dX11_takes_259 : decode cX11_takes 259 = .ok (.aload_n 0, 1) := by decide +kernel
theorem dX11_takes_260 : decode cX11_takes 260 = .ok (.iload_n 2, 1) := by decide +kernel
theorem dX11_takes_261 : decode cX11_takes 261 = .ok (.iconst 2, 1) := by decide +kernel
theorem dX11_takes_262 : decode cX11_takes 262 = .ok (.iload_n 1, 1) := by decide +kernel
theorem dX11_takes_263 : decode cX11_takes 263 = .ok (.invokevirtual 293, 3) := by decide +kernel
theorem dX11_takes_266 : decode cX11_takes 266 = .ok (.aload_n 0, 1) := by decide +kernel
theorem dX11_takes_267 : decode cX11_takes 267 = .ok (.iload_n 2, 1) := by decide +kernel
theorem dX11_takes_268 : decode cX11_takes 268 = .ok (.iconst 4, 1) := by decide +kernel
theorem dX11_takes_269 : decode cX11_takes 269 = .ok (.aload_n 0, 1) := by decide +kernel
theorem dX11_takes_270 : decode cX11_takes 270 = .ok (.iload_n 2, 1) := by decide +kernel
theorem dX11_takes_271 : decode cX11_takes 271 = .ok (.iconst 4, 1) := by decide +kernel
theorem dX11_takes_272 : decode cX11_takes 272 = .ok (.invokevirtual 202, 3) := by decide +kernel
theorem dX11_takes_275 : decode cX11_takes 275 = .ok (.iconst 1, 1) := by decide +kernel
theorem dX11_takes_276 : decode cX11_takes 276 = .ok (.iadd, 1) := by decide +kernel
theorem dX11_takes_277 : decode cX11_takes 277 = .ok (.invokevirtual 293, 3) := by decide +kernel
theorem dX11_takes_280 : decode cX11_takes 280 = .ok (.iload 6, 2) := by decide +kernel
theorem dX11_takes_282 : decode cX11_takes 282 = .ok (.iconst (-1), 1) := by decide +kernel
theorem dX11_takes_283 : decode cX11_takes 283 = .ok (.if_icmp .eq 18, 3) := by decide +kernel
theorem dX11_takes_286 : decode cX11_takes 286 = .ok (.aload_n 0, 1) := by decide +kernel
theorem dX11_takes_287 : decode cX11_takes 287 = .ok (.iload 6, 2) := by decide +kernel
theorem dX11_takes_289 : decode cX11_takes 289 = .ok (.aload_n 0, 1) := by decide +kernel
theorem dX11_takes_290 : decode cX11_takes 290 = .ok (.getfield 7, 3) := by decide +kernel
theorem dX11_takes_293 : decode cX11_takes 293 = .ok (.iload 4, 2) := by decide +kernel
theorem dX11_takes_295 : decode cX11_takes 295 = .ok (.iconst 3, 1) := by decide +kernel
theorem dX11_takes_296 : decode cX11_takes 296 = .ok (.iadd, 1) := by decide +kernel
theorem dX11_takes_297 : decode cX11_takes 297 = .ok (.iaload, 1) := by decide +kernel
theorem dX11_takes_298 : decode cX11_takes 298 = .ok (.invokevirtual 296, 3) := by decide +kernel
theorem dX11_takes_301 : decode cX11_takes 301 = .ok (.return_, 1) := by decide +kernel
theorem dX11_leaves_0 : decode cX11_leaves 0 = .ok (.aload_n 0, 1) := by decide +kernel
theorem dX11_leaves_1 : decode cX11_leaves 1 = .ok (.iload_n 1, 1) := by decide +kernel
theorem dX11_leaves_2 : decode cX11_leaves 2 = .ok (.iconst 2, 1) := by decide +kernel
theorem dX11_leaves_3 : decode cX11_leaves 3 = .ok (.iconst (-1), 1) := by decide +kernel
theorem dX11_leaves_4 : decode cX11_leaves 4 = .ok (.invokevirtual 293, 3) := by decide +kernel
theorem dX11_leaves_7 : decode cX11_leaves 7 = .ok (.aload_n 0, 1) := by decide +kernel
theorem dX11_leaves_8 : decode cX11_leaves 8 = .ok (.iload_n 1, 1) := by decide +kernel
theorem dX11_leaves_9 : decode cX11_leaves 9 = .ok (.iconst 3, 1) := by decide +kernel
theorem dX11_leaves_10 : decode cX11_leaves 10 = .ok (.iconst 1, 1) := by decide +kernel
theorem dX11_leaves_11 : decode cX11_leaves 11 = .ok (.invokevirtual 293, 3) := by decide +kernel
theorem dX11_leaves_14 : decode cX11_leaves 14 = .ok (.aload_n 0, 1) := by decide +kernel
theorem dX11_leaves_15 : decode cX11_leaves 15 = .ok (.iload_n 1, 1) := by decide +kernel
theorem dX11_leaves_16 : decode cX11_leaves 16 = .ok (.iconst 5, 1) := by decide +kernel
theorem dX11_leaves_17 : decode cX11_leaves 17 = .ok (.iload_n 2, 1) := by decide +kernel
theorem dX11_leaves_18 : decode cX11_leaves 18 = .ok (.invokevirtual 293, 3) := by decide +kernel
theorem dX11_leaves_21 : decode cX11_leaves 21 = .ok (.return_, 1) := by decide +kernel
theorem dX11_lets_0 : decode cX11_lets 0 = .ok (.aload_n 0, 1) := by decide +kernel
theorem dX11_lets_1 : decode cX11_lets 1 = .ok (.iload_n 1, 1) := by decide +kernel
theorem dX11_lets_2 : decode cX11_lets 2 = .ok (.invokevirtual 277, 3) := by decide +kernel
theorem dX11_lets_5 : decode cX11_lets 5 = .ok (.istore_n 2, 1) := by decide +kernel
theorem dX11_lets_6 : decode cX11_lets 6 = .ok (.iconst 0, 1) := by decide +kernel
theorem dX11_lets_7 : decode cX11_lets 7 = .ok (.istore_n 3, 1) := by decide +kernel
theorem dX11_lets_8 : decode cX11_lets 8 = .ok (.iload_n 2, 1) := by decide +kernel
theorem dX11_lets_9 : decode cX11_lets 9 = .ok (.ifCond .eq 81, 3) := by decide +kernel
theorem dX11_lets_12 : decode cX11_lets 12 = .ok (.iload_n 3, 1) := by decide +kernel
theorem dX11_lets_13 : decode cX11_lets 13 = .ok (.iconst 3, 1) := by decide +kernel
theorem dX11_lets_14 : decode cX11_lets 14 = .ok (.if_icmp .ge 76, 3) := by decide +kernel
theorem dX11_lets_17 : decode cX11_lets 17 = .ok (.aload_n 0, 1) := by decide +kernel
theorem dX11_lets_18 : decode cX11_lets 18 = .ok (.iload_n 2, 1) := by decide +kernel
theorem dX11_lets_19 : decode cX11_lets 19 = .ok (.iload_n 1, 1) := by decide +kernel
theorem dX11_lets_20 : decode cX11_lets 20 = .ok (.invokevirtual 280, 3) := by decide +kernel
theorem dX11_lets_23 : decode cX11_lets 23 = .ok (.istore 4, 2) := by decide +kernel
theorem dX11_lets_25 : decode cX11_lets 25 = .ok (.iload_n 2, 1) := by decide +kernel
theorem dX11_lets_26 : decode cX11_lets 26 = .ok (.iconst 1, 1) := by decide +kernel
theorem dX11_lets_27 : decode cX11_lets 27 = .ok (.iload 4, 2) := by decide +kernel
theorem dX11_lets_29 : decode cX11_lets 29 = .ok (.ishl, 1) := by decide +kernel
theorem dX11_lets_30 : decode cX11_lets 30 = .ok (.iconst (-1), 1) := by decide +kernel
theorem dX11_lets_31 : decode cX11_lets 31 = .ok (.ixor, 1) := by decide +kernel
theorem dX11_lets_32 : decode cX11_lets 32 = .ok (.iand, 1) := by decide +kernel
theorem dX11_lets_33 : decode cX11_lets 33 = .ok (.istore_n 2, 1) := by decide +kernel
theorem dX11_lets_34 : decode cX11_lets 34 = .ok (.aload_n 0, 1) := by decide +kernel
theorem dX11_lets_35 : decode cX11_lets 35 = .ok (.iload 4, 2) := by decide +kernel
theorem dX11_lets_37 : decode cX11_lets 37 = .ok (.invokevirtual 283, 3) := by decide +kernel
theorem dX11_lets_40 : decode cX11_lets 40 = .ok (.ifCond .ne 6, 3) := by decide +kernel
theorem dX11_lets_43 : decode cX11_lets 43 = .ok (.goto (-35), 3) := by decide +kernel
theorem dX11_lets_46 : decode cX11_lets 46 = .ok (.iinc 3 1, 3) := by decide +kernel
theorem dX11_lets_49 : decode cX11_lets 49 = .ok (.aload_n 0, 1) := by decide +kernel
theorem dX11_lets_50 : decode cX11_lets 50 = .ok (.iload 4, 2) := by decide +kernel
theorem dX11_lets_52 : decode cX11_lets 52 = .ok (.iload_n 1, 1) := by decide +kernel
theorem dX11_lets_53 : decode cX11_lets 53 = .ok (.invokevirtual 300, 3) := by decide +kernel
theorem dX11_lets_56 : decode cX11_lets 56 = .ok (.istore 5, 2) := by decide +kernel
theorem dX11_lets_58 : decode cX11_lets 58 = .ok (.aload_n 0, 1) := by decide +kernel
theorem dX11_lets_59 : decode cX11_lets 59 = .ok (.iload 4, 2) := by decide +kernel
theorem dX11_lets_61 : decode cX11_lets 61 = .ok (.iload_n 1, 1) := by decide +kernel
theorem dX11_lets_62 : decode cX11_lets 62 = .ok (.iload 5, 2) := by decide +kernel
theorem dX11_lets_64 : decode cX11_lets 64 = .ok (.invokevirtual 303, 3) := by decide +kernel
theorem dX11_lets_67 : decode cX11_lets 67 = .ok (.iload 5, 2) := by decide +kernel
theorem dX11_lets_69 : decode cX11_lets 69 = .ok (.ifCond .eq 12, 3) := by decide +kernel
theorem dX11_lets_72 : decode cX11_lets 72 = .ok (.aload_n 0, 1) := by decide +kernel
theorem dX11_lets_73 : decode cX11_lets 73 = .ok (.iload 4, 2) := by decide +kernel
theorem dX11_lets_75 : decode cX11_lets 75 = .ok (.iload_n 1, 1) := by decide +kernel
theorem dX11_lets_76 : decode cX11_lets 76 = .ok (.iload_n 3, 1) := by decide +kernel
theorem dX11_lets_77 : decode cX11_lets 77 = .ok (.invokevirtual 307, 3) := by decide +kernel
theorem dX11_lets_80 : decode cX11_lets 80 = .ok (.return_, 1) := by decide +kernel
theorem dX11_lets_81 : decode cX11_lets 81 = .ok (.aload_n 0, 1) := by decide +kernel
theorem dX11_lets_82 : decode cX11_lets 82 = .ok (.iload 4, 2) := by decide +kernel
theorem dX11_lets_84 : decode cX11_lets 84 = .ok (.invokevirtual 310, 3) := by decide +kernel
theorem dX11_lets_87 : decode cX11_lets 87 = .ok (.goto (-79), 3) := by decide +kernel
theorem dX11_lets_90 : decode cX11_lets 90 = .ok (.return_, 1) := by decide +kernel
theorem dX11_weekEnds_0 : decode cX11_weekEnds 0 = .ok (.aload_n 0, 1) := by decide +kernel
theorem dX11_weekEnds_1 : decode cX11_weekEnds 1 = .ok (.getfield 7, 3) := by decide +kernel
theorem dX11_weekEnds_4 : decode cX11_weekEnds 4 = .ok (.sipush 233, 3) := by decide +kernel
theorem dX11_weekEnds_7 : decode cX11_weekEnds 7 = .ok (.iaload, 1) := by decide +kernel
theorem dX11_weekEnds_8 : decode cX11_weekEnds 8 = .ok (.istore_n 1, 1) := by decide +kernel
theorem dX11_weekEnds_9 : decode cX11_weekEnds 9 = .ok (.iconst 0, 1) := by decide +kernel
theorem dX11_weekEnds_10 : decode cX11_weekEnds 10 = .ok (.istore_n 2, 1) := by decide +kernel
theorem dX11_weekEnds_11 : decode cX11_weekEnds 11 = .ok (.aload_n 0, 1) := by decide +kernel
theorem dX11_weekEnds_12 : decode cX11_weekEnds 12 = .ok (.getfield 7, 3) := by decide +kernel
theorem dX11_weekEnds_15 : decode cX11_weekEnds 15 = .ok (.sipush 299, 3) := by decide +kernel
theorem dX11_weekEnds_18 : decode cX11_weekEnds 18 = .ok (.iconst 0, 1) := by decide +kernel
theorem dX11_weekEnds_19 : decode cX11_weekEnds 19 = .ok (.iastore, 1) := by decide +kernel
theorem dX11_weekEnds_20 : decode cX11_weekEnds 20 = .ok (.iconst 0, 1) := by decide +kernel
theorem dX11_weekEnds_21 : decode cX11_weekEnds 21 = .ok (.istore_n 3, 1) := by decide +kernel
theorem dX11_weekEnds_22 : decode cX11_weekEnds 22 = .ok (.iload_n 3, 1) := by decide +kernel
theorem dX11_weekEnds_23 : decode cX11_weekEnds 23 = .ok (.aload_n 0, 1) := by decide +kernel
theorem dX11_weekEnds_24 : decode cX11_weekEnds 24 = .ok (.getfield 7, 3) := by decide +kernel
theorem dX11_weekEnds_27 : decode cX11_weekEnds 27 = .ok (.sipush 230, 3) := by decide +kernel
theorem dX11_weekEnds_30 : decode cX11_weekEnds 30 = .ok (.iaload, 1) := by decide +kernel
theorem dX11_weekEnds_31 : decode cX11_weekEnds 31 = .ok (.if_icmp .ge 27, 3) := by decide +kernel
theorem dX11_weekEnds_34 : decode cX11_weekEnds 34 = .ok (.iload_n 2, 1) := by decide +kernel
theorem dX11_weekEnds_35 : decode cX11_weekEnds 35 = .ok (.aload_n 0, 1) := by decide +kernel
theorem dX11_weekEnds_36 : decode cX11_weekEnds 36 = .ok (.iload_n 3, 1) := by decide +kernel
theorem dX11_weekEnds_37 : decode cX11_weekEnds 37 = .ok (.invokevirtual 219, 3) := by decide +kernel
theorem dX11_weekEnds_40 : decode cX11_weekEnds 40 = .ok (.ifCond .eq 9, 3) := by decide +kernel
theorem dX11_weekEnds_43 : decode cX11_weekEnds 43 = .ok (.iconst 1, 1) := by decide +kernel
theorem dX11_weekEnds_44 : decode cX11_weekEnds 44 = .ok (.iload_n 3, 1) := by decide +kernel
theorem dX11_weekEnds_45 : decode cX11_weekEnds 45 = .ok (.ishl, 1) := by decide +kernel
theorem dX11_weekEnds_46 : decode cX11_weekEnds 46 = .ok (.goto 4, 3) := by decide +kernel
theorem dX11_weekEnds_49 : decode cX11_weekEnds 49 = .ok (.iconst 0, 1) := by decide +kernel
theorem dX11_weekEnds_50 : decode cX11_weekEnds 50 = .ok (.ior, 1) := by decide +kernel
theorem dX11_weekEnds_51 : decode cX11_weekEnds 51 = .ok (.istore_n 2, 1) := by decide +kernel
theorem dX11_weekEnds_52 : decode cX11_weekEnds 52 = .ok (.iinc 3 1, 3) := by decide +kernel
theorem dX11_weekEnds_55 : decode cX11_weekEnds 55 = .ok (.goto (-33), 3) := by decide +kernel
theorem dX11_weekEnds_58 : decode cX11_weekEnds 58 = .ok (.iconst 0, 1) := by decide +kernel
theorem dX11_weekEnds_59 : decode cX11_weekEnds 59 = .ok (.istore_n 3, 1) := by decide +kernel
theorem dX11_weekEnds_60 : decode cX11_weekEnds 60 = .ok (.iload_n 3, 1) := by decide +kernel
theorem dX11_weekEnds_61 : decode cX11_weekEnds 61 = .ok (.aload_n 0, 1) := by decide +kernel
theorem dX11_weekEnds_62 : decode cX11_weekEnds 62 = .ok (.getfield 7, 3) := by decide +kernel
theorem dX11_weekEnds_65 : decode cX11_weekEnds 65 = .ok (.sipush 230, 3) := by decide +kernel
theorem dX11_weekEnds_68 : decode cX11_weekEnds 68 = .ok (.iaload, 1) := by decide +kernel
theorem dX11_weekEnds_69 : decode cX11_weekEnds 69 = .ok (.if_icmp .ge 55, 3) := by decide +kernel
theorem dX11_weekEnds_72 : decode cX11_weekEnds 72 = .ok (.iload_n 2, 1) := by decide +kernel
theorem dX11_weekEnds_73 : decode cX11_weekEnds 73 = .ok (.iload_n 3, 1) := by decide +kernel
theorem dX11_weekEnds_74 : decode cX11_weekEnds 74 = .ok (.ishr, 1) := by decide +kernel
theorem dX11_weekEnds_75 : decode cX11_weekEnds 75 = .ok (.iconst 1, 1) := by decide +kernel
theorem dX11_weekEnds_76 : decode cX11_weekEnds 76 = .ok (.iand, 1) := by decide +kernel
theorem dX11_weekEnds_77 : decode cX11_weekEnds 77 = .ok (.ifCond .ne 6, 3) := by decide +kernel
theorem dX11_weekEnds_80 : decode cX11_weekEnds 80 = .ok (.goto 38, 3) := by decide +kernel
theorem dX11_weekEnds_83 : decode cX11_weekEnds 83 = .ok (.aload_n 0, 1) := by decide +kernel
theorem dX11_weekEnds_84 : decode cX11_weekEnds 84 = .ok (.iload_n 3, 1) := by decide +kernel
theorem dX11_weekEnds_85 : decode cX11_weekEnds 85 = .ok (.invokevirtual 313, 3) := by decide +kernel
theorem dX11_weekEnds_88 : decode cX11_weekEnds 88 = .ok (.aload_n 0, 1) := by decide +kernel
theorem dX11_weekEnds_89 : decode cX11_weekEnds 89 = .ok (.iload_n 3, 1) := by decide +kernel
theorem dX11_weekEnds_90 : decode cX11_weekEnds 90 = .ok (.bipush 7, 2) := by decide +kernel
theorem dX11_weekEnds_92 : decode cX11_weekEnds 92 = .ok (.aload_n 0, 1) := by decide +kernel
theorem dX11_weekEnds_93 : decode cX11_weekEnds 93 = .ok (.iload_n 3, 1) := by decide +kernel
theorem dX11_weekEnds_94 : decode cX11_weekEnds 94 = .ok (.bipush 7, 2) := by decide +kernel
theorem dX11_weekEnds_96 : decode cX11_weekEnds 96 = .ok (.invokevirtual 202, 3) := by decide +kernel
theorem dX11_weekEnds_99 : decode cX11_weekEnds 99 = .ok (.aload_n 0, 1) := by decide +kernel
theorem dX11_weekEnds_100 : decode cX11_weekEnds 100 = .ok (.iload_n 3, 1) := by decide +kernel
theorem dX11_weekEnds_101 : decode cX11_weekEnds 101 = .ok (.iconst 2, 1) := by decide +kernel
theorem dX11_weekEnds_102 : decode cX11_weekEnds 102 = .ok (.invokevirtual 202, 3) := by decide +kernel
theorem dX11_weekEnds_105 : decode cX11_weekEnds 105 = .ok (.iconst (-1), 1) := by decide +kernel
theorem dX11_weekEnds_106 : decode cX11_weekEnds 106 = .ok (.if_icmp .ne 7, 3) := by decide +kernel
theorem dX11_weekEnds_109 : decode cX11_weekEnds 109 = .ok (.iconst 1, 1) := by decide +kernel
theorem dX11_weekEnds_110 : decode cX11_weekEnds 110 = .ok (.goto 4, 3) := by decide +kernel
theorem dX11_weekEnds_113 : decode cX11_weekEnds 113 = .ok (.iconst 0, 1) := by decide +kernel
theorem dX11_weekEnds_114 : decode cX11_weekEnds 114 = .ok (.iadd, 1) := by decide +kernel
theorem dX11_weekEnds_115 : decode cX11_weekEnds 115 = .ok (.invokevirtual 293, 3) := by decide +kernel
theorem dX11_weekEnds_118 : decode cX11_weekEnds 118 = .ok (.iinc 3 1, 3) := by decide +kernel
theorem dX11_weekEnds_121 : decode cX11_weekEnds 121 = .ok (.goto (-61), 3) := by decide +kernel
theorem dX11_weekEnds_124 : decode cX11_weekEnds 124 = .ok (.iconst 0, 1) := by decide +kernel
theorem dX11_weekEnds_125 : decode cX11_weekEnds 125 = .ok (.istore_n 3, 1) := by decide +kernel
theorem dX11_weekEnds_126 : decode cX11_weekEnds 126 = .ok (.iload_n 3, 1) := by decide +kernel
theorem dX11_weekEnds_127 : decode cX11_weekEnds 127 = .ok (.aload_n 0, 1) := by decide +kernel
theorem dX11_weekEnds_128 : decode cX11_weekEnds 128 = .ok (.getfield 7, 3) := by decide +kernel
theorem dX11_weekEnds_131 : decode cX11_weekEnds 131 = .ok (.sipush 230, 3) := by decide +kernel
theorem dX11_weekEnds_134 : decode cX11_weekEnds 134 = .ok (.iaload, 1) := by decide +kernel
theorem dX11_weekEnds_135 : decode cX11_weekEnds 135 = .ok (.if_icmp .ge 16, 3) := by decide +kernel
theorem dX11_weekEnds_138 : decode cX11_weekEnds 138 = .ok (.aload_n 0, 1) := by decide +kernel
theorem dX11_weekEnds_139 : decode cX11_weekEnds 139 = .ok (.iload_n 3, 1) := by decide +kernel
theorem dX11_weekEnds_140 : decode cX11_weekEnds 140 = .ok (.iconst 3, 1) := by decide +kernel
theorem dX11_weekEnds_141 : decode cX11_weekEnds 141 = .ok (.iconst 0, 1) := by decide +kernel
theorem dX11_weekEnds_142 : decode cX11_weekEnds 142 = .ok (.invokevirtual 293, 3) := by decide +kernel
theorem dX11_weekEnds_145 : decode cX11_weekEnds 145 = .ok (.iinc 3 1, 3) := by decide +kernel
theorem dX11_weekEnds_148 : decode cX11_weekEnds 148 = .ok (.goto (-22), 3) := by decide +kernel
theorem dX11_weekEnds_151 : decode cX11_weekEnds 151 = .ok (.iconst 0, 1) := by decide +kernel
theorem dX11_weekEnds_152 : decode cX11_weekEnds 152 = .ok (.istore_n 3, 1) := by decide +kernel
theorem dX11_weekEnds_153 : decode cX11_weekEnds 153 = .ok (.iload_n 3, 1) := by decide +kernel
theorem dX11_weekEnds_154 : decode cX11_weekEnds 154 = .ok (.aload_n 0, 1) := by decide +kernel
theorem dX11_weekEnds_155 : decode cX11_weekEnds 155 = .ok (.getfield 7, 3) := by decide +kernel
theorem dX11_weekEnds_158 : decode cX11_weekEnds 158 = .ok (.sipush 231, 3) := by decide +kernel
theorem dX11_weekEnds_161 : decode cX11_weekEnds 161 = .ok (.iaload, 1) := by decide +kernel
theorem dX11_weekEnds_162 : decode cX11_weekEnds 162 = .ok (.if_icmp .ge 55, 3) := by decide +kernel
theorem dX11_weekEnds_165 : decode cX11_weekEnds 165 = .ok (.aload_n 0, 1) := by decide +kernel
theorem dX11_weekEnds_166 : decode cX11_weekEnds 166 = .ok (.iload_n 3, 1) := by decide +kernel
theorem dX11_weekEnds_167 : decode cX11_weekEnds 167 = .ok (.bipush 10, 2) := by decide +kernel
theorem dX11_weekEnds_169 : decode cX11_weekEnds 169 = .ok (.iconst 0, 1) := by decide +kernel
theorem dX11_weekEnds_170 : decode cX11_weekEnds 170 = .ok (.invokevirtual 289, 3) := by decide +kernel
theorem dX11_weekEnds_173 : decode cX11_weekEnds 173 = .ok (.aload_n 0, 1) := by decide +kernel
theorem dX11_weekEnds_174 : decode cX11_weekEnds 174 = .ok (.iload_n 3, 1) := by decide +kernel
theorem dX11_weekEnds_175 : decode cX11_weekEnds 175 = .ok (.bipush 7, 2) := by decide +kernel
theorem dX11_weekEnds_177 : decode cX11_weekEnds 177 = .ok (.invokevirtual 205, 3) := by decide +kernel
theorem dX11_weekEnds_180 : decode cX11_weekEnds 180 = .ok (.ifCond .ne 23, 3) := by decide +kernel
theorem dX11_weekEnds_183 : decode cX11_weekEnds 183 = .ok (.aload_n 0, 1) := by decide +kernel
theorem dX11_weekEnds_184 : decode cX11_weekEnds 184 = .ok (.iload_n 3, 1) := by decide +kernel
theorem dX11_weekEnds_185 : decode cX11_weekEnds 185 = .ok (.bipush 6, 2) := by decide +kernel
theorem dX11_weekEnds_187 : decode cX11_weekEnds 187 = .ok (.iconst 0, 1) := by decide +kernel
theorem dX11_weekEnds_188 : decode cX11_weekEnds 188 = .ok (.aload_n 0, 1) := by decide +kernel
theorem dX11_weekEnds_189 : decode cX11_weekEnds 189 = .ok (.iload_n 3, 1) := by decide +kernel
theorem dX11_weekEnds_190 : decode cX11_weekEnds 190 = .ok (.bipush 6, 2) := by decide +kernel
theorem dX11_weekEnds_192 : decode cX11_weekEnds 192 = .ok (.invokevirtual 205, 3) := by decide +kernel
theorem dX11_weekEnds_195 : decode cX11_weekEnds 195 = .ok (.iconst 1, 1) := by decide +kernel
theorem dX11_weekEnds_196 : decode cX11_weekEnds 196 = .ok (.isub, 1) := by decide +kernel
theorem dX11_weekEnds_197 : decode cX11_weekEnds 197 = .ok (.invokestatic 211, 3) := by decide +kernel
theorem dX11_weekEnds_200 : decode cX11_weekEnds 200 = .ok (.invokevirtual 289, 3) := by decide +kernel
theorem dX11_weekEnds_203 : decode cX11_weekEnds 203 = .ok (.aload_n 0, 1) := by decide +kernel
theorem dX11_weekEnds_204 : decode cX11_weekEnds 204 = .ok (.iload_n 3, 1) := by decide +kernel
theorem dX11_weekEnds_205 : decode cX11_weekEnds 205 = .ok (.bipush 7, 2) := by decide +kernel
theorem dX11_weekEnds_207 : decode cX11_weekEnds 207 = .ok (.iconst 0, 1) := by decide +kernel
theorem dX11_weekEnds_208 : decode cX11_weekEnds 208 = .ok (.invokevirtual 289, 3) := by decide +kernel
theorem dX11_weekEnds_211 : decode cX11_weekEnds 211 = .ok (.iinc 3 1, 3) := by decide +kernel
theorem dX11_weekEnds_214 : decode cX11_weekEnds 214 = .ok (.goto (-61), 3) := by decide +kernel
theorem dX11_weekEnds_217 : decode cX11_weekEnds 217 = .ok (.aload_n 0, 1) := by decide +kernel
theorem dX11_weekEnds_218 : decode cX11_weekEnds 218 = .ok (.getfield 7, 3) := by decide +kernel
theorem dX11_weekEnds_221 : decode cX11_weekEnds 221 = .ok (.sipush 232, 3) := by decide +kernel
theorem dX11_weekEnds_224 : decode cX11_weekEnds 224 = .ok (.dup2, 1) := by decide +kernel
theorem dX11_weekEnds_225 : decode cX11_weekEnds 225 = .ok (.iaload, 1) := by decide +kernel
theorem dX11_weekEnds_226 : decode cX11_weekEnds 226 = .ok (.iconst 1, 1) := by decide +kernel
theorem dX11_weekEnds_227 : decode cX11_weekEnds 227 = .ok (.iadd, 1) := by decide +kernel
theorem dX11_weekEnds_228 : decode cX11_weekEnds 228 = .ok (.iastore, 1) := by decide +kernel
theorem dX11_weekEnds_229 : decode cX11_weekEnds 229 = .ok (.aload_n 0, 1) := by decide +kernel
theorem dX11_weekEnds_230 : decode cX11_weekEnds 230 = .ok (.getfield 7, 3) := by decide +kernel
theorem dX11_weekEnds_233 : decode cX11_weekEnds 233 = .ok (.sipush 233, 3) := by decide +kernel
theorem dX11_weekEnds_236 : decode cX11_weekEnds 236 = .ok (.iaload, 1) := by decide +kernel
theorem dX11_weekEnds_237 : decode cX11_weekEnds 237 = .ok (.iload_n 1, 1) := by decide +kernel
theorem dX11_weekEnds_238 : decode cX11_weekEnds 238 = .ok (.isub, 1) := by decide +kernel
theorem dX11_weekEnds_239 : decode cX11_weekEnds 239 = .ok (.ireturn, 1) := by decide +kernel
theorem dX11_bidsBy_0 : decode cX11_bidsBy 0 = .ok (.iconst 0, 1) := by decide +kernel
theorem dX11_bidsBy_1 : decode cX11_bidsBy 1 = .ok (.istore_n 2, 1) := by decide +kernel
theorem dX11_bidsBy_2 : decode cX11_bidsBy 2 = .ok (.aload_n 0, 1) := by decide +kernel
theorem dX11_bidsBy_3 : decode cX11_bidsBy 3 = .ok (.iload_n 1, 1) := by decide +kernel
theorem dX11_bidsBy_4 : decode cX11_bidsBy 4 = .ok (.bipush 11, 2) := by decide +kernel
theorem dX11_bidsBy_6 : decode cX11_bidsBy 6 = .ok (.invokevirtual 205, 3) := by decide +kernel
theorem dX11_bidsBy_9 : decode cX11_bidsBy 9 = .ok (.ifCond .ne 14, 3) := by decide +kernel
theorem dX11_bidsBy_12 : decode cX11_bidsBy 12 = .ok (.aload_n 0, 1) := by decide +kernel
theorem dX11_bidsBy_13 : decode cX11_bidsBy 13 = .ok (.getfield 7, 3) := by decide +kernel
theorem dX11_bidsBy_16 : decode cX11_bidsBy 16 = .ok (.sipush 230, 3) := by decide +kernel
theorem dX11_bidsBy_19 : decode cX11_bidsBy 19 = .ok (.iaload, 1) := by decide +kernel
theorem dX11_bidsBy_20 : decode cX11_bidsBy 20 = .ok (.goto 10, 3) := by decide +kernel
theorem dX11_bidsBy_23 : decode cX11_bidsBy 23 = .ok (.aload_n 0, 1) := by decide +kernel
theorem dX11_bidsBy_24 : decode cX11_bidsBy 24 = .ok (.iload_n 1, 1) := by decide +kernel
theorem dX11_bidsBy_25 : decode cX11_bidsBy 25 = .ok (.bipush 11, 2) := by decide +kernel
theorem dX11_bidsBy_27 : decode cX11_bidsBy 27 = .ok (.invokevirtual 205, 3) := by decide +kernel
theorem dX11_bidsBy_30 : decode cX11_bidsBy 30 = .ok (.istore_n 3, 1) := by decide +kernel
theorem dX11_bidsBy_31 : decode cX11_bidsBy 31 = .ok (.iconst 0, 1) := by decide +kernel
theorem dX11_bidsBy_32 : decode cX11_bidsBy 32 = .ok (.istore 4, 2) := by decide +kernel
theorem dX11_bidsBy_34 : decode cX11_bidsBy 34 = .ok (.iload 4, 2) := by decide +kernel
theorem dX11_bidsBy_36 : decode cX11_bidsBy 36 = .ok (.iload_n 3, 1) := by decide +kernel
theorem dX11_bidsBy_37 : decode cX11_bidsBy 37 = .ok (.if_icmp .ge 71, 3) := by decide +kernel
theorem dX11_bidsBy_40 : decode cX11_bidsBy 40 = .ok (.aload_n 0, 1) := by decide +kernel
theorem dX11_bidsBy_41 : decode cX11_bidsBy 41 = .ok (.iload_n 1, 1) := by decide +kernel
theorem dX11_bidsBy_42 : decode cX11_bidsBy 42 = .ok (.bipush 11, 2) := by decide +kernel
theorem dX11_bidsBy_44 : decode cX11_bidsBy 44 = .ok (.invokevirtual 205, 3) := by decide +kernel
theorem dX11_bidsBy_47 : decode cX11_bidsBy 47 = .ok (.ifCond .ne 8, 3) := by decide +kernel
theorem dX11_bidsBy_50 : decode cX11_bidsBy 50 = .ok (.iload 4, 2) := by decide +kernel
theorem dX11_bidsBy_52 : decode cX11_bidsBy 52 = .ok (.goto 13, 3) := by decide +kernel
theorem dX11_bidsBy_55 : decode cX11_bidsBy 55 = .ok (.aload_n 0, 1) := by decide +kernel
theorem dX11_bidsBy_56 : decode cX11_bidsBy 56 = .ok (.iload_n 1, 1) := by decide +kernel
theorem dX11_bidsBy_57 : decode cX11_bidsBy 57 = .ok (.bipush 12, 2) := by decide +kernel
theorem dX11_bidsBy_59 : decode cX11_bidsBy 59 = .ok (.iload 4, 2) := by decide +kernel
theorem dX11_bidsBy_61 : decode cX11_bidsBy 61 = .ok (.iadd, 1) := by decide +kernel
theorem dX11_bidsBy_62 : decode cX11_bidsBy 62 = .ok (.invokevirtual 205, 3) := by decide +kernel
