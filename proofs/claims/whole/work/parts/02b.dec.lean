theorem dX7_init_0 : decode cX7_init 0 = .ok (.aload_n 0, 1) := by decide +kernel
theorem dX7_init_1 : decode cX7_init 1 = .ok (.invokespecial 3, 3) := by decide +kernel
theorem dX7_init_4 : decode cX7_init 4 = .ok (.aload_n 0, 1) := by decide +kernel
theorem dX7_init_5 : decode cX7_init 5 = .ok (.bipush 10, 2) := by decide +kernel
theorem dX7_init_7 : decode cX7_init 7 = .ok (.anewarray 9, 3) := by decide +kernel
theorem dX7_init_10 : decode cX7_init 10 = .ok (.putfield 11, 3) := by decide +kernel
theorem dX7_init_13 : decode cX7_init 13 = .ok (.iconst 0, 1) := by decide +kernel
theorem dX7_init_14 : decode cX7_init 14 = .ok (.istore_n 1, 1) := by decide +kernel
theorem dX7_init_15 : decode cX7_init 15 = .ok (.iload_n 1, 1) := by decide +kernel
theorem dX7_init_16 : decode cX7_init 16 = .ok (.bipush 10, 2) := by decide +kernel
theorem dX7_init_18 : decode cX7_init 18 = .ok (.if_icmp .ge 23, 3) := by decide +kernel
theorem dX7_init_21 : decode cX7_init 21 = .ok (.aload_n 0, 1) := by decide +kernel
theorem dX7_init_22 : decode cX7_init 22 = .ok (.getfield 11, 3) := by decide +kernel
theorem dX7_init_25 : decode cX7_init 25 = .ok (.iload_n 1, 1) := by decide +kernel
theorem dX7_init_26 : decode cX7_init 26 = .ok (.new 9, 3) := by decide +kernel
theorem dX7_init_29 : decode cX7_init 29 = .ok (.dup, 1) := by decide +kernel
theorem dX7_init_30 : decode cX7_init 30 = .ok (.iload_n 1, 1) := by decide +kernel
theorem dX7_init_31 : decode cX7_init 31 = .ok (.invokespecial 17, 3) := by decide +kernel
theorem dX7_init_34 : decode cX7_init 34 = .ok (.aastore, 1) := by decide +kernel
theorem dX7_init_35 : decode cX7_init 35 = .ok (.iinc 1 1, 3) := by decide +kernel
theorem dX7_init_38 : decode cX7_init 38 = .ok (.goto (-23), 3) := by decide +kernel
theorem dX7_init_41 : decode cX7_init 41 = .ok (.aload_n 0, 1) := by decide +kernel
theorem dX7_init_42 : decode cX7_init 42 = .ok (.bipush 8, 2) := by decide +kernel
theorem dX7_init_44 : decode cX7_init 44 = .ok (.anewarray 20, 3) := by decide +kernel
theorem dX7_init_47 : decode cX7_init 47 = .ok (.putfield 22, 3) := by decide +kernel
theorem dX7_init_50 : decode cX7_init 50 = .ok (.iconst 0, 1) := by decide +kernel
theorem dX7_init_51 : decode cX7_init 51 = .ok (.istore_n 1, 1) := by decide +kernel
theorem dX7_init_52 : decode cX7_init 52 = .ok (.iload_n 1, 1) := by decide +kernel
theorem dX7_init_53 : decode cX7_init 53 = .ok (.bipush 8, 2) := by decide +kernel
theorem dX7_init_55 : decode cX7_init 55 = .ok (.if_icmp .ge 23, 3) := by decide +kernel
theorem dX7_init_58 : decode cX7_init 58 = .ok (.aload_n 0, 1) := by decide +kernel
theorem dX7_init_59 : decode cX7_init 59 = .ok (.getfield 22, 3) := by decide +kernel
theorem dX7_init_62 : decode cX7_init 62 = .ok (.iload_n 1, 1) := by decide +kernel
theorem dX7_init_63 : decode cX7_init 63 = .ok (.new 20, 3) := by decide +kernel
theorem dX7_init_66 : decode cX7_init 66 = .ok (.dup, 1) := by decide +kernel
theorem dX7_init_67 : decode cX7_init 67 = .ok (.iload_n 1, 1) := by decide +kernel
theorem dX7_init_68 : decode cX7_init 68 = .ok (.invokespecial 26, 3) := by decide +kernel
theorem dX7_init_71 : decode cX7_init 71 = .ok (.aastore, 1) := by decide +kernel
theorem dX7_init_72 : decode cX7_init 72 = .ok (.iinc 1 1, 3) := by decide +kernel
theorem dX7_init_75 : decode cX7_init 75 = .ok (.goto (-23), 3) := by decide +kernel
theorem dX7_init_78 : decode cX7_init 78 = .ok (.aload_n 0, 1) := by decide +kernel
theorem dX7_init_79 : decode cX7_init 79 = .ok (.bipush 6, 2) := by decide +kernel
theorem dX7_init_81 : decode cX7_init 81 = .ok (.newarray .int, 2) := by decide +kernel
theorem dX7_init_83 : decode cX7_init 83 = .ok (.putfield 27, 3) := by decide +kernel
theorem dX7_init_86 : decode cX7_init 86 = .ok (.aload_n 0, 1) := by decide +kernel
theorem dX7_init_87 : decode cX7_init 87 = .ok (.new 31, 3) := by decide +kernel
theorem dX7_init_90 : decode cX7_init 90 = .ok (.dup, 1) := by decide +kernel
theorem dX7_init_91 : decode cX7_init 91 = .ok (.bipush 8, 2) := by decide +kernel
theorem dX7_init_93 : decode cX7_init 93 = .ok (.bipush 11, 2) := by decide +kernel
theorem dX7_init_95 : decode cX7_init 95 = .ok (.invokespecial 33, 3) := by decide +kernel
theorem dX7_init_98 : decode cX7_init 98 = .ok (.putfield 36, 3) := by decide +kernel
theorem dX7_init_101 : decode cX7_init 101 = .ok (.aload_n 0, 1) := by decide +kernel
theorem dX7_init_102 : decode cX7_init 102 = .ok (.new 31, 3) := by decide +kernel
theorem dX7_init_105 : decode cX7_init 105 = .ok (.dup, 1) := by decide +kernel
theorem dX7_init_106 : decode cX7_init 106 = .ok (.bipush 30, 2) := by decide +kernel
theorem dX7_init_108 : decode cX7_init 108 = .ok (.iconst 3, 1) := by decide +kernel
theorem dX7_init_109 : decode cX7_init 109 = .ok (.invokespecial 33, 3) := by decide +kernel
theorem dX7_init_112 : decode cX7_init 112 = .ok (.putfield 40, 3) := by decide +kernel
theorem dX7_init_115 : decode cX7_init 115 = .ok (.aload_n 0, 1) := by decide +kernel
theorem dX7_init_116 : decode cX7_init 116 = .ok (.invokevirtual 43, 3) := by decide +kernel
theorem dX7_init_119 : decode cX7_init 119 = .ok (.return_, 1) := by decide +kernel
theorem dX7_clear_0 : decode cX7_clear 0 = .ok (.getstatic 46, 3) := by decide +kernel
theorem dX7_clear_3 : decode cX7_clear 3 = .ok (.iconst 0, 1) := by decide +kernel
theorem dX7_clear_4 : decode cX7_clear 4 = .ok (.aload_n 0, 1) := by decide +kernel
theorem dX7_clear_5 : decode cX7_clear 5 = .ok (.getfield 27, 3) := by decide +kernel
theorem dX7_clear_8 : decode cX7_clear 8 = .ok (.iconst 0, 1) := by decide +kernel
theorem dX7_clear_9 : decode cX7_clear 9 = .ok (.bipush 6, 2) := by decide +kernel
theorem dX7_clear_11 : decode cX7_clear 11 = .ok (.invokestatic 49, 3) := by decide +kernel
theorem dX7_clear_14 : decode cX7_clear 14 = .ok (.aload_n 0, 1) := by decide +kernel
theorem dX7_clear_15 : decode cX7_clear 15 = .ok (.getfield 36, 3) := by decide +kernel
theorem dX7_clear_18 : decode cX7_clear 18 = .ok (.iconst 0, 1) := by decide +kernel
theorem dX7_clear_19 : decode cX7_clear 19 = .ok (.putfield 55, 3) := by decide +kernel
theorem dX7_clear_22 : decode cX7_clear 22 = .ok (.aload_n 0, 1) := by decide +kernel
theorem dX7_clear_23 : decode cX7_clear 23 = .ok (.getfield 40, 3) := by decide +kernel
theorem dX7_clear_26 : decode cX7_clear 26 = .ok (.iconst 0, 1) := by decide +kernel
theorem dX7_clear_27 : decode cX7_clear 27 = .ok (.putfield 55, 3) := by decide +kernel
theorem dX7_clear_30 : decode cX7_clear 30 = .ok (.aload_n 0, 1) := by decide +kernel
theorem dX7_clear_31 : decode cX7_clear 31 = .ok (.iconst 0, 1) := by decide +kernel
theorem dX7_clear_32 : decode cX7_clear 32 = .ok (.putfield 59, 3) := by decide +kernel
theorem dX7_clear_35 : decode cX7_clear 35 = .ok (.aload_n 0, 1) := by decide +kernel
theorem dX7_clear_36 : decode cX7_clear 36 = .ok (.iconst 0, 1) := by decide +kernel
theorem dX7_clear_37 : decode cX7_clear 37 = .ok (.putfield 62, 3) := by decide +kernel
theorem dX7_clear_40 : decode cX7_clear 40 = .ok (.aload_n 0, 1) := by decide +kernel
theorem dX7_clear_41 : decode cX7_clear 41 = .ok (.iconst 0, 1) := by decide +kernel
theorem dX7_clear_42 : decode cX7_clear 42 = .ok (.putfield 65, 3) := by decide +kernel
theorem dX7_clear_45 : decode cX7_clear 45 = .ok (.aload_n 0, 1) := by decide +kernel
theorem dX7_clear_46 : decode cX7_clear 46 = .ok (.iconst 0, 1) := by decide +kernel
theorem dX7_clear_47 : decode cX7_clear 47 = .ok (.putfield 68, 3) := by decide +kernel
theorem dX7_clear_50 : decode cX7_clear 50 = .ok (.return_, 1) := by decide +kernel
theorem dX7_copy_0 : decode cX7_copy 0 = .ok (.aload_n 0, 1) := by decide +kernel
theorem dX7_copy_1 : decode cX7_copy 1 = .ok (.aload_n 1, 1) := by decide +kernel
theorem dX7_copy_2 : decode cX7_copy 2 = .ok (.getfield 59, 3) := by decide +kernel
theorem dX7_copy_5 : decode cX7_copy 5 = .ok (.putfield 59, 3) := by decide +kernel
theorem dX7_copy_8 : decode cX7_copy 8 = .ok (.iconst 0, 1) := by decide +kernel
theorem dX7_copy_9 : decode cX7_copy 9 = .ok (.istore_n 2, 1) := by decide +kernel
theorem dX7_copy_10 : decode cX7_copy 10 = .ok (.iload_n 2, 1) := by decide +kernel
theorem dX7_copy_11 : decode cX7_copy 11 = .ok (.aload_n 0, 1) := by decide +kernel
theorem dX7_copy_12 : decode cX7_copy 12 = .ok (.getfield 59, 3) := by decide +kernel
theorem dX7_copy_15 : decode cX7_copy 15 = .ok (.if_icmp .ge 24, 3) := by decide +kernel
theorem dX7_copy_18 : decode cX7_copy 18 = .ok (.aload_n 0, 1) := by decide +kernel
theorem dX7_copy_19 : decode cX7_copy 19 = .ok (.getfield 11, 3) := by decide +kernel
theorem dX7_copy_22 : decode cX7_copy 22 = .ok (.iload_n 2, 1) := by decide +kernel
theorem dX7_copy_23 : decode cX7_copy 23 = .ok (.aaload, 1) := by decide +kernel
theorem dX7_copy_24 : decode cX7_copy 24 = .ok (.aload_n 1, 1) := by decide +kernel
theorem dX7_copy_25 : decode cX7_copy 25 = .ok (.getfield 11, 3) := by decide +kernel
theorem dX7_copy_28 : decode cX7_copy 28 = .ok (.iload_n 2, 1) := by decide +kernel
theorem dX7_copy_29 : decode cX7_copy 29 = .ok (.aaload, 1) := by decide +kernel
theorem dX7_copy_30 : decode cX7_copy 30 = .ok (.invokevirtual 71, 3) := by decide +kernel
theorem dX7_copy_33 : decode cX7_copy 33 = .ok (.iinc 2 1, 3) := by decide +kernel
theorem dX7_copy_36 : decode cX7_copy 36 = .ok (.goto (-26), 3) := by decide +kernel
theorem dX7_copy_39 : decode cX7_copy 39 = .ok (.aload_n 0, 1) := by decide +kernel
theorem dX7_copy_40 : decode cX7_copy 40 = .ok (.aload_n 1, 1) := by decide +kernel
theorem dX7_copy_41 : decode cX7_copy 41 = .ok (.getfield 62, 3) := by decide +kernel
theorem dX7_copy_44 : decode cX7_copy 44 = .ok (.putfield 62, 3) := by decide +kernel
theorem dX7_copy_47 : decode cX7_copy 47 = .ok (.iconst 0, 1) := by decide +kernel
theorem dX7_copy_48 : decode cX7_copy 48 = .ok (.istore_n 2, 1) := by decide +kernel
theorem dX7_copy_49 : decode cX7_copy 49 = .ok (.iload_n 2, 1) := by decide +kernel
theorem dX7_copy_50 : decode cX7_copy 50 = .ok (.aload_n 0, 1) := by decide +kernel
theorem dX7_copy_51 : decode cX7_copy 51 = .ok (.getfield 62, 3) := by decide +kernel
theorem dX7_copy_54 : decode cX7_copy 54 = .ok (.if_icmp .ge 24, 3) := by decide +kernel
theorem dX7_copy_57 : decode cX7_copy 57 = .ok (.aload_n 0, 1) := by decide +kernel
theorem dX7_copy_58 : decode cX7_copy 58 = .ok (.getfield 22, 3) := by decide +kernel
theorem dX7_copy_61 : decode cX7_copy 61 = .ok (.iload_n 2, 1) := by decide +kernel
theorem dX7_copy_62 : decode cX7_copy 62 = .ok (.aaload, 1) := by decide +kernel
theorem dX7_copy_63 : decode cX7_copy 63 = .ok (.aload_n 1, 1) := by decide +kernel
theorem dX7_copy_64 : decode cX7_copy 64 = .ok (.getfield 22, 3) := by decide +kernel
theorem dX7_copy_67 : decode cX7_copy 67 = .ok (.iload_n 2, 1) := by decide +kernel
theorem dX7_copy_68 : decode cX7_copy 68 = .ok (.aaload, 1) := by decide +kernel
theorem dX7_copy_69 : decode cX7_copy 69 = .ok (.invokevirtual 75, 3) := by decide +kernel
theorem dX7_copy_72 : decode cX7_copy 72 = .ok (.iinc 2 1, 3) := by decide +kernel
theorem dX7_copy_75 : decode cX7_copy 75 = .ok (.goto (-26), 3) := by decide +kernel
theorem dX7_copy_78 : decode cX7_copy 78 = .ok (.aload_n 1, 1) := by decide +kernel
theorem dX7_copy_79 : decode cX7_copy 79 = .ok (.getfield 27, 3) := by decide +kernel
theorem dX7_copy_82 : decode cX7_copy 82 = .ok (.iconst 0, 1) := by decide +kernel
theorem dX7_copy_83 : decode cX7_copy 83 = .ok (.aload_n 0, 1) := by decide +kernel
theorem dX7_copy_84 : decode cX7_copy 84 = .ok (.getfield 27, 3) := by decide +kernel
theorem dX7_copy_87 : decode cX7_copy 87 = .ok (.iconst 0, 1) := by decide +kernel
theorem dX7_copy_88 : decode cX7_copy 88 = .ok (.bipush 6, 2) := by decide +kernel
theorem dX7_copy_90 : decode cX7_copy 90 = .ok (.invokestatic 49, 3) := by decide +kernel
theorem dX7_copy_93 : decode cX7_copy 93 = .ok (.aload_n 0, 1) := by decide +kernel
theorem dX7_copy_94 : decode cX7_copy 94 = .ok (.getfield 36, 3) := by decide +kernel
theorem dX7_copy_97 : decode cX7_copy 97 = .ok (.aload_n 1, 1) := by decide +kernel
theorem dX7_copy_98 : decode cX7_copy 98 = .ok (.getfield 36, 3) := by decide +kernel
theorem dX7_copy_101 : decode cX7_copy 101 = .ok (.invokevirtual 78, 3) := by decide +kernel
theorem dX7_copy_104 : decode cX7_copy 104 = .ok (.aload_n 0, 1) := by decide +kernel
theorem dX7_copy_105 : decode cX7_copy 105 = .ok (.getfield 40, 3) := by decide +kernel
theorem dX7_copy_108 : decode cX7_copy 108 = .ok (.aload_n 1, 1) := by decide +kernel
theorem dX7_copy_109 : decode cX7_copy 109 = .ok (.getfield 40, 3) := by decide +kernel
theorem dX7_copy_112 : decode cX7_copy 112 = .ok (.invokevirtual 78, 3) := by decide +kernel
theorem dX7_copy_115 : decode cX7_copy 115 = .ok (.aload_n 0, 1) := by decide +kernel
theorem dX7_copy_116 : decode cX7_copy 116 = .ok (.aload_n 1, 1) := by decide +kernel
theorem dX7_copy_117 : decode cX7_copy 117 = .ok (.getfield 65, 3) := by decide +kernel
theorem dX7_copy_120 : decode cX7_copy 120 = .ok (.putfield 65, 3) := by decide +kernel
theorem dX7_copy_123 : decode cX7_copy 123 = .ok (.aload_n 0, 1) := by decide +kernel
theorem dX7_copy_124 : decode cX7_copy 124 = .ok (.aload_n 1, 1) := by decide +kernel
theorem dX7_copy_125 : decode cX7_copy 125 = .ok (.getfield 68, 3) := by decide +kernel
theorem dX7_copy_128 : decode cX7_copy 128 = .ok (.putfield 68, 3) := by decide +kernel
theorem dX7_copy_131 : decode cX7_copy 131 = .ok (.return_, 1) := by decide +kernel
theorem dX7_homeAt_0 : decode cX7_homeAt 0 = .ok (.iload_n 1, 1) := by decide +kernel
theorem dX7_homeAt_1 : decode cX7_homeAt 1 = .ok (.ifCond .lt 11, 3) := by decide +kernel
theorem dX7_homeAt_4 : decode cX7_homeAt 4 = .ok (.iload_n 1, 1) := by decide +kernel
theorem dX7_homeAt_5 : decode cX7_homeAt 5 = .ok (.aload_n 0, 1) := by decide +kernel
theorem dX7_homeAt_6 : decode cX7_homeAt 6 = .ok (.getfield 59, 3) := by decide +kernel
theorem dX7_homeAt_9 : decode cX7_homeAt 9 = .ok (.if_icmp .lt 7, 3) := by decide +kernel
theorem dX7_homeAt_12 : decode cX7_homeAt 12 = .ok (.aconst_null, 1) := by decide +kernel
theorem dX7_homeAt_13 : decode cX7_homeAt 13 = .ok (.goto 9, 3) := by decide +kernel
theorem dX7_homeAt_16 : decode cX7_homeAt 16 = .ok (.aload_n 0, 1) := by decide +kernel
theorem dX7_homeAt_17 : decode cX7_homeAt 17 = .ok (.getfield 11, 3) := by decide +kernel
theorem dX7_homeAt_20 : decode cX7_homeAt 20 = .ok (.iload_n 1, 1) := by decide +kernel
theorem dX7_homeAt_21 : decode cX7_homeAt 21 = .ok (.aaload, 1) := by decide +kernel
theorem dX7_homeAt_22 : decode cX7_homeAt 22 = .ok (.areturn, 1) := by decide +kernel
theorem dX7_houseAt_0 : decode cX7_houseAt 0 = .ok (.iload_n 1, 1) := by decide +kernel
theorem dX7_houseAt_1 : decode cX7_houseAt 1 = .ok (.ifCond .lt 11, 3) := by decide +kernel
theorem dX7_houseAt_4 : decode cX7_houseAt 4 = .ok (.iload_n 1, 1) := by decide +kernel
theorem dX7_houseAt_5 : decode cX7_houseAt 5 = .ok (.aload_n 0, 1) := by decide +kernel
theorem dX7_houseAt_6 : decode cX7_houseAt 6 = .ok (.getfield 62, 3) := by decide +kernel
theorem dX7_houseAt_9 : decode cX7_houseAt 9 = .ok (.if_icmp .lt 7, 3) := by decide +kernel
theorem dX7_houseAt_12 : decode cX7_houseAt 12 = .ok (.aconst_null, 1) := by decide +kernel
theorem dX7_houseAt_13 : decode cX7_houseAt 13 = .ok (.goto 9, 3) := by decide +kernel
theorem dX7_houseAt_16 : decode cX7_houseAt 16 = .ok (.aload_n 0, 1) := by decide +kernel
theorem dX7_houseAt_17 : decode cX7_houseAt 17 = .ok (.getfield 22, 3) := by decide +kernel
theorem dX7_houseAt_20 : decode cX7_houseAt 20 = .ok (.iload_n 1, 1) := by decide +kernel
theorem dX7_houseAt_21 : decode cX7_houseAt 21 = .ok (.aaload, 1) := by decide +kernel
theorem dX7_houseAt_22 : decode cX7_houseAt 22 = .ok (.areturn, 1) := by decide +kernel
theorem dX7_addHome_0 : decode cX7_addHome 0 = .ok (.aload_n 0, 1) := by decide +kernel
theorem dX7_addHome_1 : decode cX7_addHome 1 = .ok (.getfield 59, 3) := by decide +kernel
theorem dX7_addHome_4 : decode cX7_addHome 4 = .ok (.bipush 10, 2) := by decide +kernel
theorem dX7_addHome_6 : decode cX7_addHome 6 = .ok (.if_icmp .lt 5, 3) := by decide +kernel
theorem dX7_addHome_9 : decode cX7_addHome 9 = .ok (.aconst_null, 1) := by decide +kernel
theorem dX7_addHome_10 : decode cX7_addHome 10 = .ok (.areturn, 1) := by decide +kernel
theorem dX7_addHome_11 : decode cX7_addHome 11 = .ok (.aload_n 0, 1) := by decide +kernel
theorem dX7_addHome_12 : decode cX7_addHome 12 = .ok (.getfield 11, 3) := by decide +kernel
theorem dX7_addHome_15 : decode cX7_addHome 15 = .ok (.aload_n 0, 1) := by decide +kernel
theorem dX7_addHome_16 : decode cX7_addHome 16 = .ok (.getfield 59, 3) := by decide +kernel
theorem dX7_addHome_19 : decode cX7_addHome 19 = .ok (.aaload, 1) := by decide +kernel
theorem dX7_addHome_20 : decode cX7_addHome 20 = .ok (.astore_n 3, 1) := by decide +kernel
theorem dX7_addHome_21 : decode cX7_addHome 21 = .ok (.aload_n 3, 1) := by decide +kernel
theorem dX7_addHome_22 : decode cX7_addHome 22 = .ok (.lload_n 1, 1) := by decide +kernel
theorem dX7_addHome_23 : decode cX7_addHome 23 = .ok (.invokevirtual 81, 3) := by decide +kernel
theorem dX7_addHome_26 : decode cX7_addHome 26 = .ok (.aload_n 0, 1) := by decide +kernel
theorem dX7_addHome_27 : decode cX7_addHome 27 = .ok (.dup, 1) := by decide +kernel
theorem dX7_addHome_28 : decode cX7_addHome 28 = .ok (.getfield 59, 3) := by decide +kernel
theorem dX7_addHome_31 : decode cX7_addHome 31 = .ok (.iconst 1, 1) := by decide +kernel
theorem dX7_addHome_32 : decode cX7_addHome 32 = .ok (.iadd, 1) := by decide +kernel
theorem dX7_addHome_33 : decode cX7_addHome 33 = .ok (.putfield 59, 3) := by decide +kernel
theorem dX7_addHome_36 : decode cX7_addHome 36 = .ok (.aload_n 3, 1) := by decide +kernel
theorem dX7_addHome_37 : decode cX7_addHome 37 = .ok (.areturn, 1) := by decide +kernel
theorem dX7_addHouse_0 : decode cX7_addHouse 0 = .ok (.aload_n 0, 1) := by decide +kernel
theorem dX7_addHouse_1 : decode cX7_addHouse 1 = .ok (.getfield 62, 3) := by decide +kernel
theorem dX7_addHouse_4 : decode cX7_addHouse 4 = .ok (.bipush 8, 2) := by decide +kernel
theorem dX7_addHouse_6 : decode cX7_addHouse 6 = .ok (.if_icmp .lt 5, 3) := by decide +kernel
theorem dX7_addHouse_9 : decode cX7_addHouse 9 = .ok (.aconst_null, 1) := by decide +kernel
theorem dX7_addHouse_10 : decode cX7_addHouse 10 = .ok (.areturn, 1) := by decide +kernel
theorem dX7_addHouse_11 : decode cX7_addHouse 11 = .ok (.aload_n 0, 1) := by decide +kernel
theorem dX7_addHouse_12 : decode cX7_addHouse 12 = .ok (.getfield 22, 3) := by decide +kernel
theorem dX7_addHouse_15 : decode cX7_addHouse 15 = .ok (.aload_n 0, 1) := by decide +kernel
theorem dX7_addHouse_16 : decode cX7_addHouse 16 = .ok (.getfield 62, 3) := by decide +kernel
theorem dX7_addHouse_19 : decode cX7_addHouse 19 = .ok (.aaload, 1) := by decide +kernel
theorem dX7_addHouse_20 : decode cX7_addHouse 20 = .ok (.astore_n 3, 1) := by decide +kernel
theorem dX7_addHouse_21 : decode cX7_addHouse 21 = .ok (.aload_n 3, 1) := by decide +kernel
theorem dX7_addHouse_22 : decode cX7_addHouse 22 = .ok (.lload_n 1, 1) := by decide +kernel
theorem dX7_addHouse_23 : decode cX7_addHouse 23 = .ok (.invokevirtual 85, 3) := by decide +kernel
theorem dX7_addHouse_26 : decode cX7_addHouse 26 = .ok (.aload_n 0, 1) := by decide +kernel
theorem dX7_addHouse_27 : decode cX7_addHouse 27 = .ok (.dup, 1) := by decide +kernel
theorem dX7_addHouse_28 : decode cX7_addHouse 28 = .ok (.getfield 62, 3) := by decide +kernel
theorem dX7_addHouse_31 : decode cX7_addHouse 31 = .ok (.iconst 1, 1) := by decide +kernel
theorem dX7_addHouse_32 : decode cX7_addHouse 32 = .ok (.iadd, 1) := by decide +kernel
theorem dX7_addHouse_33 : decode cX7_addHouse 33 = .ok (.putfield 62, 3) := by decide +kernel
theorem dX7_addHouse_36 : decode cX7_addHouse 36 = .ok (.aload_n 3, 1) := by decide +kernel
theorem dX7_addHouse_37 : decode cX7_addHouse 37 = .ok (.areturn, 1) := by decide +kernel
theorem dX7_homeNamed_0 : decode cX7_homeNamed 0 = .ok (.iconst 0, 1) := by decide +kernel
theorem dX7_homeNamed_1 : decode cX7_homeNamed 1 = .ok (.istore_n 3, 1) := by decide +kernel
theorem dX7_homeNamed_2 : decode cX7_homeNamed 2 = .ok (.iload_n 3, 1) := by decide +kernel
theorem dX7_homeNamed_3 : decode cX7_homeNamed 3 = .ok (.aload_n 0, 1) := by decide +kernel
theorem dX7_homeNamed_4 : decode cX7_homeNamed 4 = .ok (.getfield 59, 3) := by decide +kernel
theorem dX7_homeNamed_7 : decode cX7_homeNamed 7 = .ok (.if_icmp .ge 30, 3) := by decide +kernel
theorem dX7_homeNamed_10 : decode cX7_homeNamed 10 = .ok (.aload_n 0, 1) := by decide +kernel
theorem dX7_homeNamed_11 : decode cX7_homeNamed 11 = .ok (.getfield 11, 3) := by decide +kernel
theorem dX7_homeNamed_14 : decode cX7_homeNamed 14 = .ok (.iload_n 3, 1) := by decide +kernel
theorem dX7_homeNamed_15 : decode cX7_homeNamed 15 = .ok (.aaload, 1) := by decide +kernel
theorem dX7_homeNamed_16 : decode cX7_homeNamed 16 = .ok (.getfield 86, 3) := by decide +kernel
theorem dX7_homeNamed_19 : decode cX7_homeNamed 19 = .ok (.lload_n 1, 1) := by decide +kernel
theorem dX7_homeNamed_20 : decode cX7_homeNamed 20 = .ok (.lcmp, 1) := by decide +kernel
theorem dX7_homeNamed_21 : decode cX7_homeNamed 21 = .ok (.ifCond .ne 10, 3) := by decide +kernel
theorem dX7_homeNamed_24 : decode cX7_homeNamed 24 = .ok (.aload_n 0, 1) := by decide +kernel
theorem dX7_homeNamed_25 : decode cX7_homeNamed 25 = .ok (.getfield 11, 3) := by decide +kernel
theorem dX7_homeNamed_28 : decode cX7_homeNamed 28 = .ok (.iload_n 3, 1) := by decide +kernel
theorem dX7_homeNamed_29 : decode cX7_homeNamed 29 = .ok (.aaload, 1) := by decide +kernel
theorem dX7_homeNamed_30 : decode cX7_homeNamed 30 = .ok (.areturn, 1) := by decide +kernel
theorem dX7_homeNamed_31 : decode cX7_homeNamed 31 = .ok (.iinc 3 1, 3) := by decide +kernel
theorem dX7_homeNamed_34 : decode cX7_homeNamed 34 = .ok (.goto (-32), 3) := by decide +kernel
theorem dX7_homeNamed_37 : decode cX7_homeNamed 37 = .ok (.aconst_null, 1) := by decide +kernel
theorem dX7_homeNamed_38 : decode cX7_homeNamed 38 = .ok (.areturn, 1) := by decide +kernel
theorem dX7_isTaken_0 : decode cX7_isTaken 0 = .ok (.iconst 0, 1) := by decide +kernel
theorem dX7_isTaken_1 : decode cX7_isTaken 1 = .ok (.istore_n 3, 1) := by decide +kernel
theorem dX7_isTaken_2 : decode cX7_isTaken 2 = .ok (.iload_n 3, 1) := by decide +kernel
theorem dX7_isTaken_3 : decode cX7_isTaken 3 = .ok (.aload_n 0, 1) := by decide +kernel
theorem dX7_isTaken_4 : decode cX7_isTaken 4 = .ok (.getfield 62, 3) := by decide +kernel
theorem dX7_isTaken_7 : decode cX7_isTaken 7 = .ok (.if_icmp .ge 25, 3) := by decide +kernel
theorem dX7_isTaken_10 : decode cX7_isTaken 10 = .ok (.aload_n 0, 1) := by decide +kernel
theorem dX7_isTaken_11 : decode cX7_isTaken 11 = .ok (.getfield 22, 3) := by decide +kernel
theorem dX7_isTaken_14 : decode cX7_isTaken 14 = .ok (.iload_n 3, 1) := by decide +kernel
theorem dX7_isTaken_15 : decode cX7_isTaken 15 = .ok (.aaload, 1) := by decide +kernel
theorem dX7_isTaken_16 : decode cX7_isTaken 16 = .ok (.getfield 90, 3) := by decide +kernel
theorem dX7_isTaken_19 : decode cX7_isTaken 19 = .ok (.lload_n 1, 1) := by decide +kernel
theorem dX7_isTaken_20 : decode cX7_isTaken 20 = .ok (.lcmp, 1) := by decide +kernel
theorem dX7_isTaken_21 : decode cX7_isTaken 21 = .ok (.ifCond .ne 5, 3) := by decide +kernel
theorem dX7_isTaken_24 : decode cX7_isTaken 24 = .ok (.iconst 1, 1) := by decide +kernel
theorem dX7_isTaken_25 : decode cX7_isTaken 25 = .ok (.ireturn, 1) := by decide +kernel
theorem dX7_isTaken_26 : decode cX7_isTaken 26 = .ok (.iinc 3 1, 3) := by decide +kernel
theorem dX7_isTaken_29 : decode cX7_isTaken 29 = .ok (.goto (-27), 3) := by decide +kernel
theorem dX7_isTaken_32 : decode cX7_isTaken 32 = .ok (.aload_n 0, 1) := by decide +kernel
theorem dX7_isTaken_33 : decode cX7_isTaken 33 = .ok (.lload_n 1, 1) := by decide +kernel
theorem dX7_isTaken_34 : decode cX7_isTaken 34 = .ok (.invokevirtual 91, 3) := by decide +kernel
theorem dX7_isTaken_37 : decode cX7_isTaken 37 = .ok (.ifnull 7, 3) := by decide +kernel
theorem dX7_isTaken_40 : decode cX7_isTaken 40 = .ok (.iconst 1, 1) := by decide +kernel
theorem dX7_isTaken_41 : decode cX7_isTaken 41 = .ok (.goto 4, 3) := by decide +kernel
theorem dX7_isTaken_44 : decode cX7_isTaken 44 = .ok (.iconst 0, 1) := by decide +kernel
theorem dX7_isTaken_45 : decode cX7_isTaken 45 = .ok (.ireturn, 1) := by decide +kernel
theorem dX7_ruleAt_0 : decode cX7_ruleAt 0 = .ok (.iload_n 1, 1) := by decide +kernel
theorem dX7_ruleAt_1 : decode cX7_ruleAt 1 = .ok (.ifCond .lt 9, 3) := by decide +kernel
theorem dX7_ruleAt_4 : decode cX7_ruleAt 4 = .ok (.iload_n 1, 1) := by decide +kernel
theorem dX7_ruleAt_5 : decode cX7_ruleAt 5 = .ok (.bipush 6, 2) := by decide +kernel
theorem dX7_ruleAt_7 : decode cX7_ruleAt 7 = .ok (.if_icmp .lt 7, 3) := by decide +kernel
theorem dX7_ruleAt_10 : decode cX7_ruleAt 10 = .ok (.iconst (-1), 1) := by decide +kernel
theorem dX7_ruleAt_11 : decode cX7_ruleAt 11 = .ok (.goto 9, 3) := by decide +kernel
theorem dX7_ruleAt_14 : decode cX7_ruleAt 14 = .ok (.aload_n 0, 1) := by decide +kernel
theorem dX7_ruleAt_15 : decode cX7_ruleAt 15 = .ok (.getfield 27, 3) := by decide +kernel
theorem dX7_ruleAt_18 : decode cX7_ruleAt 18 = .ok (.iload_n 1, 1) := by decide +kernel
theorem dX7_ruleAt_19 : decode cX7_ruleAt 19 = .ok (.iaload, 1) := by decide +kernel
theorem dX7_ruleAt_20 : decode cX7_ruleAt 20 = .ok (.ireturn, 1) := by decide +kernel
theorem dX7_setRule_0 : decode cX7_setRule 0 = .ok (.iload_n 1, 1) := by decide +kernel
theorem dX7_setRule_1 : decode cX7_setRule 1 = .ok (.ifCond .lt 16, 3) := by decide +kernel
theorem dX7_setRule_4 : decode cX7_setRule 4 = .ok (.iload_n 1, 1) := by decide +kernel
theorem dX7_setRule_5 : decode cX7_setRule 5 = .ok (.bipush 6, 2) := by decide +kernel
theorem dX7_setRule_7 : decode cX7_setRule 7 = .ok (.if_icmp .ge 10, 3) := by decide +kernel
theorem dX7_setRule_10 : decode cX7_setRule 10 = .ok (.aload_n 0, 1) := by decide +kernel
theorem dX7_setRule_11 : decode cX7_setRule 11 = .ok (.getfield 27, 3) := by decide +kernel
theorem dX7_setRule_14 : decode cX7_setRule 14 = .ok (.iload_n 1, 1) := by decide +kernel
theorem dX7_setRule_15 : decode cX7_setRule 15 = .ok (.iload_n 2, 1) := by decide +kernel
theorem dX7_setRule_16 : decode cX7_setRule 16 = .ok (.iastore, 1) := by decide +kernel
theorem dX7_setRule_17 : decode cX7_setRule 17 = .ok (.return_, 1) := by decide +kernel
theorem dX7_countFree_0 : decode cX7_countFree 0 = .ok (.iconst 0, 1) := by decide +kernel
theorem dX7_countFree_1 : decode cX7_countFree 1 = .ok (.istore_n 1, 1) := by decide +kernel
theorem dX7_countFree_2 : decode cX7_countFree 2 = .ok (.iconst 0, 1) := by decide +kernel
theorem dX7_countFree_3 : decode cX7_countFree 3 = .ok (.istore_n 2, 1) := by decide +kernel
theorem dX7_countFree_4 : decode cX7_countFree 4 = .ok (.iload_n 2, 1) := by decide +kernel
theorem dX7_countFree_5 : decode cX7_countFree 5 = .ok (.aload_n 0, 1) := by decide +kernel
theorem dX7_countFree_6 : decode cX7_countFree 6 = .ok (.getfield 59, 3) := by decide +kernel
theorem dX7_countFree_9 : decode cX7_countFree 9 = .ok (.if_icmp .ge 24, 3) := by decide +kernel
theorem dX7_countFree_12 : decode cX7_countFree 12 = .ok (.aload_n 0, 1) := by decide +kernel
theorem dX7_countFree_13 : decode cX7_countFree 13 = .ok (.getfield 11, 3) := by decide +kernel
theorem dX7_countFree_16 : decode cX7_countFree 16 = .ok (.iload_n 2, 1) := by decide +kernel
theorem dX7_countFree_17 : decode cX7_countFree 17 = .ok (.aaload, 1) := by decide +kernel
theorem dX7_countFree_18 : decode cX7_countFree 18 = .ok (.invokevirtual 95, 3) := by decide +kernel
theorem dX7_countFree_21 : decode cX7_countFree 21 = .ok (.ifCond .eq 6, 3) := by decide +kernel
theorem dX7_countFree_24 : decode cX7_countFree 24 = .ok (.iinc 1 1, 3) := by decide +kernel
theorem dX7_countFree_27 : decode cX7_countFree 27 = .ok (.iinc 2 1, 3) := by decide +kernel
theorem dX7_countFree_30 : decode cX7_countFree 30 = .ok (.goto (-26), 3) := by decide +kernel
theorem dX7_countFree_33 : decode cX7_countFree 33 = .ok (.iload_n 1, 1) := by decide +kernel
theorem dX7_countFree_34 : decode cX7_countFree 34 = .ok (.ireturn, 1) := by decide +kernel
theorem dX7_waiting_0 : decode cX7_waiting 0 = .ok (.iconst 0, 1) := by decide +kernel
theorem dX7_waiting_1 : decode cX7_waiting 1 = .ok (.istore_n 1, 1) := by decide +kernel
theorem dX7_waiting_2 : decode cX7_waiting 2 = .ok (.iconst 0, 1) := by decide +kernel
theorem dX7_waiting_3 : decode cX7_waiting 3 = .ok (.istore_n 2, 1) := by decide +kernel
theorem dX7_waiting_4 : decode cX7_waiting 4 = .ok (.iload_n 2, 1) := by decide +kernel
theorem dX7_waiting_5 : decode cX7_waiting 5 = .ok (.aload_n 0, 1) := by decide +kernel
theorem dX7_waiting_6 : decode cX7_waiting 6 = .ok (.getfield 62, 3) := by decide +kernel
theorem dX7_waiting_9 : decode cX7_waiting 9 = .ok (.if_icmp .ge 33, 3) := by decide +kernel
theorem dX7_waiting_12 : decode cX7_waiting 12 = .ok (.aload_n 0, 1) := by decide +kernel
theorem dX7_waiting_13 : decode cX7_waiting 13 = .ok (.getfield 22, 3) := by decide +kernel
theorem dX7_waiting_16 : decode cX7_waiting 16 = .ok (.iload_n 2, 1) := by decide +kernel
theorem dX7_waiting_17 : decode cX7_waiting 17 = .ok (.aaload, 1) := by decide +kernel
theorem dX7_waiting_18 : decode cX7_waiting 18 = .ok (.getfield 99, 3) := by decide +kernel
theorem dX7_waiting_21 : decode cX7_waiting 21 = .ok (.ifCond .ne 15, 3) := by decide +kernel
theorem dX7_waiting_24 : decode cX7_waiting 24 = .ok (.iload_n 1, 1) := by decide +kernel
theorem dX7_waiting_25 : decode cX7_waiting 25 = .ok (.aload_n 0, 1) := by decide +kernel
theorem dX7_waiting_26 : decode cX7_waiting 26 = .ok (.getfield 22, 3) := by decide +kernel
theorem dX7_waiting_29 : decode cX7_waiting 29 = .ok (.iload_n 2, 1) := by decide +kernel
theorem dX7_waiting_30 : decode cX7_waiting 30 = .ok (.aaload, 1) := by decide +kernel
theorem dX7_waiting_31 : decode cX7_waiting 31 = .ok (.getfield 103, 3) := by decide +kernel
theorem dX7_waiting_34 : decode cX7_waiting 34 = .ok (.ior, 1) := by decide +kernel
theorem dX7_waiting_35 : decode cX7_waiting 35 = .ok (.istore_n 1, 1) := by decide +kernel
theorem dX7_waiting_36 : decode cX7_waiting 36 = .ok (.iinc 2 1, 3) := by decide +kernel
theorem dX7_waiting_39 : decode cX7_waiting 39 = .ok (.goto (-35), 3) := by decide +kernel
theorem dX7_waiting_42 : decode cX7_waiting 42 = .ok (.iload_n 1, 1) := by decide +kernel
theorem dX7_waiting_43 : decode cX7_waiting 43 = .ok (.ireturn, 1) := by decide +kernel
theorem dX7_countWaiting_0 : decode cX7_countWaiting 0 = .ok (.aload_n 0, 1) := by decide +kernel
theorem dX7_countWaiting_1 : decode cX7_countWaiting 1 = .ok (.invokevirtual 106, 3) := by decide +kernel
theorem dX7_countWaiting_4 : decode cX7_countWaiting 4 = .ok (.invokestatic 110, 3) := by decide +kernel
theorem dX7_countWaiting_7 : decode cX7_countWaiting 7 = .ok (.ireturn, 1) := by decide +kernel
theorem dX7_countBids_0 : decode cX7_countBids 0 = .ok (.iconst 0, 1) := by decide +kernel
theorem dX7_countBids_1 : decode cX7_countBids 1 = .ok (.istore_n 1, 1) := by decide +kernel
theorem dX7_countBids_2 : decode cX7_countBids 2 = .ok (.iconst 0, 1) := by decide +kernel
theorem dX7_countBids_3 : decode cX7_countBids 3 = .ok (.istore_n 2, 1) := by decide +kernel
theorem dX7_countBids_4 : decode cX7_countBids 4 = .ok (.iload_n 2, 1) := by decide +kernel
theorem dX7_countBids_5 : decode cX7_countBids 5 = .ok (.aload_n 0, 1) := by decide +kernel
theorem dX7_countBids_6 : decode cX7_countBids 6 = .ok (.getfield 62, 3) := by decide +kernel
theorem dX7_countBids_9 : decode cX7_countBids 9 = .ok (.if_icmp .ge 21, 3) := by decide +kernel
theorem dX7_countBids_12 : decode cX7_countBids 12 = .ok (.iload_n 1, 1) := by decide +kernel
theorem dX7_countBids_13 : decode cX7_countBids 13 = .ok (.aload_n 0, 1) := by decide +kernel
theorem dX7_countBids_14 : decode cX7_countBids 14 = .ok (.getfield 22, 3) := by decide +kernel
theorem dX7_countBids_17 : decode cX7_countBids 17 = .ok (.iload_n 2, 1) := by decide +kernel
theorem dX7_countBids_18 : decode cX7_countBids 18 = .ok (.aaload, 1) := by decide +kernel
theorem dX7_countBids_19 : decode cX7_countBids 19 = .ok (.invokevirtual 116, 3) := by decide +kernel
theorem dX7_countBids_22 : decode cX7_countBids 22 = .ok (.iadd, 1) := by decide +kernel
theorem dX7_countBids_23 : decode cX7_countBids 23 = .ok (.istore_n 1, 1) := by decide +kernel
theorem dX7_countBids_24 : decode cX7_countBids 24 = .ok (.iinc 2 1, 3) := by decide +kernel
theorem dX7_countBids_27 : decode cX7_countBids 27 = .ok (.goto (-23), 3) := by decide +kernel
theorem dX7_countBids_30 : decode cX7_countBids 30 = .ok (.iload_n 1, 1) := by decide +kernel
theorem dX7_countBids_31 : decode cX7_countBids 31 = .ok (.ireturn, 1) := by decide +kernel
theorem dX7_countPassed_0 : decode cX7_countPassed 0 = .ok (.iconst 0, 1) := by decide +kernel
theorem dX7_countPassed_1 : decode cX7_countPassed 1 = .ok (.istore_n 1, 1) := by decide +kernel
theorem dX7_countPassed_2 : decode cX7_countPassed 2 = .ok (.iconst 0, 1) := by decide +kernel
theorem dX7_countPassed_3 : decode cX7_countPassed 3 = .ok (.istore_n 2, 1) := by decide +kernel
theorem dX7_countPassed_4 : decode cX7_countPassed 4 = .ok (.iload_n 2, 1) := by decide +kernel
theorem dX7_countPassed_5 : decode cX7_countPassed 5 = .ok (.aload_n 0, 1) := by decide +kernel
theorem dX7_countPassed_6 : decode cX7_countPassed 6 = .ok (.getfield 62, 3) := by decide +kernel
theorem dX7_countPassed_9 : decode cX7_countPassed 9 = .ok (.if_icmp .ge 21, 3) := by decide +kernel
theorem dX7_countPassed_12 : decode cX7_countPassed 12 = .ok (.iload_n 1, 1) := by decide +kernel
theorem dX7_countPassed_13 : decode cX7_countPassed 13 = .ok (.aload_n 0, 1) := by decide +kernel
theorem dX7_countPassed_14 : decode cX7_countPassed 14 = .ok (.getfield 22, 3) := by decide +kernel
theorem dX7_countPassed_17 : decode cX7_countPassed 17 = .ok (.iload_n 2, 1) := by decide +kernel
theorem dX7_countPassed_18 : decode cX7_countPassed 18 = .ok (.aaload, 1) := by decide +kernel
theorem dX7_countPassed_19 : decode cX7_countPassed 19 = .ok (.getfield 119, 3) := by decide +kernel
theorem dX7_countPassed_22 : decode cX7_countPassed 22 = .ok (.iadd, 1) := by decide +kernel
theorem dX7_countPassed_23 : decode cX7_countPassed 23 = .ok (.istore_n 1, 1) := by decide +kernel
theorem dX7_countPassed_24 : decode cX7_countPassed 24 = .ok (.iinc 2 1, 3) := by decide +kernel
theorem dX7_countPassed_27 : decode cX7_countPassed 27 = .ok (.goto (-23), 3) := by decide +kernel
theorem dX7_countPassed_30 : decode cX7_countPassed 30 = .ok (.iload_n 1, 1) := by decide +kernel
theorem dX7_countPassed_31 : decode cX7_countPassed 31 = .ok (.ireturn, 1) := by decide +kernel
theorem dX7_greatestChain_0 : decode cX7_greatestChain 0 = .ok (.iconst 0, 1) := by decide +kernel
theorem dX7_greatestChain_1 : decode cX7_greatestChain 1 = .ok (.istore_n 1, 1) := by decide +kernel
theorem dX7_greatestChain_2 : decode cX7_greatestChain 2 = .ok (.iconst 0, 1) := by decide +kernel
theorem dX7_greatestChain_3 : decode cX7_greatestChain 3 = .ok (.istore_n 2, 1) := by decide +kernel
theorem dX7_greatestChain_4 : decode cX7_greatestChain 4 = .ok (.iload_n 2, 1) := by decide +kernel
theorem dX7_greatestChain_5 : decode cX7_greatestChain 5 = .ok (.aload_n 0, 1) := by decide +kernel
theorem dX7_greatestChain_6 : decode cX7_greatestChain 6 = .ok (.getfield 36, 3) := by decide +kernel
theorem dX7_greatestChain_9 : decode cX7_greatestChain 9 = .ok (.getfield 55, 3) := by decide +kernel
theorem dX7_greatestChain_12 : decode cX7_greatestChain 12 = .ok (.if_icmp .ge 23, 3) := by decide +kernel
theorem dX7_greatestChain_15 : decode cX7_greatestChain 15 = .ok (.iload_n 1, 1) := by decide +kernel
theorem dX7_greatestChain_16 : decode cX7_greatestChain 16 = .ok (.aload_n 0, 1) := by decide +kernel
theorem dX7_greatestChain_17 : decode cX7_greatestChain 17 = .ok (.getfield 36, 3) := by decide +kernel
theorem dX7_greatestChain_20 : decode cX7_greatestChain 20 = .ok (.iload_n 2, 1) := by decide +kernel
theorem dX7_greatestChain_21 : decode cX7_greatestChain 21 = .ok (.iconst 3, 1) := by decide +kernel
theorem dX7_greatestChain_22 : decode cX7_greatestChain 22 = .ok (.invokevirtual 122, 3) := by decide +kernel
theorem dX7_greatestChain_25 : decode cX7_greatestChain 25 = .ok (.invokestatic 126, 3) := by decide +kernel
theorem dX7_greatestChain_28 : decode cX7_greatestChain 28 = .ok (.istore_n 1, 1) := by decide +kernel
theorem dX7_greatestChain_29 : decode cX7_greatestChain 29 = .ok (.iinc 2 1, 3) := by decide +kernel
theorem dX7_greatestChain_32 : decode cX7_greatestChain 32 = .ok (.goto (-28), 3) := by decide +kernel
theorem dX7_greatestChain_35 : decode cX7_greatestChain 35 = .ok (.iload_n 1, 1) := by decide +kernel
theorem dX7_greatestChain_36 : decode cX7_greatestChain 36 = .ok (.ireturn, 1) := by decide +kernel
theorem dX7_lackOf_0 : decode cX7_lackOf 0 = .ok (.iconst 0, 1) := by decide +kernel
theorem dX7_lackOf_1 : decode cX7_lackOf 1 = .ok (.istore_n 2, 1) := by decide +kernel
theorem dX7_lackOf_2 : decode cX7_lackOf 2 = .ok (.iconst 0, 1) := by decide +kernel
theorem dX7_lackOf_3 : decode cX7_lackOf 3 = .ok (.istore_n 3, 1) := by decide +kernel
theorem dX7_lackOf_4 : decode cX7_lackOf 4 = .ok (.iload_n 3, 1) := by decide +kernel
theorem dX7_lackOf_5 : decode cX7_lackOf 5 = .ok (.aload_n 0, 1) := by decide +kernel
theorem dX7_lackOf_6 : decode cX7_lackOf 6 = .ok (.getfield 62, 3) := by decide +kernel
theorem dX7_lackOf_9 : decode cX7_lackOf 9 = .ok (.if_icmp .ge 37, 3) := by decide +kernel
theorem dX7_lackOf_12 : decode cX7_lackOf 12 = .ok (.aload_n 0, 1) := by decide +kernel
theorem dX7_lackOf_13 : decode cX7_lackOf 13 = .ok (.getfield 22, 3) := by decide +kernel
theorem dX7_lackOf_16 : decode cX7_lackOf 16 = .ok (.iload_n 3, 1) := by decide +kernel
theorem dX7_lackOf_17 : decode cX7_lackOf 17 = .ok (.aaload, 1) := by decide +kernel
theorem dX7_lackOf_18 : decode cX7_lackOf 18 = .ok (.getfield 99, 3) := by decide +kernel
theorem dX7_lackOf_21 : decode cX7_lackOf 21 = .ok (.ifCond .ne 19, 3) := by decide +kernel
theorem dX7_lackOf_24 : decode cX7_lackOf 24 = .ok (.aload_n 0, 1) := by decide +kernel
theorem dX7_lackOf_25 : decode cX7_lackOf 25 = .ok (.getfield 22, 3) := by decide +kernel
theorem dX7_lackOf_28 : decode cX7_lackOf 28 = .ok (.iload_n 3, 1) := by decide +kernel
theorem dX7_lackOf_29 : decode cX7_lackOf 29 = .ok (.aaload, 1) := by decide +kernel
theorem dX7_lackOf_30 : decode cX7_lackOf 30 = .ok (.getfield 131, 3) := by decide +kernel
theorem dX7_lackOf_33 : decode cX7_lackOf 33 = .ok (.iload_n 1, 1) := by decide +kernel
theorem dX7_lackOf_34 : decode cX7_lackOf 34 = .ok (.if_icmp .ne 6, 3) := by decide +kernel
theorem dX7_lackOf_37 : decode cX7_lackOf 37 = .ok (.iinc 2 1, 3) := by decide +kernel
theorem dX7_lackOf_40 : decode cX7_lackOf 40 = .ok (.iinc 3 1, 3) := by decide +kernel
theorem dX7_lackOf_43 : decode cX7_lackOf 43 = .ok (.goto (-39), 3) := by decide +kernel
theorem dX7_lackOf_46 : decode cX7_lackOf 46 = .ok (.iconst 0, 1) := by decide +kernel
theorem dX7_lackOf_47 : decode cX7_lackOf 47 = .ok (.istore_n 3, 1) := by decide +kernel
theorem dX7_lackOf_48 : decode cX7_lackOf 48 = .ok (.iload_n 3, 1) := by decide +kernel
theorem dX7_lackOf_49 : decode cX7_lackOf 49 = .ok (.aload_n 0, 1) := by decide +kernel
theorem dX7_lackOf_50 : decode cX7_lackOf 50 = .ok (.getfield 59, 3) := by decide +kernel
theorem dX7_lackOf_53 : decode cX7_lackOf 53 = .ok (.if_icmp .ge 37, 3) := by decide +kernel
theorem dX7_lackOf_56 : decode cX7_lackOf 56 = .ok (.aload_n 0, 1) := by decide +kernel
theorem dX7_lackOf_57 : decode cX7_lackOf 57 = .ok (.getfield 11, 3) := by decide +kernel
theorem dX7_lackOf_60 : decode cX7_lackOf 60 = .ok (.iload_n 3, 1) := by decide +kernel
theorem dX7_lackOf_61 : decode cX7_lackOf 61 = .ok (.aaload, 1) := by decide +kernel
theorem dX7_lackOf_62 : decode cX7_lackOf 62 = .ok (.invokevirtual 95, 3) := by decide +kernel
theorem dX7_lackOf_65 : decode cX7_lackOf 65 = .ok (.ifCond .eq 19, 3) := by decide +kernel
theorem dX7_lackOf_68 : decode cX7_lackOf 68 = .ok (.aload_n 0, 1) := by decide +kernel
theorem dX7_lackOf_69 : decode cX7_lackOf 69 = .ok (.getfield 11, 3) := by decide +kernel
theorem dX7_lackOf_72 : decode cX7_lackOf 72 = .ok (.iload_n 3, 1) := by decide +kernel
theorem dX7_lackOf_73 : decode cX7_lackOf 73 = .ok (.aaload, 1) := by decide +kernel
theorem dX7_lackOf_74 : decode cX7_lackOf 74 = .ok (.getfield 134, 3) := by decide +kernel
theorem dX7_lackOf_77 : decode cX7_lackOf 77 = .ok (.iload_n 1, 1) := by decide +kernel
theorem dX7_lackOf_78 : decode cX7_lackOf 78 = .ok (.if_icmp .ne 6, 3) := by decide +kernel
theorem dX7_lackOf_81 : decode cX7_lackOf 81 = .ok (.iinc 2 (-1), 3) := by decide +kernel
theorem dX7_lackOf_84 : decode cX7_lackOf 84 = .ok (.iinc 3 1, 3) := by decide +kernel
theorem dX7_lackOf_87 : decode cX7_lackOf 87 = .ok (.goto (-39), 3) := by decide +kernel
theorem dX7_lackOf_90 : decode cX7_lackOf 90 = .ok (.iload_n 2, 1) := by decide +kernel
theorem dX7_lackOf_91 : decode cX7_lackOf 91 = .ok (.ireturn, 1) := by decide +kernel
theorem dX7_wantOf_0 : decode cX7_wantOf 0 = .ok (.iconst 0, 1) := by decide +kernel
theorem dX7_wantOf_1 : decode cX7_wantOf 1 = .ok (.istore_n 2, 1) := by decide +kernel
theorem dX7_wantOf_2 : decode cX7_wantOf 2 = .ok (.iconst 0, 1) := by decide +kernel
theorem dX7_wantOf_3 : decode cX7_wantOf 3 = .ok (.istore_n 3, 1) := by decide +kernel
theorem dX7_wantOf_4 : decode cX7_wantOf 4 = .ok (.iload_n 3, 1) := by decide +kernel
theorem dX7_wantOf_5 : decode cX7_wantOf 5 = .ok (.aload_n 0, 1) := by decide +kernel
theorem dX7_wantOf_6 : decode cX7_wantOf 6 = .ok (.getfield 62, 3) := by decide +kernel
theorem dX7_wantOf_9 : decode cX7_wantOf 9 = .ok (.if_icmp .ge 37, 3) := by decide +kernel
theorem dX7_wantOf_12 : decode cX7_wantOf 12 = .ok (.aload_n 0, 1) := by decide +kernel
theorem dX7_wantOf_13 : decode cX7_wantOf 13 = .ok (.getfield 22, 3) := by decide +kernel
theorem dX7_wantOf_16 : decode cX7_wantOf 16 = .ok (.iload_n 3, 1) := by decide +kernel
theorem dX7_wantOf_17 : decode cX7_wantOf 17 = .ok (.aaload, 1) := by decide +kernel
theorem dX7_wantOf_18 : decode cX7_wantOf 18 = .ok (.getfield 99, 3) := by decide +kernel
theorem dX7_wantOf_21 : decode cX7_wantOf 21 = .ok (.ifCond .ne 19, 3) := by decide +kernel
theorem dX7_wantOf_24 : decode cX7_wantOf 24 = .ok (.aload_n 0, 1) := by decide +kernel
theorem dX7_wantOf_25 : decode cX7_wantOf 25 = .ok (.getfield 22, 3) := by decide +kernel
theorem dX7_wantOf_28 : decode cX7_wantOf 28 = .ok (.iload_n 3, 1) := by decide +kernel
theorem dX7_wantOf_29 : decode cX7_wantOf 29 = .ok (.aaload, 1) := by decide +kernel
theorem dX7_wantOf_30 : decode cX7_wantOf 30 = .ok (.getfield 137, 3) := by decide +kernel
theorem dX7_wantOf_33 : decode cX7_wantOf 33 = .ok (.iload_n 1, 1) := by decide +kernel
theorem dX7_wantOf_34 : decode cX7_wantOf 34 = .ok (.if_icmp .ne 6, 3) := by decide +kernel
theorem dX7_wantOf_37 : decode cX7_wantOf 37 = .ok (.iinc 2 1, 3) := by decide +kernel
theorem dX7_wantOf_40 : decode cX7_wantOf 40 = .ok (.iinc 3 1, 3) := by decide +kernel
theorem dX7_wantOf_43 : decode cX7_wantOf 43 = .ok (.goto (-39), 3) := by decide +kernel
theorem dX7_wantOf_46 : decode cX7_wantOf 46 = .ok (.iconst 0, 1) := by decide +kernel
theorem dX7_wantOf_47 : decode cX7_wantOf 47 = .ok (.istore_n 3, 1) := by decide +kernel
theorem dX7_wantOf_48 : decode cX7_wantOf 48 = .ok (.iload_n 3, 1) := by decide +kernel
theorem dX7_wantOf_49 : decode cX7_wantOf 49 = .ok (.aload_n 0, 1) := by decide +kernel
theorem dX7_wantOf_50 : decode cX7_wantOf 50 = .ok (.getfield 59, 3) := by decide +kernel
theorem dX7_wantOf_53 : decode cX7_wantOf 53 = .ok (.if_icmp .ge 37, 3) := by decide +kernel
theorem dX7_wantOf_56 : decode cX7_wantOf 56 = .ok (.aload_n 0, 1) := by decide +kernel
theorem dX7_wantOf_57 : decode cX7_wantOf 57 = .ok (.getfield 11, 3) := by decide +kernel
theorem dX7_wantOf_60 : decode cX7_wantOf 60 = .ok (.iload_n 3, 1) := by decide +kernel
theorem dX7_wantOf_61 : decode cX7_wantOf 61 = .ok (.aaload, 1) := by decide +kernel
theorem dX7_wantOf_62 : decode cX7_wantOf 62 = .ok (.invokevirtual 95, 3) := by decide +kernel
theorem dX7_wantOf_65 : decode cX7_wantOf 65 = .ok (.ifCond .eq 19, 3) := by decide +kernel
theorem dX7_wantOf_68 : decode cX7_wantOf 68 = .ok (.aload_n 0, 1) := by decide +kernel
theorem dX7_wantOf_69 : decode cX7_wantOf 69 = .ok (.getfield 11, 3) := by decide +kernel
theorem dX7_wantOf_72 : decode cX7_wantOf 72 = .ok (.iload_n 3, 1) := by decide +kernel
theorem dX7_wantOf_73 : decode cX7_wantOf 73 = .ok (.aaload, 1) := by decide +kernel
theorem dX7_wantOf_74 : decode cX7_wantOf 74 = .ok (.getfield 140, 3) := by decide +kernel
theorem dX7_wantOf_77 : decode cX7_wantOf 77 = .ok (.iload_n 1, 1) := by decide +kernel
theorem dX7_wantOf_78 : decode cX7_wantOf 78 = .ok (.if_icmp .ne 6, 3) := by decide +kernel
theorem dX7_wantOf_81 : decode cX7_wantOf 81 = .ok (.iinc 2 (-1), 3) := by decide +kernel
theorem dX7_wantOf_84 : decode cX7_wantOf 84 = .ok (.iinc 3 1, 3) := by decide +kernel
theorem dX7_wantOf_87 : decode cX7_wantOf 87 = .ok (.goto (-39), 3) := by decide +kernel
theorem dX7_wantOf_90 : decode cX7_wantOf 90 = .ok (.iload_n 2, 1) := by decide +kernel
theorem dX7_wantOf_91 : decode cX7_wantOf 91 = .ok (.ireturn, 1) := by decide +kernel
theorem dX7_shortestWard_0 : decode cX7_shortestWard 0 = .ok (.iconst (-1), 1) := by decide +kernel
theorem dX7_shortestWard_1 : decode cX7_shortestWard 1 = .ok (.istore_n 1, 1) := by decide +kernel
theorem dX7_shortestWard_2 : decode cX7_shortestWard 2 = .ok (.iconst 0, 1) := by decide +kernel
theorem dX7_shortestWard_3 : decode cX7_shortestWard 3 = .ok (.istore_n 2, 1) := by decide +kernel
theorem dX7_shortestWard_4 : decode cX7_shortestWard 4 = .ok (.iload_n 2, 1) := by decide +kernel
theorem dX7_shortestWard_5 : decode cX7_shortestWard 5 = .ok (.aload_n 0, 1) := by decide +kernel
theorem dX7_shortestWard_6 : decode cX7_shortestWard 6 = .ok (.getfield 59, 3) := by decide +kernel
theorem dX7_shortestWard_9 : decode cX7_shortestWard 9 = .ok (.if_icmp .ge 58, 3) := by decide +kernel
theorem dX7_shortestWard_12 : decode cX7_shortestWard 12 = .ok (.aload_n 0, 1) := by decide +kernel
theorem dX7_shortestWard_13 : decode cX7_shortestWard 13 = .ok (.getfield 11, 3) := by decide +kernel
theorem dX7_shortestWard_16 : decode cX7_shortestWard 16 = .ok (.iload_n 2, 1) := by decide +kernel
theorem dX7_shortestWard_17 : decode cX7_shortestWard 17 = .ok (.aaload, 1) := by decide +kernel
theorem dX7_shortestWard_18 : decode cX7_shortestWard 18 = .ok (.getfield 140, 3) := by decide +kernel
theorem dX7_shortestWard_21 : decode cX7_shortestWard 21 = .ok (.istore_n 3, 1) := by decide +kernel
theorem dX7_shortestWard_22 : decode cX7_shortestWard 22 = .ok (.iload_n 1, 1) := by decide +kernel
theorem dX7_shortestWard_23 : decode cX7_shortestWard 23 = .ok (.iconst (-1), 1) := by decide +kernel
theorem dX7_shortestWard_24 : decode cX7_shortestWard 24 = .ok (.if_icmp .ne 7, 3) := by decide +kernel
theorem dX7_shortestWard_27 : decode cX7_shortestWard 27 = .ok (.iconst 1, 1) := by decide +kernel
theorem dX7_shortestWard_28 : decode cX7_shortestWard 28 = .ok (.goto 14, 3) := by decide +kernel
theorem dX7_shortestWard_31 : decode cX7_shortestWard 31 = .ok (.aload_n 0, 1) := by decide +kernel
theorem dX7_shortestWard_32 : decode cX7_shortestWard 32 = .ok (.iload_n 3, 1) := by decide +kernel
theorem dX7_shortestWard_33 : decode cX7_shortestWard 33 = .ok (.invokevirtual 143, 3) := by decide +kernel
theorem dX7_shortestWard_36 : decode cX7_shortestWard 36 = .ok (.aload_n 0, 1) := by decide +kernel
theorem dX7_shortestWard_37 : decode cX7_shortestWard 37 = .ok (.iload_n 1, 1) := by decide +kernel
theorem dX7_shortestWard_38 : decode cX7_shortestWard 38 = .ok (.invokevirtual 143, 3) := by decide +kernel
theorem dX7_shortestWard_41 : decode cX7_shortestWard 41 = .ok (.isub, 1) := by decide +kernel
theorem dX7_shortestWard_42 : decode cX7_shortestWard 42 = .ok (.istore 4, 2) := by decide +kernel
theorem dX7_shortestWard_44 : decode cX7_shortestWard 44 = .ok (.iload 4, 2) := by decide +kernel
theorem dX7_shortestWard_46 : decode cX7_shortestWard 46 = .ok (.ifCond .gt 13, 3) := by decide +kernel
theorem dX7_shortestWard_49 : decode cX7_shortestWard 49 = .ok (.iload 4, 2) := by decide +kernel
theorem dX7_shortestWard_51 : decode cX7_shortestWard 51 = .ok (.ifCond .ne 10, 3) := by decide +kernel
theorem dX7_shortestWard_54 : decode cX7_shortestWard 54 = .ok (.iload_n 3, 1) := by decide +kernel
theorem dX7_shortestWard_55 : decode cX7_shortestWard 55 = .ok (.iload_n 1, 1) := by decide +kernel
theorem dX7_shortestWard_56 : decode cX7_shortestWard 56 = .ok (.if_icmp .ge 5, 3) := by decide +kernel
theorem dX7_shortestWard_59 : decode cX7_shortestWard 59 = .ok (.iload_n 3, 1) := by decide +kernel
theorem dX7_shortestWard_60 : decode cX7_shortestWard 60 = .ok (.istore_n 1, 1) := by decide +kernel
theorem dX7_shortestWard_61 : decode cX7_shortestWard 61 = .ok (.iinc 2 1, 3) := by decide +kernel
theorem dX7_shortestWard_64 : decode cX7_shortestWard 64 = .ok (.goto (-60), 3) := by decide +kernel
theorem dX7_shortestWard_67 : decode cX7_shortestWard 67 = .ok (.iload_n 1, 1) := by decide +kernel
theorem dX7_shortestWard_68 : decode cX7_shortestWard 68 = .ok (.ireturn, 1) := by decide +kernel
theorem dX7_homesThatFit_0 : decode cX7_homesThatFit 0 = .ok (.iconst 0, 1) := by decide +kernel
theorem dX7_homesThatFit_1 : decode cX7_homesThatFit 1 = .ok (.istore 4, 2) := by decide +kernel
theorem dX7_homesThatFit_3 : decode cX7_homesThatFit 3 = .ok (.iconst 0, 1) := by decide +kernel
theorem dX7_homesThatFit_4 : decode cX7_homesThatFit 4 = .ok (.istore 5, 2) := by decide +kernel
theorem dX7_homesThatFit_6 : decode cX7_homesThatFit 6 = .ok (.iload 5, 2) := by decide +kernel
theorem dX7_homesThatFit_8 : decode cX7_homesThatFit 8 = .ok (.aload_n 0, 1) := by decide +kernel
theorem dX7_homesThatFit_9 : decode cX7_homesThatFit 9 = .ok (.getfield 59, 3) := by decide +kernel
theorem dX7_homesThatFit_12 : decode cX7_homesThatFit 12 = .ok (.if_icmp .ge 74, 3) := by decide +kernel
theorem dX7_homesThatFit_15 : decode cX7_homesThatFit 15 = .ok (.aload_n 0, 1) := by decide +kernel
theorem dX7_homesThatFit_16 : decode cX7_homesThatFit 16 = .ok (.getfield 11, 3) := by decide +kernel
theorem dX7_homesThatFit_19 : decode cX7_homesThatFit 19 = .ok (.iload 5, 2) := by decide +kernel
theorem dX7_homesThatFit_21 : decode cX7_homesThatFit 21 = .ok (.aaload, 1) := by decide +kernel
theorem dX7_homesThatFit_22 : decode cX7_homesThatFit 22 = .ok (.astore 6, 2) := by decide +kernel
theorem dX7_homesThatFit_24 : decode cX7_homesThatFit 24 = .ok (.iload_n 2, 1) := by decide +kernel
theorem dX7_homesThatFit_25 : decode cX7_homesThatFit 25 = .ok (.ifCond .eq 11, 3) := by decide +kernel
theorem dX7_homesThatFit_28 : decode cX7_homesThatFit 28 = .ok (.aload 6, 2) := by decide +kernel
theorem dX7_homesThatFit_30 : decode cX7_homesThatFit 30 = .ok (.invokevirtual 95, 3) := by decide +kernel
theorem dX7_homesThatFit_33 : decode cX7_homesThatFit 33 = .ok (.ifCond .eq 20, 3) := by decide +kernel
theorem dX7_homesThatFit_36 : decode cX7_homesThatFit 36 = .ok (.iload_n 3, 1) := by decide +kernel
theorem dX7_homesThatFit_37 : decode cX7_homesThatFit 37 = .ok (.ifCond .eq 12, 3) := by decide +kernel
theorem dX7_homesThatFit_40 : decode cX7_homesThatFit 40 = .ok (.aload_n 1, 1) := by decide +kernel
theorem dX7_homesThatFit_41 : decode cX7_homesThatFit 41 = .ok (.aload 6, 2) := by decide +kernel
theorem dX7_homesThatFit_43 : decode cX7_homesThatFit 43 = .ok (.invokevirtual 146, 3) := by decide +kernel
theorem dX7_homesThatFit_46 : decode cX7_homesThatFit 46 = .ok (.ifCond .eq 7, 3) := by decide +kernel
theorem dX7_homesThatFit_49 : decode cX7_homesThatFit 49 = .ok (.iconst 1, 1) := by decide +kernel
theorem dX7_homesThatFit_50 : decode cX7_homesThatFit 50 = .ok (.goto 4, 3) := by decide +kernel
theorem dX7_homesThatFit_53 : decode cX7_homesThatFit 53 = .ok (.iconst 0, 1) := by decide +kernel
theorem dX7_homesThatFit_54 : decode cX7_homesThatFit 54 = .ok (.istore 7, 2) := by decide +kernel
theorem dX7_homesThatFit_56 : decode cX7_homesThatFit 56 = .ok (.iload 7, 2) := by decide +kernel
theorem dX7_homesThatFit_58 : decode cX7_homesThatFit 58 = .ok (.ifCond .eq 22, 3) := by decide +kernel
theorem dX7_homesThatFit_61 : decode cX7_homesThatFit 61 = .ok (.aload_n 1, 1) := by decide +kernel
theorem dX7_homesThatFit_62 : decode cX7_homesThatFit 62 = .ok (.aload 6, 2) := by decide +kernel
theorem dX7_homesThatFit_64 : decode cX7_homesThatFit 64 = .ok (.invokevirtual 150, 3) := by decide +kernel
theorem dX7_homesThatFit_67 : decode cX7_homesThatFit 67 = .ok (.ifCond .eq 13, 3) := by decide +kernel
theorem dX7_homesThatFit_70 : decode cX7_homesThatFit 70 = .ok (.iload 4, 2) := by decide +kernel
theorem dX7_homesThatFit_72 : decode cX7_homesThatFit 72 = .ok (.aload 6, 2) := by decide +kernel
theorem dX7_homesThatFit_74 : decode cX7_homesThatFit 74 = .ok (.getfield 153, 3) := by decide +kernel
theorem dX7_homesThatFit_77 : decode cX7_homesThatFit 77 = .ok (.ior, 1) := by decide +kernel
theorem dX7_homesThatFit_78 : decode cX7_homesThatFit 78 = .ok (.istore 4, 2) := by decide +kernel
theorem dX7_homesThatFit_80 : decode cX7_homesThatFit 80 = .ok (.iinc 5 1, 3) := by decide +kernel
theorem dX7_homesThatFit_83 : decode cX7_homesThatFit 83 = .ok (.goto (-77), 3) := by decide +kernel
theorem dX7_homesThatFit_86 : decode cX7_homesThatFit 86 = .ok (.iload 4, 2) := by decide +kernel
theorem dX7_homesThatFit_88 : decode cX7_homesThatFit 88 = .ok (.ireturn, 1) := by decide +kernel
theorem dX7_waited_0 : decode cX7_waited 0 = .ok (.sipush 1000, 3) := by decide +kernel
theorem dX7_waited_3 : decode cX7_waited 3 = .ok (.bipush 7, 2) := by decide +kernel
theorem dX7_waited_5 : decode cX7_waited 5 = .ok (.aload_n 0, 1) := by decide +kernel
theorem dX7_waited_6 : decode cX7_waited 6 = .ok (.getfield 65, 3) := by decide +kernel
theorem dX7_waited_9 : decode cX7_waited 9 = .ok (.imul, 1) := by decide +kernel
theorem dX7_waited_10 : decode cX7_waited 10 = .ok (.iadd, 1) := by decide +kernel
theorem dX7_waited_11 : decode cX7_waited 11 = .ok (.aload_n 1, 1) := by decide +kernel
theorem dX7_waited_12 : decode cX7_waited 12 = .ok (.getfield 154, 3) := by decide +kernel
theorem dX7_waited_15 : decode cX7_waited 15 = .ok (.isub, 1) := by decide +kernel
theorem dX7_waited_16 : decode cX7_waited 16 = .ok (.ireturn, 1) := by decide +kernel
theorem dX7_bandNow_0 : decode cX7_bandNow 0 = .ok (.aload_n 0, 1) := by decide +kernel
theorem dX7_bandNow_1 : decode cX7_bandNow 1 = .ok (.getfield 27, 3) := by decide +kernel
theorem dX7_bandNow_4 : decode cX7_bandNow 4 = .ok (.iconst 4, 1) := by decide +kernel
theorem dX7_bandNow_5 : decode cX7_bandNow 5 = .ok (.iaload, 1) := by decide +kernel
theorem dX7_bandNow_6 : decode cX7_bandNow 6 = .ok (.istore_n 2, 1) := by decide +kernel
theorem dX7_bandNow_7 : decode cX7_bandNow 7 = .ok (.iload_n 2, 1) := by decide +kernel
theorem dX7_bandNow_8 : decode cX7_bandNow 8 = .ok (.iconst 1, 1) := by decide +kernel
theorem dX7_bandNow_9 : decode cX7_bandNow 9 = .ok (.if_icmp .ge 7, 3) := by decide +kernel
theorem dX7_bandNow_12 : decode cX7_bandNow 12 = .ok (.iconst 0, 1) := by decide +kernel
theorem dX7_bandNow_13 : decode cX7_bandNow 13 = .ok (.goto 10, 3) := by decide +kernel
theorem dX7_bandNow_16 : decode cX7_bandNow 16 = .ok (.aload_n 0, 1) := by decide +kernel
theorem dX7_bandNow_17 : decode cX7_bandNow 17 = .ok (.aload_n 1, 1) := by decide +kernel
theorem dX7_bandNow_18 : decode cX7_bandNow 18 = .ok (.invokevirtual 157, 3) := by decide +kernel
theorem dX7_bandNow_21 : decode cX7_bandNow 21 = .ok (.iload_n 2, 1) := by decide +kernel
theorem dX7_bandNow_22 : decode cX7_bandNow 22 = .ok (.idiv, 1) := by decide +kernel
theorem dX7_bandNow_23 : decode cX7_bandNow 23 = .ok (.istore_n 3, 1) := by decide +kernel
theorem dX7_bandNow_24 : decode cX7_bandNow 24 = .ok (.iconst 1, 1) := by decide +kernel
theorem dX7_bandNow_25 : decode cX7_bandNow 25 = .ok (.aload_n 1, 1) := by decide +kernel
theorem dX7_bandNow_26 : decode cX7_bandNow 26 = .ok (.getfield 161, 3) := by decide +kernel
theorem dX7_bandNow_29 : decode cX7_bandNow 29 = .ok (.iload_n 3, 1) := by decide +kernel
theorem dX7_bandNow_30 : decode cX7_bandNow 30 = .ok (.isub, 1) := by decide +kernel
theorem dX7_bandNow_31 : decode cX7_bandNow 31 = .ok (.invokestatic 126, 3) := by decide +kernel
theorem dX7_bandNow_34 : decode cX7_bandNow 34 = .ok (.ireturn, 1) := by decide +kernel
theorem dX7_biddersFor_0 : decode cX7_biddersFor 0 = .ok (.iconst 0, 1) := by decide +kernel
theorem dX7_biddersFor_1 : decode cX7_biddersFor 1 = .ok (.istore_n 2, 1) := by decide +kernel
theorem dX7_biddersFor_2 : decode cX7_biddersFor 2 = .ok (.iconst 0, 1) := by decide +kernel
theorem dX7_biddersFor_3 : decode cX7_biddersFor 3 = .ok (.istore_n 3, 1) := by decide +kernel
theorem dX7_biddersFor_4 : decode cX7_biddersFor 4 = .ok (.iload_n 3, 1) := by decide +kernel
theorem dX7_biddersFor_5 : decode cX7_biddersFor 5 = .ok (.aload_n 0, 1) := by decide +kernel
theorem dX7_biddersFor_6 : decode cX7_biddersFor 6 = .ok (.getfield 62, 3) := by decide +kernel
theorem dX7_biddersFor_9 : decode cX7_biddersFor 9 = .ok (.if_icmp .ge 46, 3) := by decide +kernel
theorem dX7_biddersFor_12 : decode cX7_biddersFor 12 = .ok (.aload_n 0, 1) := by decide +kernel
theorem dX7_biddersFor_13 : decode cX7_biddersFor 13 = .ok (.getfield 22, 3) := by decide +kernel
theorem dX7_biddersFor_16 : decode cX7_biddersFor 16 = .ok (.iload_n 3, 1) := by decide +kernel
theorem dX7_biddersFor_17 : decode cX7_biddersFor 17 = .ok (.aaload, 1) := by decide +kernel
theorem dX7_biddersFor_18 : decode cX7_biddersFor 18 = .ok (.aload_n 1, 1) := by decide +kernel
theorem dX7_biddersFor_19 : decode cX7_biddersFor 19 = .ok (.invokevirtual 164, 3) := by decide +kernel
theorem dX7_biddersFor_22 : decode cX7_biddersFor 22 = .ok (.ifCond .eq 27, 3) := by decide +kernel
theorem dX7_biddersFor_25 : decode cX7_biddersFor 25 = .ok (.aload_n 0, 1) := by decide +kernel
theorem dX7_biddersFor_26 : decode cX7_biddersFor 26 = .ok (.getfield 22, 3) := by decide +kernel
theorem dX7_biddersFor_29 : decode cX7_biddersFor 29 = .ok (.iload_n 3, 1) := by decide +kernel
theorem dX7_biddersFor_30 : decode cX7_biddersFor 30 = .ok (.aaload, 1) := by decide +kernel
theorem dX7_biddersFor_31 : decode cX7_biddersFor 31 = .ok (.invokevirtual 167, 3) := by decide +kernel
theorem dX7_biddersFor_34 : decode cX7_biddersFor 34 = .ok (.ifCond .eq 15, 3) := by decide +kernel
theorem dX7_biddersFor_37 : decode cX7_biddersFor 37 = .ok (.iload_n 2, 1) := by decide +kernel
theorem dX7_biddersFor_38 : decode cX7_biddersFor 38 = .ok (.aload_n 0, 1) := by decide +kernel
theorem dX7_biddersFor_39 : decode cX7_biddersFor 39 = .ok (.getfield 22, 3) := by decide +kernel
theorem dX7_biddersFor_42 : decode cX7_biddersFor 42 = .ok (.iload_n 3, 1) := by decide +kernel
theorem dX7_biddersFor_43 : decode cX7_biddersFor 43 = .ok (.aaload, 1) := by decide +kernel
theorem dX7_biddersFor_44 : decode cX7_biddersFor 44 = .ok (.getfield 103, 3) := by decide +kernel
theorem dX7_biddersFor_47 : decode cX7_biddersFor 47 = .ok (.ior, 1) := by decide +kernel
theorem dX7_biddersFor_48 : decode cX7_biddersFor 48 = .ok (.istore_n 2, 1) := by decide +kernel
theorem dX7_biddersFor_49 : decode cX7_biddersFor 49 = .ok (.iinc 3 1, 3) := by decide +kernel
theorem dX7_biddersFor_52 : decode cX7_biddersFor 52 = .ok (.goto (-48), 3) := by decide +kernel
theorem dX7_biddersFor_55 : decode cX7_biddersFor 55 = .ok (.iload_n 2, 1) := by decide +kernel
theorem dX7_biddersFor_56 : decode cX7_biddersFor 56 = .ok (.ireturn, 1) := by decide +kernel
theorem dX7_ableFor_0 : decode cX7_ableFor 0 = .ok (.iconst 0, 1) := by decide +kernel
theorem dX7_ableFor_1 : decode cX7_ableFor 1 = .ok (.istore_n 2, 1) := by decide +kernel
theorem dX7_ableFor_2 : decode cX7_ableFor 2 = .ok (.iconst 0, 1) := by decide +kernel
theorem dX7_ableFor_3 : decode cX7_ableFor 3 = .ok (.istore_n 3, 1) := by decide +kernel
theorem dX7_ableFor_4 : decode cX7_ableFor 4 = .ok (.iload_n 3, 1) := by decide +kernel
theorem dX7_ableFor_5 : decode cX7_ableFor 5 = .ok (.aload_n 0, 1) := by decide +kernel
theorem dX7_ableFor_6 : decode cX7_ableFor 6 = .ok (.getfield 62, 3) := by decide +kernel
theorem dX7_ableFor_9 : decode cX7_ableFor 9 = .ok (.if_icmp .ge 46, 3) := by decide +kernel
theorem dX7_ableFor_12 : decode cX7_ableFor 12 = .ok (.aload_n 0, 1) := by decide +kernel
theorem dX7_ableFor_13 : decode cX7_ableFor 13 = .ok (.getfield 22, 3) := by decide +kernel
theorem dX7_ableFor_16 : decode cX7_ableFor 16 = .ok (.iload_n 3, 1) := by decide +kernel
theorem dX7_ableFor_17 : decode cX7_ableFor 17 = .ok (.aaload, 1) := by decide +kernel
theorem dX7_ableFor_18 : decode cX7_ableFor 18 = .ok (.invokevirtual 167, 3) := by decide +kernel
theorem dX7_ableFor_21 : decode cX7_ableFor 21 = .ok (.ifCond .eq 28, 3) := by decide +kernel
theorem dX7_ableFor_24 : decode cX7_ableFor 24 = .ok (.aload_n 0, 1) := by decide +kernel
theorem dX7_ableFor_25 : decode cX7_ableFor 25 = .ok (.getfield 22, 3) := by decide +kernel
theorem dX7_ableFor_28 : decode cX7_ableFor 28 = .ok (.iload_n 3, 1) := by decide +kernel
theorem dX7_ableFor_29 : decode cX7_ableFor 29 = .ok (.aaload, 1) := by decide +kernel
theorem dX7_ableFor_30 : decode cX7_ableFor 30 = .ok (.aload_n 1, 1) := by decide +kernel
theorem dX7_ableFor_31 : decode cX7_ableFor 31 = .ok (.invokevirtual 150, 3) := by decide +kernel
theorem dX7_ableFor_34 : decode cX7_ableFor 34 = .ok (.ifCond .eq 15, 3) := by decide +kernel
theorem dX7_ableFor_37 : decode cX7_ableFor 37 = .ok (.iload_n 2, 1) := by decide +kernel
theorem dX7_ableFor_38 : decode cX7_ableFor 38 = .ok (.aload_n 0, 1) := by decide +kernel
theorem dX7_ableFor_39 : decode cX7_ableFor 39 = .ok (.getfield 22, 3) := by decide +kernel
theorem dX7_ableFor_42 : decode cX7_ableFor 42 = .ok (.iload_n 3, 1) := by decide +kernel
theorem dX7_ableFor_43 : decode cX7_ableFor 43 = .ok (.aaload, 1) := by decide +kernel
theorem dX7_ableFor_44 : decode cX7_ableFor 44 = .ok (.getfield 103, 3) := by decide +kernel
theorem dX7_ableFor_47 : decode cX7_ableFor 47 = .ok (.ior, 1) := by decide +kernel
theorem dX7_ableFor_48 : decode cX7_ableFor 48 = .ok (.istore_n 2, 1) := by decide +kernel
theorem dX7_ableFor_49 : decode cX7_ableFor 49 = .ok (.iinc 3 1, 3) := by decide +kernel
theorem dX7_ableFor_52 : decode cX7_ableFor 52 = .ok (.goto (-48), 3) := by decide +kernel
theorem dX7_ableFor_55 : decode cX7_ableFor 55 = .ok (.iload_n 2, 1) := by decide +kernel
theorem dX7_ableFor_56 : decode cX7_ableFor 56 = .ok (.ireturn, 1) := by decide +kernel
theorem dX7_takersOf_0 : decode cX7_takersOf 0 = .ok (.iconst 0, 1) := by decide +kernel
theorem dX7_takersOf_1 : decode cX7_takersOf 1 = .ok (.istore_n 2, 1) := by decide +kernel
theorem dX7_takersOf_2 : decode cX7_takersOf 2 = .ok (.iconst 0, 1) := by decide +kernel
theorem dX7_takersOf_3 : decode cX7_takersOf 3 = .ok (.istore_n 3, 1) := by decide +kernel
theorem dX7_takersOf_4 : decode cX7_takersOf 4 = .ok (.iload_n 3, 1) := by decide +kernel
theorem dX7_takersOf_5 : decode cX7_takersOf 5 = .ok (.aload_n 0, 1) := by decide +kernel
theorem dX7_takersOf_6 : decode cX7_takersOf 6 = .ok (.getfield 62, 3) := by decide +kernel
theorem dX7_takersOf_9 : decode cX7_takersOf 9 = .ok (.if_icmp .ge 34, 3) := by decide +kernel
theorem dX7_takersOf_12 : decode cX7_takersOf 12 = .ok (.aload_n 0, 1) := by decide +kernel
theorem dX7_takersOf_13 : decode cX7_takersOf 13 = .ok (.getfield 22, 3) := by decide +kernel
theorem dX7_takersOf_16 : decode cX7_takersOf 16 = .ok (.iload_n 3, 1) := by decide +kernel
theorem dX7_takersOf_17 : decode cX7_takersOf 17 = .ok (.aaload, 1) := by decide +kernel
theorem dX7_takersOf_18 : decode cX7_takersOf 18 = .ok (.aload_n 1, 1) := by decide +kernel
theorem dX7_takersOf_19 : decode cX7_takersOf 19 = .ok (.invokevirtual 170, 3) := by decide +kernel
theorem dX7_takersOf_22 : decode cX7_takersOf 22 = .ok (.ifCond .eq 15, 3) := by decide +kernel
theorem dX7_takersOf_25 : decode cX7_takersOf 25 = .ok (.iload_n 2, 1) := by decide +kernel
theorem dX7_takersOf_26 : decode cX7_takersOf 26 = .ok (.aload_n 0, 1) := by decide +kernel
theorem dX7_takersOf_27 : decode cX7_takersOf 27 = .ok (.getfield 22, 3) := by decide +kernel
theorem dX7_takersOf_30 : decode cX7_takersOf 30 = .ok (.iload_n 3, 1) := by decide +kernel
theorem dX7_takersOf_31 : decode cX7_takersOf 31 = .ok (.aaload, 1) := by decide +kernel
theorem dX7_takersOf_32 : decode cX7_takersOf 32 = .ok (.getfield 103, 3) := by decide +kernel
theorem dX7_takersOf_35 : decode cX7_takersOf 35 = .ok (.ior, 1) := by decide +kernel
theorem dX7_takersOf_36 : decode cX7_takersOf 36 = .ok (.istore_n 2, 1) := by decide +kernel
theorem dX7_takersOf_37 : decode cX7_takersOf 37 = .ok (.iinc 3 1, 3) := by decide +kernel
theorem dX7_takersOf_40 : decode cX7_takersOf 40 = .ok (.goto (-36), 3) := by decide +kernel
theorem dX7_takersOf_43 : decode cX7_takersOf 43 = .ok (.iload_n 2, 1) := by decide +kernel
theorem dX7_takersOf_44 : decode cX7_takersOf 44 = .ok (.ireturn, 1) := by decide +kernel
theorem dX7_turnsAt_0 : decode cX7_turnsAt 0 = .ok (.iconst 0, 1) := by decide +kernel
theorem dX7_turnsAt_1 : decode cX7_turnsAt 1 = .ok (.istore_n 2, 1) := by decide +kernel
theorem dX7_turnsAt_2 : decode cX7_turnsAt 2 = .ok (.aload_n 0, 1) := by decide +kernel
theorem dX7_turnsAt_3 : decode cX7_turnsAt 3 = .ok (.getfield 27, 3) := by decide +kernel
theorem dX7_turnsAt_6 : decode cX7_turnsAt 6 = .ok (.iconst 2, 1) := by decide +kernel
theorem dX7_turnsAt_7 : decode cX7_turnsAt 7 = .ok (.iaload, 1) := by decide +kernel
theorem dX7_turnsAt_8 : decode cX7_turnsAt 8 = .ok (.istore_n 3, 1) := by decide +kernel
theorem dX7_turnsAt_9 : decode cX7_turnsAt 9 = .ok (.iload_n 3, 1) := by decide +kernel
theorem dX7_turnsAt_10 : decode cX7_turnsAt 10 = .ok (.ifCond .le 27, 3) := by decide +kernel
theorem dX7_turnsAt_13 : decode cX7_turnsAt 13 = .ok (.aload_n 0, 1) := by decide +kernel
theorem dX7_turnsAt_14 : decode cX7_turnsAt 14 = .ok (.getfield 36, 3) := by decide +kernel
theorem dX7_turnsAt_17 : decode cX7_turnsAt 17 = .ok (.bipush 10, 2) := by decide +kernel
theorem dX7_turnsAt_19 : decode cX7_turnsAt 19 = .ok (.aload_n 1, 1) := by decide +kernel
theorem dX7_turnsAt_20 : decode cX7_turnsAt 20 = .ok (.getfield 140, 3) := by decide +kernel
theorem dX7_turnsAt_23 : decode cX7_turnsAt 23 = .ok (.invokevirtual 173, 3) := by decide +kernel
theorem dX7_turnsAt_26 : decode cX7_turnsAt 26 = .ok (.iconst 1, 1) := by decide +kernel
theorem dX7_turnsAt_27 : decode cX7_turnsAt 27 = .ok (.iadd, 1) := by decide +kernel
theorem dX7_turnsAt_28 : decode cX7_turnsAt 28 = .ok (.iload_n 3, 1) := by decide +kernel
theorem dX7_turnsAt_29 : decode cX7_turnsAt 29 = .ok (.irem, 1) := by decide +kernel
theorem dX7_turnsAt_30 : decode cX7_turnsAt 30 = .ok (.ifCond .ne 7, 3) := by decide +kernel
theorem dX7_turnsAt_33 : decode cX7_turnsAt 33 = .ok (.iload_n 2, 1) := by decide +kernel
theorem dX7_turnsAt_34 : decode cX7_turnsAt 34 = .ok (.iconst 1, 1) := by decide +kernel
theorem dX7_turnsAt_35 : decode cX7_turnsAt 35 = .ok (.ior, 1) := by decide +kernel
theorem dX7_turnsAt_36 : decode cX7_turnsAt 36 = .ok (.istore_n 2, 1) := by decide +kernel
theorem dX7_turnsAt_37 : decode cX7_turnsAt 37 = .ok (.bipush 100, 2) := by decide +kernel
theorem dX7_turnsAt_39 : decode cX7_turnsAt 39 = .ok (.aload_n 0, 1) := by decide +kernel
theorem dX7_turnsAt_40 : decode cX7_turnsAt 40 = .ok (.getfield 36, 3) := by decide +kernel
theorem dX7_turnsAt_43 : decode cX7_turnsAt 43 = .ok (.bipush 8, 2) := by decide +kernel
theorem dX7_turnsAt_45 : decode cX7_turnsAt 45 = .ok (.iconst 1, 1) := by decide +kernel
theorem dX7_turnsAt_46 : decode cX7_turnsAt 46 = .ok (.invokevirtual 173, 3) := by decide +kernel
theorem dX7_turnsAt_49 : decode cX7_turnsAt 49 = .ok (.imul, 1) := by decide +kernel
theorem dX7_turnsAt_50 : decode cX7_turnsAt 50 = .ok (.aload_n 0, 1) := by decide +kernel
theorem dX7_turnsAt_51 : decode cX7_turnsAt 51 = .ok (.getfield 27, 3) := by decide +kernel
theorem dX7_turnsAt_54 : decode cX7_turnsAt 54 = .ok (.iconst 3, 1) := by decide +kernel
theorem dX7_turnsAt_55 : decode cX7_turnsAt 55 = .ok (.iaload, 1) := by decide +kernel
theorem dX7_turnsAt_56 : decode cX7_turnsAt 56 = .ok (.aload_n 0, 1) := by decide +kernel
theorem dX7_turnsAt_57 : decode cX7_turnsAt 57 = .ok (.getfield 36, 3) := by decide +kernel
theorem dX7_turnsAt_60 : decode cX7_turnsAt 60 = .ok (.getfield 55, 3) := by decide +kernel
theorem dX7_turnsAt_63 : decode cX7_turnsAt 63 = .ok (.imul, 1) := by decide +kernel
theorem dX7_turnsAt_64 : decode cX7_turnsAt 64 = .ok (.if_icmp .ge 7, 3) := by decide +kernel
theorem dX7_turnsAt_67 : decode cX7_turnsAt 67 = .ok (.iload_n 2, 1) := by decide +kernel
theorem dX7_turnsAt_68 : decode cX7_turnsAt 68 = .ok (.iconst 2, 1) := by decide +kernel
theorem dX7_turnsAt_69 : decode cX7_turnsAt 69 = .ok (.ior, 1) := by decide +kernel
theorem dX7_turnsAt_70 : decode cX7_turnsAt 70 = .ok (.istore_n 2, 1) := by decide +kernel
theorem dX7_turnsAt_71 : decode cX7_turnsAt 71 = .ok (.iload_n 2, 1) := by decide +kernel
theorem dX7_turnsAt_72 : decode cX7_turnsAt 72 = .ok (.ireturn, 1) := by decide +kernel
theorem dX7_rank_0 : decode cX7_rank 0 = .ok (.aload_n 2, 1) := by decide +kernel
theorem dX7_rank_1 : decode cX7_rank 1 = .ok (.ifnull 13, 3) := by decide +kernel
theorem dX7_rank_4 : decode cX7_rank 4 = .ok (.iload_n 3, 1) := by decide +kernel
theorem dX7_rank_5 : decode cX7_rank 5 = .ok (.iconst 1, 1) := by decide +kernel
theorem dX7_rank_6 : decode cX7_rank 6 = .ok (.iand, 1) := by decide +kernel
theorem dX7_rank_7 : decode cX7_rank 7 = .ok (.ifCond .eq 7, 3) := by decide +kernel
theorem dX7_rank_10 : decode cX7_rank 10 = .ok (.iconst 1, 1) := by decide +kernel
theorem dX7_rank_11 : decode cX7_rank 11 = .ok (.goto 4, 3) := by decide +kernel
theorem dX7_rank_14 : decode cX7_rank 14 = .ok (.iconst 0, 1) := by decide +kernel
theorem dX7_rank_15 : decode cX7_rank 15 = .ok (.istore 5, 2) := by decide +kernel
theorem dX7_rank_17 : decode cX7_rank 17 = .ok (.iload 5, 2) := by decide +kernel
theorem dX7_rank_19 : decode cX7_rank 19 = .ok (.ifCond .eq 18, 3) := by decide +kernel
theorem dX7_rank_22 : decode cX7_rank 22 = .ok (.aload_n 1, 1) := by decide +kernel
theorem dX7_rank_23 : decode cX7_rank 23 = .ok (.getfield 137, 3) := by decide +kernel
theorem dX7_rank_26 : decode cX7_rank 26 = .ok (.aload_n 2, 1) := by decide +kernel
theorem dX7_rank_27 : decode cX7_rank 27 = .ok (.getfield 140, 3) := by decide +kernel
theorem dX7_rank_30 : decode cX7_rank 30 = .ok (.if_icmp .eq 7, 3) := by decide +kernel
theorem dX7_rank_33 : decode cX7_rank 33 = .ok (.iconst 1, 1) := by decide +kernel
theorem dX7_rank_34 : decode cX7_rank 34 = .ok (.goto 4, 3) := by decide +kernel
theorem dX7_rank_37 : decode cX7_rank 37 = .ok (.iconst 0, 1) := by decide +kernel
theorem dX7_rank_38 : decode cX7_rank 38 = .ok (.istore 6, 2) := by decide +kernel
theorem dX7_rank_40 : decode cX7_rank 40 = .ok (.iload_n 3, 1) := by decide +kernel
theorem dX7_rank_41 : decode cX7_rank 41 = .ok (.iconst 2, 1) := by decide +kernel
theorem dX7_rank_42 : decode cX7_rank 42 = .ok (.iand, 1) := by decide +kernel
theorem dX7_rank_43 : decode cX7_rank 43 = .ok (.ifCond .eq 15, 3) := by decide +kernel
theorem dX7_rank_46 : decode cX7_rank 46 = .ok (.aload_n 1, 1) := by decide +kernel
theorem dX7_rank_47 : decode cX7_rank 47 = .ok (.getfield 176, 3) := by decide +kernel
theorem dX7_rank_50 : decode cX7_rank 50 = .ok (.iconst (-1), 1) := by decide +kernel
theorem dX7_rank_51 : decode cX7_rank 51 = .ok (.if_icmp .ne 7, 3) := by decide +kernel
theorem dX7_rank_54 : decode cX7_rank 54 = .ok (.iconst 1, 1) := by decide +kernel
theorem dX7_rank_55 : decode cX7_rank 55 = .ok (.goto 4, 3) := by decide +kernel
theorem dX7_rank_58 : decode cX7_rank 58 = .ok (.iconst 0, 1) := by decide +kernel
theorem dX7_rank_59 : decode cX7_rank 59 = .ok (.istore 7, 2) := by decide +kernel
theorem dX7_rank_61 : decode cX7_rank 61 = .ok (.iload 6, 2) := by decide +kernel
theorem dX7_rank_63 : decode cX7_rank 63 = .ok (.iconst 2, 1) := by decide +kernel
theorem dX7_rank_64 : decode cX7_rank 64 = .ok (.imul, 1) := by decide +kernel
theorem dX7_rank_65 : decode cX7_rank 65 = .ok (.iload 7, 2) := by decide +kernel
theorem dX7_rank_67 : decode cX7_rank 67 = .ok (.iadd, 1) := by decide +kernel
theorem dX7_rank_68 : decode cX7_rank 68 = .ok (.bipush 8, 2) := by decide +kernel
theorem dX7_rank_70 : decode cX7_rank 70 = .ok (.imul, 1) := by decide +kernel
theorem dX7_rank_71 : decode cX7_rank 71 = .ok (.iload 4, 2) := by decide +kernel
theorem dX7_rank_73 : decode cX7_rank 73 = .ok (.iadd, 1) := by decide +kernel
theorem dX7_rank_74 : decode cX7_rank 74 = .ok (.sipush 1000, 3) := by decide +kernel
theorem dX7_rank_77 : decode cX7_rank 77 = .ok (.imul, 1) := by decide +kernel
theorem dX7_rank_78 : decode cX7_rank 78 = .ok (.aload_n 1, 1) := by decide +kernel
theorem dX7_rank_79 : decode cX7_rank 79 = .ok (.getfield 154, 3) := by decide +kernel
theorem dX7_rank_82 : decode cX7_rank 82 = .ok (.iadd, 1) := by decide +kernel
theorem dX7_rank_83 : decode cX7_rank 83 = .ok (.bipush 8, 2) := by decide +kernel
theorem dX7_rank_85 : decode cX7_rank 85 = .ok (.imul, 1) := by decide +kernel
theorem dX7_rank_86 : decode cX7_rank 86 = .ok (.aload_n 1, 1) := by decide +kernel
theorem dX7_rank_87 : decode cX7_rank 87 = .ok (.getfield 179, 3) := by decide +kernel
theorem dX7_rank_90 : decode cX7_rank 90 = .ok (.iadd, 1) := by decide +kernel
theorem dX7_rank_91 : decode cX7_rank 91 = .ok (.ireturn, 1) := by decide +kernel
theorem dX7_firstOf_0 : decode cX7_firstOf 0 = .ok (.aconst_null, 1) := by decide +kernel
theorem dX7_firstOf_1 : decode cX7_firstOf 1 = .ok (.astore 4, 2) := by decide +kernel
theorem dX7_firstOf_3 : decode cX7_firstOf 3 = .ok (.iconst 0, 1) := by decide +kernel
theorem dX7_firstOf_4 : decode cX7_firstOf 4 = .ok (.istore 5, 2) := by decide +kernel
theorem dX7_firstOf_6 : decode cX7_firstOf 6 = .ok (.iconst 0, 1) := by decide +kernel
theorem dX7_firstOf_7 : decode cX7_firstOf 7 = .ok (.istore 6, 2) := by decide +kernel
theorem dX7_firstOf_9 : decode cX7_firstOf 9 = .ok (.iload 6, 2) := by decide +kernel
theorem dX7_firstOf_11 : decode cX7_firstOf 11 = .ok (.aload_n 0, 1) := by decide +kernel
theorem dX7_firstOf_12 : decode cX7_firstOf 12 = .ok (.getfield 62, 3) := by decide +kernel
theorem dX7_firstOf_15 : decode cX7_firstOf 15 = .ok (.if_icmp .ge 67, 3) := by decide +kernel
theorem dX7_firstOf_18 : decode cX7_firstOf 18 = .ok (.aload_n 0, 1) := by decide +kernel
theorem dX7_firstOf_19 : decode cX7_firstOf 19 = .ok (.getfield 22, 3) := by decide +kernel
theorem dX7_firstOf_22 : decode cX7_firstOf 22 = .ok (.iload 6, 2) := by decide +kernel
theorem dX7_firstOf_24 : decode cX7_firstOf 24 = .ok (.aaload, 1) := by decide +kernel
theorem dX7_firstOf_25 : decode cX7_firstOf 25 = .ok (.astore 7, 2) := by decide +kernel
theorem dX7_firstOf_27 : decode cX7_firstOf 27 = .ok (.iload_n 1, 1) := by decide +kernel
theorem dX7_firstOf_28 : decode cX7_firstOf 28 = .ok (.aload 7, 2) := by decide +kernel
theorem dX7_firstOf_30 : decode cX7_firstOf 30 = .ok (.getfield 103, 3) := by decide +kernel
theorem dX7_firstOf_33 : decode cX7_firstOf 33 = .ok (.iand, 1) := by decide +kernel
theorem dX7_firstOf_34 : decode cX7_firstOf 34 = .ok (.ifCond .ne 6, 3) := by decide +kernel
theorem dX7_firstOf_37 : decode cX7_firstOf 37 = .ok (.goto 39, 3) := by decide +kernel
theorem dX7_firstOf_40 : decode cX7_firstOf 40 = .ok (.aload_n 0, 1) := by decide +kernel
theorem dX7_firstOf_41 : decode cX7_firstOf 41 = .ok (.aload 7, 2) := by decide +kernel
theorem dX7_firstOf_43 : decode cX7_firstOf 43 = .ok (.aload_n 2, 1) := by decide +kernel
theorem dX7_firstOf_44 : decode cX7_firstOf 44 = .ok (.iload_n 3, 1) := by decide +kernel
theorem dX7_firstOf_45 : decode cX7_firstOf 45 = .ok (.aload_n 0, 1) := by decide +kernel
theorem dX7_firstOf_46 : decode cX7_firstOf 46 = .ok (.aload 7, 2) := by decide +kernel
theorem dX7_firstOf_48 : decode cX7_firstOf 48 = .ok (.invokevirtual 182, 3) := by decide +kernel
theorem dX7_firstOf_51 : decode cX7_firstOf 51 = .ok (.invokevirtual 185, 3) := by decide +kernel
theorem dX7_firstOf_54 : decode cX7_firstOf 54 = .ok (.istore 8, 2) := by decide +kernel
theorem dX7_firstOf_56 : decode cX7_firstOf 56 = .ok (.aload 4, 2) := by decide +kernel
theorem dX7_firstOf_58 : decode cX7_firstOf 58 = .ok (.ifnull 10, 3) := by decide +kernel
theorem dX7_firstOf_61 : decode cX7_firstOf 61 = .ok (.iload 8, 2) := by decide +kernel
theorem dX7_firstOf_63 : decode cX7_firstOf 63 = .ok (.iload 5, 2) := by decide +kernel
theorem dX7_firstOf_65 : decode cX7_firstOf 65 = .ok (.if_icmp .ge 11, 3) := by decide +kernel
theorem dX7_firstOf_68 : decode cX7_firstOf 68 = .ok (.aload 7, 2) := by decide +kernel
theorem dX7_firstOf_70 : decode cX7_firstOf 70 = .ok (.astore 4, 2) := by decide +kernel
theorem dX7_firstOf_72 : decode cX7_firstOf 72 = .ok (.iload 8, 2) := by decide +kernel
theorem dX7_firstOf_74 : decode cX7_firstOf 74 = .ok (.istore 5, 2) := by decide +kernel
theorem dX7_firstOf_76 : decode cX7_firstOf 76 = .ok (.iinc 6 1, 3) := by decide +kernel
theorem dX7_firstOf_79 : decode cX7_firstOf 79 = .ok (.goto (-70), 3) := by decide +kernel
theorem dX7_firstOf_82 : decode cX7_firstOf 82 = .ok (.aload 4, 2) := by decide +kernel
theorem dX7_firstOf_84 : decode cX7_firstOf 84 = .ok (.areturn, 1) := by decide +kernel
theorem dX7_kthOf_0 : decode cX7_kthOf 0 = .ok (.iload_n 1, 1) := by decide +kernel
theorem dX7_kthOf_1 : decode cX7_kthOf 1 = .ok (.istore 4, 2) := by decide +kernel
theorem dX7_kthOf_3 : decode cX7_kthOf 3 = .ok (.aload_n 2, 1) := by decide +kernel
theorem dX7_kthOf_4 : decode cX7_kthOf 4 = .ok (.ifnonnull 7, 3) := by decide +kernel
theorem dX7_kthOf_7 : decode cX7_kthOf 7 = .ok (.iconst 0, 1) := by decide +kernel
theorem dX7_kthOf_8 : decode cX7_kthOf 8 = .ok (.goto 8, 3) := by decide +kernel
theorem dX7_kthOf_11 : decode cX7_kthOf 11 = .ok (.aload_n 0, 1) := by decide +kernel
theorem dX7_kthOf_12 : decode cX7_kthOf 12 = .ok (.aload_n 2, 1) := by decide +kernel
theorem dX7_kthOf_13 : decode cX7_kthOf 13 = .ok (.invokevirtual 189, 3) := by decide +kernel
theorem dX7_kthOf_16 : decode cX7_kthOf 16 = .ok (.istore 5, 2) := by decide +kernel
theorem dX7_kthOf_18 : decode cX7_kthOf 18 = .ok (.iconst 0, 1) := by decide +kernel
theorem dX7_kthOf_19 : decode cX7_kthOf 19 = .ok (.istore 6, 2) := by decide +kernel
theorem dX7_kthOf_21 : decode cX7_kthOf 21 = .ok (.iload 6, 2) := by decide +kernel
theorem dX7_kthOf_23 : decode cX7_kthOf 23 = .ok (.aload_n 0, 1) := by decide +kernel
theorem dX7_kthOf_24 : decode cX7_kthOf 24 = .ok (.getfield 62, 3) := by decide +kernel
theorem dX7_kthOf_27 : decode cX7_kthOf 27 = .ok (.if_icmp .ge 46, 3) := by decide +kernel
theorem dX7_kthOf_30 : decode cX7_kthOf 30 = .ok (.aload_n 0, 1) := by decide +kernel
theorem dX7_kthOf_31 : decode cX7_kthOf 31 = .ok (.iload 4, 2) := by decide +kernel
theorem dX7_kthOf_33 : decode cX7_kthOf 33 = .ok (.aload_n 2, 1) := by decide +kernel
theorem dX7_kthOf_34 : decode cX7_kthOf 34 = .ok (.iload 5, 2) := by decide +kernel
theorem dX7_kthOf_36 : decode cX7_kthOf 36 = .ok (.invokevirtual 193, 3) := by decide +kernel
theorem dX7_kthOf_39 : decode cX7_kthOf 39 = .ok (.astore 7, 2) := by decide +kernel
theorem dX7_kthOf_41 : decode cX7_kthOf 41 = .ok (.aload 7, 2) := by decide +kernel
theorem dX7_kthOf_43 : decode cX7_kthOf 43 = .ok (.ifnull 9, 3) := by decide +kernel
theorem dX7_kthOf_46 : decode cX7_kthOf 46 = .ok (.iload 6, 2) := by decide +kernel
theorem dX7_kthOf_48 : decode cX7_kthOf 48 = .ok (.iload_n 3, 1) := by decide +kernel
theorem dX7_kthOf_49 : decode cX7_kthOf 49 = .ok (.if_icmp .ne 6, 3) := by decide +kernel
theorem dX7_kthOf_52 : decode cX7_kthOf 52 = .ok (.aload 7, 2) := by decide +kernel
theorem dX7_kthOf_54 : decode cX7_kthOf 54 = .ok (.areturn, 1) := by decide +kernel
theorem dX7_kthOf_55 : decode cX7_kthOf 55 = .ok (.iload 4, 2) := by decide +kernel
theorem dX7_kthOf_57 : decode cX7_kthOf 57 = .ok (.aload 7, 2) := by decide +kernel
theorem dX7_kthOf_59 : decode cX7_kthOf 59 = .ok (.getfield 103, 3) := by decide +kernel
theorem dX7_kthOf_62 : decode cX7_kthOf 62 = .ok (.iconst (-1), 1) := by decide +kernel
theorem dX7_kthOf_63 : decode cX7_kthOf 63 = .ok (.ixor, 1) := by decide +kernel
theorem dX7_kthOf_64 : decode cX7_kthOf 64 = .ok (.iand, 1) := by decide +kernel
theorem dX7_kthOf_65 : decode cX7_kthOf 65 = .ok (.istore 4, 2) := by decide +kernel
theorem dX7_kthOf_67 : decode cX7_kthOf 67 = .ok (.iinc 6 1, 3) := by decide +kernel
theorem dX7_kthOf_70 : decode cX7_kthOf 70 = .ok (.goto (-49), 3) := by decide +kernel
theorem dX7_kthOf_73 : decode cX7_kthOf 73 = .ok (.aconst_null, 1) := by decide +kernel
theorem dX7_kthOf_74 : decode cX7_kthOf 74 = .ok (.areturn, 1) := by decide +kernel
theorem dX7_countAhead_0 : decode cX7_countAhead 0 = .ok (.aload_n 0, 1) := by decide +kernel
theorem dX7_countAhead_1 : decode cX7_countAhead 1 = .ok (.aload_n 2, 1) := by decide +kernel
theorem dX7_countAhead_2 : decode cX7_countAhead 2 = .ok (.invokevirtual 189, 3) := by decide +kernel
theorem dX7_countAhead_5 : decode cX7_countAhead 5 = .ok (.istore 5, 2) := by decide +kernel
theorem dX7_countAhead_7 : decode cX7_countAhead 7 = .ok (.aload_n 0, 1) := by decide +kernel
theorem dX7_countAhead_8 : decode cX7_countAhead 8 = .ok (.aload_n 1, 1) := by decide +kernel
theorem dX7_countAhead_9 : decode cX7_countAhead 9 = .ok (.aload_n 2, 1) := by decide +kernel
theorem dX7_countAhead_10 : decode cX7_countAhead 10 = .ok (.iload 5, 2) := by decide +kernel
theorem dX7_countAhead_12 : decode cX7_countAhead 12 = .ok (.iload_n 3, 1) := by decide +kernel
theorem dX7_countAhead_13 : decode cX7_countAhead 13 = .ok (.invokevirtual 185, 3) := by decide +kernel
theorem dX7_countAhead_16 : decode cX7_countAhead 16 = .ok (.istore 6, 2) := by decide +kernel
theorem dX7_countAhead_18 : decode cX7_countAhead 18 = .ok (.iconst 0, 1) := by decide +kernel
theorem dX7_countAhead_19 : decode cX7_countAhead 19 = .ok (.istore 7, 2) := by decide +kernel
theorem dX7_countAhead_21 : decode cX7_countAhead 21 = .ok (.iconst 0, 1) := by decide +kernel
theorem dX7_countAhead_22 : decode cX7_countAhead 22 = .ok (.istore 8, 2) := by decide +kernel
theorem dX7_countAhead_24 : decode cX7_countAhead 24 = .ok (.iload 8, 2) := by decide +kernel
theorem dX7_countAhead_26 : decode cX7_countAhead 26 = .ok (.aload_n 0, 1) := by decide +kernel
theorem dX7_countAhead_27 : decode cX7_countAhead 27 = .ok (.getfield 62, 3) := by decide +kernel
theorem dX7_countAhead_30 : decode cX7_countAhead 30 = .ok (.if_icmp .ge 76, 3) := by decide +kernel
theorem dX7_countAhead_33 : decode cX7_countAhead 33 = .ok (.aload_n 0, 1) := by decide +kernel
theorem dX7_countAhead_34 : decode cX7_countAhead 34 = .ok (.getfield 22, 3) := by decide +kernel
theorem dX7_countAhead_37 : decode cX7_countAhead 37 = .ok (.iload 8, 2) := by decide +kernel
theorem dX7_countAhead_39 : decode cX7_countAhead 39 = .ok (.aaload, 1) := by decide +kernel
theorem dX7_countAhead_40 : decode cX7_countAhead 40 = .ok (.astore 9, 2) := by decide +kernel
theorem dX7_countAhead_42 : decode cX7_countAhead 42 = .ok (.aload 9, 2) := by decide +kernel
theorem dX7_countAhead_44 : decode cX7_countAhead 44 = .ok (.getfield 179, 3) := by decide +kernel
theorem dX7_countAhead_47 : decode cX7_countAhead 47 = .ok (.aload_n 1, 1) := by decide +kernel
theorem dX7_countAhead_48 : decode cX7_countAhead 48 = .ok (.getfield 179, 3) := by decide +kernel
theorem dX7_countAhead_51 : decode cX7_countAhead 51 = .ok (.if_icmp .eq 18, 3) := by decide +kernel
theorem dX7_countAhead_54 : decode cX7_countAhead 54 = .ok (.iload 4, 2) := by decide +kernel
theorem dX7_countAhead_56 : decode cX7_countAhead 56 = .ok (.aload 9, 2) := by decide +kernel
theorem dX7_countAhead_58 : decode cX7_countAhead 58 = .ok (.getfield 103, 3) := by decide +kernel
theorem dX7_countAhead_61 : decode cX7_countAhead 61 = .ok (.iand, 1) := by decide +kernel
theorem dX7_countAhead_62 : decode cX7_countAhead 62 = .ok (.ifCond .eq 7, 3) := by decide +kernel
theorem dX7_countAhead_65 : decode cX7_countAhead 65 = .ok (.iconst 1, 1) := by decide +kernel
theorem dX7_countAhead_66 : decode cX7_countAhead 66 = .ok (.goto 4, 3) := by decide +kernel
theorem dX7_countAhead_69 : decode cX7_countAhead 69 = .ok (.iconst 0, 1) := by decide +kernel
theorem dX7_countAhead_70 : decode cX7_countAhead 70 = .ok (.istore 10, 2) := by decide +kernel
theorem dX7_countAhead_72 : decode cX7_countAhead 72 = .ok (.iload 10, 2) := by decide +kernel
theorem dX7_countAhead_74 : decode cX7_countAhead 74 = .ok (.ifCond .eq 26, 3) := by decide +kernel
theorem dX7_countAhead_77 : decode cX7_countAhead 77 = .ok (.aload_n 0, 1) := by decide +kernel
theorem dX7_countAhead_78 : decode cX7_countAhead 78 = .ok (.aload 9, 2) := by decide +kernel
theorem dX7_countAhead_80 : decode cX7_countAhead 80 = .ok (.aload_n 2, 1) := by decide +kernel
theorem dX7_countAhead_81 : decode cX7_countAhead 81 = .ok (.iload 5, 2) := by decide +kernel
theorem dX7_countAhead_83 : decode cX7_countAhead 83 = .ok (.aload_n 0, 1) := by decide +kernel
theorem dX7_countAhead_84 : decode cX7_countAhead 84 = .ok (.aload 9, 2) := by decide +kernel
theorem dX7_countAhead_86 : decode cX7_countAhead 86 = .ok (.invokevirtual 182, 3) := by decide +kernel
theorem dX7_countAhead_89 : decode cX7_countAhead 89 = .ok (.invokevirtual 185, 3) := by decide +kernel
theorem dX7_countAhead_92 : decode cX7_countAhead 92 = .ok (.iload 6, 2) := by decide +kernel
theorem dX7_countAhead_94 : decode cX7_countAhead 94 = .ok (.if_icmp .ge 6, 3) := by decide +kernel
theorem dX7_countAhead_97 : decode cX7_countAhead 97 = .ok (.iinc 7 1, 3) := by decide +kernel
theorem dX7_countAhead_100 : decode cX7_countAhead 100 = .ok (.iinc 8 1, 3) := by decide +kernel
theorem dX7_countAhead_103 : decode cX7_countAhead 103 = .ok (.goto (-79), 3) := by decide +kernel
theorem dX7_countAhead_106 : decode cX7_countAhead 106 = .ok (.iload 7, 2) := by decide +kernel
theorem dX7_countAhead_108 : decode cX7_countAhead 108 = .ok (.ireturn, 1) := by decide +kernel
theorem dX7_bandsToBeFirst_0 : decode cX7_bandsToBeFirst 0 = .ok (.aload_n 0, 1) := by decide +kernel
theorem dX7_bandsToBeFirst_1 : decode cX7_bandsToBeFirst 1 = .ok (.aload_n 2, 1) := by decide +kernel
theorem dX7_bandsToBeFirst_2 : decode cX7_bandsToBeFirst 2 = .ok (.invokevirtual 197, 3) := by decide +kernel
theorem dX7_bandsToBeFirst_5 : decode cX7_bandsToBeFirst 5 = .ok (.istore_n 3, 1) := by decide +kernel
theorem dX7_bandsToBeFirst_6 : decode cX7_bandsToBeFirst 6 = .ok (.aload_n 0, 1) := by decide +kernel
theorem dX7_bandsToBeFirst_7 : decode cX7_bandsToBeFirst 7 = .ok (.aload_n 1, 1) := by decide +kernel
theorem dX7_bandsToBeFirst_8 : decode cX7_bandsToBeFirst 8 = .ok (.invokevirtual 182, 3) := by decide +kernel
theorem dX7_bandsToBeFirst_11 : decode cX7_bandsToBeFirst 11 = .ok (.istore 4, 2) := by decide +kernel
theorem dX7_bandsToBeFirst_13 : decode cX7_bandsToBeFirst 13 = .ok (.iconst 0, 1) := by decide +kernel
theorem dX7_bandsToBeFirst_14 : decode cX7_bandsToBeFirst 14 = .ok (.istore 5, 2) := by decide +kernel
theorem dX7_bandsToBeFirst_16 : decode cX7_bandsToBeFirst 16 = .ok (.iload 5, 2) := by decide +kernel
theorem dX7_bandsToBeFirst_18 : decode cX7_bandsToBeFirst 18 = .ok (.iload 4, 2) := by decide +kernel
theorem dX7_bandsToBeFirst_20 : decode cX7_bandsToBeFirst 20 = .ok (.if_icmp .ge 33, 3) := by decide +kernel
theorem dX7_bandsToBeFirst_23 : decode cX7_bandsToBeFirst 23 = .ok (.iload 5, 2) := by decide +kernel
theorem dX7_bandsToBeFirst_25 : decode cX7_bandsToBeFirst 25 = .ok (.iconst 4, 1) := by decide +kernel
theorem dX7_bandsToBeFirst_26 : decode cX7_bandsToBeFirst 26 = .ok (.if_icmp .ge 27, 3) := by decide +kernel
theorem dX7_bandsToBeFirst_29 : decode cX7_bandsToBeFirst 29 = .ok (.aload_n 0, 1) := by decide +kernel
theorem dX7_bandsToBeFirst_30 : decode cX7_bandsToBeFirst 30 = .ok (.aload_n 1, 1) := by decide +kernel
theorem dX7_bandsToBeFirst_31 : decode cX7_bandsToBeFirst 31 = .ok (.aload_n 2, 1) := by decide +kernel
theorem dX7_bandsToBeFirst_32 : decode cX7_bandsToBeFirst 32 = .ok (.iload 4, 2) := by decide +kernel
theorem dX7_bandsToBeFirst_34 : decode cX7_bandsToBeFirst 34 = .ok (.iload 5, 2) := by decide +kernel
theorem dX7_bandsToBeFirst_36 : decode cX7_bandsToBeFirst 36 = .ok (.isub, 1) := by decide +kernel
theorem dX7_bandsToBeFirst_37 : decode cX7_bandsToBeFirst 37 = .ok (.iload_n 3, 1) := by decide +kernel
theorem dX7_bandsToBeFirst_38 : decode cX7_bandsToBeFirst 38 = .ok (.invokevirtual 200, 3) := by decide +kernel
theorem dX7_bandsToBeFirst_41 : decode cX7_bandsToBeFirst 41 = .ok (.ifCond .ne 6, 3) := by decide +kernel
theorem dX7_bandsToBeFirst_44 : decode cX7_bandsToBeFirst 44 = .ok (.iload 5, 2) := by decide +kernel
theorem dX7_bandsToBeFirst_46 : decode cX7_bandsToBeFirst 46 = .ok (.ireturn, 1) := by decide +kernel
theorem dX7_bandsToBeFirst_47 : decode cX7_bandsToBeFirst 47 = .ok (.iinc 5 1, 3) := by decide +kernel
theorem dX7_bandsToBeFirst_50 : decode cX7_bandsToBeFirst 50 = .ok (.goto (-34), 3) := by decide +kernel
theorem dX7_bandsToBeFirst_53 : decode cX7_bandsToBeFirst 53 = .ok (.iconst (-1), 1) := by decide +kernel
theorem dX7_bandsToBeFirst_54 : decode cX7_bandsToBeFirst 54 = .ok (.ireturn, 1) := by decide +kernel
theorem dX7_whyNot_0 : decode cX7_whyNot 0 = .ok (.aload_n 1, 1) := by decide +kernel
theorem dX7_whyNot_1 : decode cX7_whyNot 1 = .ok (.getfield 99, 3) := by decide +kernel
theorem dX7_whyNot_4 : decode cX7_whyNot 4 = .ok (.ifCond .eq 5, 3) := by decide +kernel
theorem dX7_whyNot_7 : decode cX7_whyNot 7 = .ok (.iconst 1, 1) := by decide +kernel
theorem dX7_whyNot_8 : decode cX7_whyNot 8 = .ok (.ireturn, 1) := by decide +kernel
theorem dX7_whyNot_9 : decode cX7_whyNot 9 = .ok (.aload_n 1, 1) := by decide +kernel
theorem dX7_whyNot_10 : decode cX7_whyNot 10 = .ok (.getfield 203, 3) := by decide +kernel
theorem dX7_whyNot_13 : decode cX7_whyNot 13 = .ok (.ifCond .le 5, 3) := by decide +kernel
theorem dX7_whyNot_16 : decode cX7_whyNot 16 = .ok (.iconst 2, 1) := by decide +kernel
theorem dX7_whyNot_17 : decode cX7_whyNot 17 = .ok (.ireturn, 1) := by decide +kernel
theorem dX7_whyNot_18 : decode cX7_whyNot 18 = .ok (.aload_n 2, 1) := by decide +kernel
theorem dX7_whyNot_19 : decode cX7_whyNot 19 = .ok (.invokevirtual 95, 3) := by decide +kernel
theorem dX7_whyNot_22 : decode cX7_whyNot 22 = .ok (.ifCond .ne 5, 3) := by decide +kernel
theorem dX7_whyNot_25 : decode cX7_whyNot 25 = .ok (.iconst 3, 1) := by decide +kernel
theorem dX7_whyNot_26 : decode cX7_whyNot 26 = .ok (.ireturn, 1) := by decide +kernel
theorem dX7_whyNot_27 : decode cX7_whyNot 27 = .ok (.aload_n 1, 1) := by decide +kernel
theorem dX7_whyNot_28 : decode cX7_whyNot 28 = .ok (.aload_n 2, 1) := by decide +kernel
theorem dX7_whyNot_29 : decode cX7_whyNot 29 = .ok (.invokevirtual 150, 3) := by decide +kernel
theorem dX7_whyNot_32 : decode cX7_whyNot 32 = .ok (.ifCond .ne 5, 3) := by decide +kernel
theorem dX7_whyNot_35 : decode cX7_whyNot 35 = .ok (.iconst 4, 1) := by decide +kernel
theorem dX7_whyNot_36 : decode cX7_whyNot 36 = .ok (.ireturn, 1) := by decide +kernel
theorem dX7_whyNot_37 : decode cX7_whyNot 37 = .ok (.aload_n 1, 1) := by decide +kernel
theorem dX7_whyNot_38 : decode cX7_whyNot 38 = .ok (.aload_n 2, 1) := by decide +kernel
theorem dX7_whyNot_39 : decode cX7_whyNot 39 = .ok (.invokevirtual 164, 3) := by decide +kernel
theorem dX7_whyNot_42 : decode cX7_whyNot 42 = .ok (.ifCond .eq 5, 3) := by decide +kernel
theorem dX7_whyNot_45 : decode cX7_whyNot 45 = .ok (.iconst 5, 1) := by decide +kernel
theorem dX7_whyNot_46 : decode cX7_whyNot 46 = .ok (.ireturn, 1) := by decide +kernel
theorem dX7_whyNot_47 : decode cX7_whyNot 47 = .ok (.aload_n 1, 1) := by decide +kernel
theorem dX7_whyNot_48 : decode cX7_whyNot 48 = .ok (.invokevirtual 116, 3) := by decide +kernel
theorem dX7_whyNot_51 : decode cX7_whyNot 51 = .ok (.aload_n 0, 1) := by decide +kernel
theorem dX7_whyNot_52 : decode cX7_whyNot 52 = .ok (.getfield 27, 3) := by decide +kernel
theorem dX7_whyNot_55 : decode cX7_whyNot 55 = .ok (.iconst 5, 1) := by decide +kernel
theorem dX7_whyNot_56 : decode cX7_whyNot 56 = .ok (.iaload, 1) := by decide +kernel
theorem dX7_whyNot_57 : decode cX7_whyNot 57 = .ok (.if_icmp .lt 8, 3) := by decide +kernel
theorem dX7_whyNot_60 : decode cX7_whyNot 60 = .ok (.bipush 6, 2) := by decide +kernel
theorem dX7_whyNot_62 : decode cX7_whyNot 62 = .ok (.goto 4, 3) := by decide +kernel
theorem dX7_whyNot_65 : decode cX7_whyNot 65 = .ok (.iconst 0, 1) := by decide +kernel
theorem dX7_whyNot_66 : decode cX7_whyNot 66 = .ok (.ireturn, 1) := by decide +kernel
theorem dX7_countLiked_0 : decode cX7_countLiked 0 = .ok (.aload_n 1, 1) := by decide +kernel
theorem dX7_countLiked_1 : decode cX7_countLiked 1 = .ok (.getfield 206, 3) := by decide +kernel
theorem dX7_countLiked_4 : decode cX7_countLiked 4 = .ok (.ifCond .ne 10, 3) := by decide +kernel
theorem dX7_countLiked_7 : decode cX7_countLiked 7 = .ok (.aload_n 0, 1) := by decide +kernel
theorem dX7_countLiked_8 : decode cX7_countLiked 8 = .ok (.getfield 59, 3) := by decide +kernel
theorem dX7_countLiked_11 : decode cX7_countLiked 11 = .ok (.goto 7, 3) := by decide +kernel
theorem dX7_countLiked_14 : decode cX7_countLiked 14 = .ok (.aload_n 1, 1) := by decide +kernel
theorem dX7_countLiked_15 : decode cX7_countLiked 15 = .ok (.getfield 206, 3) := by decide +kernel
theorem dX7_countLiked_18 : decode cX7_countLiked 18 = .ok (.ireturn, 1) := by decide +kernel
theorem dX7_liked_0 : decode cX7_liked 0 = .ok (.aload_n 0, 1) := by decide +kernel
theorem dX7_liked_1 : decode cX7_liked 1 = .ok (.aload_n 1, 1) := by decide +kernel
theorem dX7_liked_2 : decode cX7_liked 2 = .ok (.getfield 206, 3) := by decide +kernel
theorem dX7_liked_5 : decode cX7_liked 5 = .ok (.ifCond .ne 7, 3) := by decide +kernel
theorem dX7_liked_8 : decode cX7_liked 8 = .ok (.iload_n 2, 1) := by decide +kernel
theorem dX7_liked_9 : decode cX7_liked 9 = .ok (.goto 8, 3) := by decide +kernel
theorem dX7_liked_12 : decode cX7_liked 12 = .ok (.aload_n 1, 1) := by decide +kernel
theorem dX7_liked_13 : decode cX7_liked 13 = .ok (.iload_n 2, 1) := by decide +kernel
theorem dX7_liked_14 : decode cX7_liked 14 = .ok (.invokevirtual 209, 3) := by decide +kernel
theorem dX7_liked_17 : decode cX7_liked 17 = .ok (.invokevirtual 212, 3) := by decide +kernel
theorem dX7_liked_20 : decode cX7_liked 20 = .ok (.areturn, 1) := by decide +kernel
theorem dX7_bidAsTheyWould_0 : decode cX7_bidAsTheyWould 0 = .ok (.iconst 0, 1) := by decide +kernel
theorem dX7_bidAsTheyWould_1 : decode cX7_bidAsTheyWould 1 = .ok (.istore_n 1, 1) := by decide +kernel
theorem dX7_bidAsTheyWould_2 : decode cX7_bidAsTheyWould 2 = .ok (.iconst 0, 1) := by decide +kernel
theorem dX7_bidAsTheyWould_3 : decode cX7_bidAsTheyWould 3 = .ok (.istore_n 2, 1) := by decide +kernel
theorem dX7_bidAsTheyWould_4 : decode cX7_bidAsTheyWould 4 = .ok (.iload_n 2, 1) := by decide +kernel
theorem dX7_bidAsTheyWould_5 : decode cX7_bidAsTheyWould 5 = .ok (.aload_n 0, 1) := by decide +kernel
theorem dX7_bidAsTheyWould_6 : decode cX7_bidAsTheyWould 6 = .ok (.getfield 62, 3) := by decide +kernel
theorem dX7_bidAsTheyWould_9 : decode cX7_bidAsTheyWould 9 = .ok (.if_icmp .ge 22, 3) := by decide +kernel
theorem dX7_bidAsTheyWould_12 : decode cX7_bidAsTheyWould 12 = .ok (.iload_n 1, 1) := by decide +kernel
theorem dX7_bidAsTheyWould_13 : decode cX7_bidAsTheyWould 13 = .ok (.aload_n 0, 1) := by decide +kernel
theorem dX7_bidAsTheyWould_14 : decode cX7_bidAsTheyWould 14 = .ok (.aload_n 0, 1) := by decide +kernel
theorem dX7_bidAsTheyWould_15 : decode cX7_bidAsTheyWould 15 = .ok (.getfield 22, 3) := by decide +kernel
theorem dX7_bidAsTheyWould_18 : decode cX7_bidAsTheyWould 18 = .ok (.iload_n 2, 1) := by decide +kernel
theorem dX7_bidAsTheyWould_19 : decode cX7_bidAsTheyWould 19 = .ok (.aaload, 1) := by decide +kernel
theorem dX7_bidAsTheyWould_20 : decode cX7_bidAsTheyWould 20 = .ok (.invokevirtual 216, 3) := by decide +kernel
theorem dX7_bidAsTheyWould_23 : decode cX7_bidAsTheyWould 23 = .ok (.iadd, 1) := by decide +kernel
theorem dX7_bidAsTheyWould_24 : decode cX7_bidAsTheyWould 24 = .ok (.istore_n 1, 1) := by decide +kernel
theorem dX7_bidAsTheyWould_25 : decode cX7_bidAsTheyWould 25 = .ok (.iinc 2 1, 3) := by decide +kernel
theorem dX7_bidAsTheyWould_28 : decode cX7_bidAsTheyWould 28 = .ok (.goto (-24), 3) := by decide +kernel
theorem dX7_bidAsTheyWould_31 : decode cX7_bidAsTheyWould 31 = .ok (.iload_n 1, 1) := by decide +kernel
theorem dX7_bidAsTheyWould_32 : decode cX7_bidAsTheyWould 32 = .ok (.ireturn, 1) := by decide +kernel
theorem dX7_bidAsItWould_0 : decode cX7_bidAsItWould 0 = .ok (.iconst 0, 1) := by decide +kernel
theorem dX7_bidAsItWould_1 : decode cX7_bidAsItWould 1 = .ok (.istore_n 2, 1) := by decide +kernel
theorem dX7_bidAsItWould_2 : decode cX7_bidAsItWould 2 = .ok (.aload_n 1, 1) := by decide +kernel
theorem dX7_bidAsItWould_3 : decode cX7_bidAsItWould 3 = .ok (.invokevirtual 167, 3) := by decide +kernel
theorem dX7_bidAsItWould_6 : decode cX7_bidAsItWould 6 = .ok (.ifCond .eq 11, 3) := by decide +kernel
theorem dX7_bidAsItWould_9 : decode cX7_bidAsItWould 9 = .ok (.aload_n 0, 1) := by decide +kernel
theorem dX7_bidAsItWould_10 : decode cX7_bidAsItWould 10 = .ok (.aload_n 1, 1) := by decide +kernel
theorem dX7_bidAsItWould_11 : decode cX7_bidAsItWould 11 = .ok (.invokevirtual 219, 3) := by decide +kernel
theorem dX7_bidAsItWould_14 : decode cX7_bidAsItWould 14 = .ok (.goto 4, 3) := by decide +kernel
theorem dX7_bidAsItWould_17 : decode cX7_bidAsItWould 17 = .ok (.iconst 0, 1) := by decide +kernel
theorem dX7_bidAsItWould_18 : decode cX7_bidAsItWould 18 = .ok (.istore_n 3, 1) := by decide +kernel
theorem dX7_bidAsItWould_19 : decode cX7_bidAsItWould 19 = .ok (.iconst 0, 1) := by decide +kernel
theorem dX7_bidAsItWould_20 : decode cX7_bidAsItWould 20 = .ok (.istore 4, 2) := by decide +kernel
theorem dX7_bidAsItWould_22 : decode cX7_bidAsItWould 22 = .ok (.iload 4, 2) := by decide +kernel
theorem dX7_bidAsItWould_24 : decode cX7_bidAsItWould 24 = .ok (.iload_n 3, 1) := by decide +kernel
theorem dX7_bidAsItWould_25 : decode cX7_bidAsItWould 25 = .ok (.if_icmp .ge 63, 3) := by decide +kernel
theorem dX7_bidAsItWould_28 : decode cX7_bidAsItWould 28 = .ok (.aload_n 1, 1) := by decide +kernel
theorem dX7_bidAsItWould_29 : decode cX7_bidAsItWould 29 = .ok (.invokevirtual 116, 3) := by decide +kernel
theorem dX7_bidAsItWould_32 : decode cX7_bidAsItWould 32 = .ok (.aload_n 0, 1) := by decide +kernel
theorem dX7_bidAsItWould_33 : decode cX7_bidAsItWould 33 = .ok (.getfield 27, 3) := by decide +kernel
theorem dX7_bidAsItWould_36 : decode cX7_bidAsItWould 36 = .ok (.iconst 5, 1) := by decide +kernel
theorem dX7_bidAsItWould_37 : decode cX7_bidAsItWould 37 = .ok (.iaload, 1) := by decide +kernel
theorem dX7_bidAsItWould_38 : decode cX7_bidAsItWould 38 = .ok (.if_icmp .ge 50, 3) := by decide +kernel
theorem dX7_bidAsItWould_41 : decode cX7_bidAsItWould 41 = .ok (.aload_n 0, 1) := by decide +kernel
theorem dX7_bidAsItWould_42 : decode cX7_bidAsItWould 42 = .ok (.aload_n 1, 1) := by decide +kernel
theorem dX7_bidAsItWould_43 : decode cX7_bidAsItWould 43 = .ok (.iload 4, 2) := by decide +kernel
theorem dX7_bidAsItWould_45 : decode cX7_bidAsItWould 45 = .ok (.invokevirtual 222, 3) := by decide +kernel
theorem dX7_bidAsItWould_48 : decode cX7_bidAsItWould 48 = .ok (.astore 5, 2) := by decide +kernel
theorem dX7_bidAsItWould_50 : decode cX7_bidAsItWould 50 = .ok (.aload 5, 2) := by decide +kernel
theorem dX7_bidAsItWould_52 : decode cX7_bidAsItWould 52 = .ok (.ifnull 30, 3) := by decide +kernel
theorem dX7_bidAsItWould_55 : decode cX7_bidAsItWould 55 = .ok (.aload_n 0, 1) := by decide +kernel
theorem dX7_bidAsItWould_56 : decode cX7_bidAsItWould 56 = .ok (.aload_n 1, 1) := by decide +kernel
theorem dX7_bidAsItWould_57 : decode cX7_bidAsItWould 57 = .ok (.aload 5, 2) := by decide +kernel
theorem dX7_bidAsItWould_59 : decode cX7_bidAsItWould 59 = .ok (.invokevirtual 226, 3) := by decide +kernel
theorem dX7_bidAsItWould_62 : decode cX7_bidAsItWould 62 = .ok (.ifCond .ne 20, 3) := by decide +kernel
theorem dX7_bidAsItWould_65 : decode cX7_bidAsItWould 65 = .ok (.aload_n 1, 1) := by decide +kernel
theorem dX7_bidAsItWould_66 : decode cX7_bidAsItWould 66 = .ok (.dup, 1) := by decide +kernel
theorem dX7_bidAsItWould_67 : decode cX7_bidAsItWould 67 = .ok (.getfield 230, 3) := by decide +kernel
theorem dX7_bidAsItWould_70 : decode cX7_bidAsItWould 70 = .ok (.aload 5, 2) := by decide +kernel
theorem dX7_bidAsItWould_72 : decode cX7_bidAsItWould 72 = .ok (.getfield 153, 3) := by decide +kernel
theorem dX7_bidAsItWould_75 : decode cX7_bidAsItWould 75 = .ok (.ior, 1) := by decide +kernel
theorem dX7_bidAsItWould_76 : decode cX7_bidAsItWould 76 = .ok (.putfield 230, 3) := by decide +kernel
theorem dX7_bidAsItWould_79 : decode cX7_bidAsItWould 79 = .ok (.iinc 2 1, 3) := by decide +kernel
theorem dX7_bidAsItWould_82 : decode cX7_bidAsItWould 82 = .ok (.iinc 4 1, 3) := by decide +kernel
theorem dX7_bidAsItWould_85 : decode cX7_bidAsItWould 85 = .ok (.goto (-63), 3) := by decide +kernel
theorem dX7_bidAsItWould_88 : decode cX7_bidAsItWould 88 = .ok (.iload_n 2, 1) := by decide +kernel
theorem dX7_bidAsItWould_89 : decode cX7_bidAsItWould 89 = .ok (.ireturn, 1) := by decide +kernel
theorem dX7_bidAlone_0 : decode cX7_bidAlone 0 = .ok (.aload_n 0, 1) := by decide +kernel
theorem dX7_bidAlone_1 : decode cX7_bidAlone 1 = .ok (.iload_n 1, 1) := by decide +kernel
theorem dX7_bidAlone_2 : decode cX7_bidAlone 2 = .ok (.invokevirtual 233, 3) := by decide +kernel
theorem dX7_bidAlone_5 : decode cX7_bidAlone 5 = .ok (.astore_n 3, 1) := by decide +kernel
theorem dX7_bidAlone_6 : decode cX7_bidAlone 6 = .ok (.aload_n 3, 1) := by decide +kernel
theorem dX7_bidAlone_7 : decode cX7_bidAlone 7 = .ok (.ifnull 11, 3) := by decide +kernel
theorem dX7_bidAlone_10 : decode cX7_bidAlone 10 = .ok (.aload_n 3, 1) := by decide +kernel
theorem dX7_bidAlone_11 : decode cX7_bidAlone 11 = .ok (.aload_n 2, 1) := by decide +kernel
theorem dX7_bidAlone_12 : decode cX7_bidAlone 12 = .ok (.getfield 153, 3) := by decide +kernel
theorem dX7_bidAlone_15 : decode cX7_bidAlone 15 = .ok (.putfield 230, 3) := by decide +kernel
theorem dX7_bidAlone_18 : decode cX7_bidAlone 18 = .ok (.return_, 1) := by decide +kernel
theorem dX7_dropBidsFor_0 : decode cX7_dropBidsFor 0 = .ok (.iconst 0, 1) := by decide +kernel
theorem dX7_dropBidsFor_1 : decode cX7_dropBidsFor 1 = .ok (.istore_n 2, 1) := by decide +kernel
theorem dX7_dropBidsFor_2 : decode cX7_dropBidsFor 2 = .ok (.iload_n 2, 1) := by decide +kernel
theorem dX7_dropBidsFor_3 : decode cX7_dropBidsFor 3 = .ok (.aload_n 0, 1) := by decide +kernel
theorem dX7_dropBidsFor_4 : decode cX7_dropBidsFor 4 = .ok (.getfield 62, 3) := by decide +kernel
theorem dX7_dropBidsFor_7 : decode cX7_dropBidsFor 7 = .ok (.if_icmp .ge 29, 3) := by decide +kernel
theorem dX7_dropBidsFor_10 : decode cX7_dropBidsFor 10 = .ok (.aload_n 0, 1) := by decide +kernel
theorem dX7_dropBidsFor_11 : decode cX7_dropBidsFor 11 = .ok (.getfield 22, 3) := by decide +kernel
theorem dX7_dropBidsFor_14 : decode cX7_dropBidsFor 14 = .ok (.iload_n 2, 1) := by decide +kernel
theorem dX7_dropBidsFor_15 : decode cX7_dropBidsFor 15 = .ok (.aaload, 1) := by decide +kernel
theorem dX7_dropBidsFor_16 : decode cX7_dropBidsFor 16 = .ok (.dup, 1) := by decide +kernel
theorem dX7_dropBidsFor_17 : decode cX7_dropBidsFor 17 = .ok (.getfield 230, 3) := by decide +kernel
theorem dX7_dropBidsFor_20 : decode cX7_dropBidsFor 20 = .ok (.aload_n 1, 1) := by decide +kernel
theorem dX7_dropBidsFor_21 : decode cX7_dropBidsFor 21 = .ok (.getfield 153, 3) := by decide +kernel
theorem dX7_dropBidsFor_24 : decode cX7_dropBidsFor 24 = .ok (.iconst (-1), 1) := by decide +kernel
theorem dX7_dropBidsFor_25 : decode cX7_dropBidsFor 25 = .ok (.ixor, 1) := by decide +kernel
theorem dX7_dropBidsFor_26 : decode cX7_dropBidsFor 26 = .ok (.iand, 1) := by decide +kernel
theorem dX7_dropBidsFor_27 : decode cX7_dropBidsFor 27 = .ok (.putfield 230, 3) := by decide +kernel
theorem dX7_dropBidsFor_30 : decode cX7_dropBidsFor 30 = .ok (.iinc 2 1, 3) := by decide +kernel
theorem dX7_dropBidsFor_33 : decode cX7_dropBidsFor 33 = .ok (.goto (-31), 3) := by decide +kernel
theorem dX7_dropBidsFor_36 : decode cX7_dropBidsFor 36 = .ok (.return_, 1) := by decide +kernel
theorem dX7_bestTip_0 : decode cX7_bestTip 0 = .ok (.iconst (-1), 1) := by decide +kernel
theorem dX7_bestTip_1 : decode cX7_bestTip 1 = .ok (.istore_n 2, 1) := by decide +kernel
theorem dX7_bestTip_2 : decode cX7_bestTip 2 = .ok (.bipush 8, 2) := by decide +kernel
theorem dX7_bestTip_4 : decode cX7_bestTip 4 = .ok (.istore_n 3, 1) := by decide +kernel
theorem dX7_bestTip_5 : decode cX7_bestTip 5 = .ok (.aload_n 0, 1) := by decide +kernel
theorem dX7_bestTip_6 : decode cX7_bestTip 6 = .ok (.aload_n 1, 1) := by decide +kernel
theorem dX7_bestTip_7 : decode cX7_bestTip 7 = .ok (.invokevirtual 219, 3) := by decide +kernel
theorem dX7_bestTip_10 : decode cX7_bestTip 10 = .ok (.istore 4, 2) := by decide +kernel
theorem dX7_bestTip_12 : decode cX7_bestTip 12 = .ok (.iconst 0, 1) := by decide +kernel
theorem dX7_bestTip_13 : decode cX7_bestTip 13 = .ok (.istore 5, 2) := by decide +kernel
theorem dX7_bestTip_15 : decode cX7_bestTip 15 = .ok (.iload 5, 2) := by decide +kernel
theorem dX7_bestTip_17 : decode cX7_bestTip 17 = .ok (.iload 4, 2) := by decide +kernel
theorem dX7_bestTip_19 : decode cX7_bestTip 19 = .ok (.if_icmp .ge 80, 3) := by decide +kernel
theorem dX7_bestTip_22 : decode cX7_bestTip 22 = .ok (.aload_n 0, 1) := by decide +kernel
theorem dX7_bestTip_23 : decode cX7_bestTip 23 = .ok (.aload_n 1, 1) := by decide +kernel
theorem dX7_bestTip_24 : decode cX7_bestTip 24 = .ok (.iload 5, 2) := by decide +kernel
theorem dX7_bestTip_26 : decode cX7_bestTip 26 = .ok (.invokevirtual 222, 3) := by decide +kernel
theorem dX7_bestTip_29 : decode cX7_bestTip 29 = .ok (.astore 6, 2) := by decide +kernel
theorem dX7_bestTip_31 : decode cX7_bestTip 31 = .ok (.aload 6, 2) := by decide +kernel
theorem dX7_bestTip_33 : decode cX7_bestTip 33 = .ok (.ifnull 60, 3) := by decide +kernel
theorem dX7_bestTip_36 : decode cX7_bestTip 36 = .ok (.aload_n 1, 1) := by decide +kernel
theorem dX7_bestTip_37 : decode cX7_bestTip 37 = .ok (.aload 6, 2) := by decide +kernel
theorem dX7_bestTip_39 : decode cX7_bestTip 39 = .ok (.invokevirtual 164, 3) := by decide +kernel
theorem dX7_bestTip_42 : decode cX7_bestTip 42 = .ok (.ifCond .ne 16, 3) := by decide +kernel
theorem dX7_bestTip_45 : decode cX7_bestTip 45 = .ok (.aload_n 0, 1) := by decide +kernel
theorem dX7_bestTip_46 : decode cX7_bestTip 46 = .ok (.aload_n 1, 1) := by decide +kernel
theorem dX7_bestTip_47 : decode cX7_bestTip 47 = .ok (.aload 6, 2) := by decide +kernel
theorem dX7_bestTip_49 : decode cX7_bestTip 49 = .ok (.invokevirtual 226, 3) := by decide +kernel
theorem dX7_bestTip_52 : decode cX7_bestTip 52 = .ok (.ifCond .eq 6, 3) := by decide +kernel
theorem dX7_bestTip_55 : decode cX7_bestTip 55 = .ok (.goto 38, 3) := by decide +kernel
theorem dX7_bestTip_58 : decode cX7_bestTip 58 = .ok (.aload_n 0, 1) := by decide +kernel
theorem dX7_bestTip_59 : decode cX7_bestTip 59 = .ok (.aload_n 1, 1) := by decide +kernel
theorem dX7_bestTip_60 : decode cX7_bestTip 60 = .ok (.aload 6, 2) := by decide +kernel
theorem dX7_bestTip_62 : decode cX7_bestTip 62 = .ok (.aload_n 0, 1) := by decide +kernel
theorem dX7_bestTip_63 : decode cX7_bestTip 63 = .ok (.aload_n 1, 1) := by decide +kernel
theorem dX7_bestTip_64 : decode cX7_bestTip 64 = .ok (.invokevirtual 182, 3) := by decide +kernel
theorem dX7_bestTip_67 : decode cX7_bestTip 67 = .ok (.aload_n 0, 1) := by decide +kernel
theorem dX7_bestTip_68 : decode cX7_bestTip 68 = .ok (.aload 6, 2) := by decide +kernel
theorem dX7_bestTip_70 : decode cX7_bestTip 70 = .ok (.invokevirtual 197, 3) := by decide +kernel
theorem dX7_bestTip_73 : decode cX7_bestTip 73 = .ok (.invokevirtual 200, 3) := by decide +kernel
theorem dX7_bestTip_76 : decode cX7_bestTip 76 = .ok (.istore 7, 2) := by decide +kernel
theorem dX7_bestTip_78 : decode cX7_bestTip 78 = .ok (.iload 7, 2) := by decide +kernel
theorem dX7_bestTip_80 : decode cX7_bestTip 80 = .ok (.iload_n 3, 1) := by decide +kernel
theorem dX7_bestTip_81 : decode cX7_bestTip 81 = .ok (.if_icmp .ge 12, 3) := by decide +kernel
theorem dX7_bestTip_84 : decode cX7_bestTip 84 = .ok (.aload 6, 2) := by decide +kernel
theorem dX7_bestTip_86 : decode cX7_bestTip 86 = .ok (.getfield 237, 3) := by decide +kernel
theorem dX7_bestTip_89 : decode cX7_bestTip 89 = .ok (.istore_n 2, 1) := by decide +kernel
theorem dX7_bestTip_90 : decode cX7_bestTip 90 = .ok (.iload 7, 2) := by decide +kernel
theorem dX7_bestTip_92 : decode cX7_bestTip 92 = .ok (.istore_n 3, 1) := by decide +kernel
theorem dX7_bestTip_93 : decode cX7_bestTip 93 = .ok (.iinc 5 1, 3) := by decide +kernel
theorem dX7_bestTip_96 : decode cX7_bestTip 96 = .ok (.goto (-81), 3) := by decide +kernel
theorem dX7_bestTip_99 : decode cX7_bestTip 99 = .ok (.iload_n 2, 1) := by decide +kernel
theorem dX7_bestTip_100 : decode cX7_bestTip 100 = .ok (.ireturn, 1) := by decide +kernel
theorem dX7_runAhead_0 : decode cX7_runAhead 0 = .ok (.iconst 0, 1) := by decide +kernel
theorem dX7_runAhead_1 : decode cX7_runAhead 1 = .ok (.istore_n 2, 1) := by decide +kernel
theorem dX7_runAhead_2 : decode cX7_runAhead 2 = .ok (.iload_n 2, 1) := by decide +kernel
theorem dX7_runAhead_3 : decode cX7_runAhead 3 = .ok (.iload_n 1, 1) := by decide +kernel
theorem dX7_runAhead_4 : decode cX7_runAhead 4 = .ok (.if_icmp .ge 29, 3) := by decide +kernel
theorem dX7_runAhead_7 : decode cX7_runAhead 7 = .ok (.aload_n 0, 1) := by decide +kernel
theorem dX7_runAhead_8 : decode cX7_runAhead 8 = .ok (.getfield 65, 3) := by decide +kernel
theorem dX7_runAhead_11 : decode cX7_runAhead 11 = .ok (.sipush 999, 3) := by decide +kernel
theorem dX7_runAhead_14 : decode cX7_runAhead 14 = .ok (.if_icmp .ge 19, 3) := by decide +kernel
theorem dX7_runAhead_17 : decode cX7_runAhead 17 = .ok (.aload_n 0, 1) := by decide +kernel
theorem dX7_runAhead_18 : decode cX7_runAhead 18 = .ok (.invokevirtual 238, 3) := by decide +kernel
theorem dX7_runAhead_21 : decode cX7_runAhead 21 = .ok (.pop, 1) := by decide +kernel
theorem dX7_runAhead_22 : decode cX7_runAhead 22 = .ok (.aload_n 0, 1) := by decide +kernel
theorem dX7_runAhead_23 : decode cX7_runAhead 23 = .ok (.invokevirtual 241, 3) := by decide +kernel
theorem dX7_runAhead_26 : decode cX7_runAhead 26 = .ok (.pop, 1) := by decide +kernel
theorem dX7_runAhead_27 : decode cX7_runAhead 27 = .ok (.iinc 2 1, 3) := by decide +kernel
theorem dX7_runAhead_30 : decode cX7_runAhead 30 = .ok (.goto (-28), 3) := by decide +kernel
theorem dX7_runAhead_33 : decode cX7_runAhead 33 = .ok (.return_, 1) := by decide +kernel
theorem dX7_endWeek_0 : decode cX7_endWeek 0 = .ok (.aload_n 0, 1) := by decide +kernel
theorem dX7_endWeek_1 : decode cX7_endWeek 1 = .ok (.getfield 36, 3) := by decide +kernel
theorem dX7_endWeek_4 : decode cX7_endWeek 4 = .ok (.getfield 55, 3) := by decide +kernel
theorem dX7_endWeek_7 : decode cX7_endWeek 7 = .ok (.istore_n 1, 1) := by decide +kernel
theorem dX7_endWeek_8 : decode cX7_endWeek 8 = .ok (.aload_n 0, 1) := by decide +kernel
theorem dX7_endWeek_9 : decode cX7_endWeek 9 = .ok (.getfield 40, 3) := by decide +kernel
theorem dX7_endWeek_12 : decode cX7_endWeek 12 = .ok (.iconst 0, 1) := by decide +kernel
theorem dX7_endWeek_13 : decode cX7_endWeek 13 = .ok (.putfield 55, 3) := by decide +kernel
theorem dX7_endWeek_16 : decode cX7_endWeek 16 = .ok (.iconst 0, 1) := by decide +kernel
theorem dX7_endWeek_17 : decode cX7_endWeek 17 = .ok (.istore_n 2, 1) := by decide +kernel
theorem dX7_endWeek_18 : decode cX7_endWeek 18 = .ok (.iload_n 2, 1) := by decide +kernel
theorem dX7_endWeek_19 : decode cX7_endWeek 19 = .ok (.aload_n 0, 1) := by decide +kernel
theorem dX7_endWeek_20 : decode cX7_endWeek 20 = .ok (.getfield 59, 3) := by decide +kernel
theorem dX7_endWeek_23 : decode cX7_endWeek 23 = .ok (.if_icmp .ge 49, 3) := by decide +kernel
theorem dX7_endWeek_26 : decode cX7_endWeek 26 = .ok (.aload_n 0, 1) := by decide +kernel
theorem dX7_endWeek_27 : decode cX7_endWeek 27 = .ok (.getfield 11, 3) := by decide +kernel
theorem dX7_endWeek_30 : decode cX7_endWeek 30 = .ok (.iload_n 2, 1) := by decide +kernel
theorem dX7_endWeek_31 : decode cX7_endWeek 31 = .ok (.aaload, 1) := by decide +kernel
theorem dX7_endWeek_32 : decode cX7_endWeek 32 = .ok (.invokevirtual 95, 3) := by decide +kernel
theorem dX7_endWeek_35 : decode cX7_endWeek 35 = .ok (.ifCond .eq 31, 3) := by decide +kernel
theorem dX7_endWeek_38 : decode cX7_endWeek 38 = .ok (.aload_n 0, 1) := by decide +kernel
theorem dX7_endWeek_39 : decode cX7_endWeek 39 = .ok (.aload_n 0, 1) := by decide +kernel
theorem dX7_endWeek_40 : decode cX7_endWeek 40 = .ok (.getfield 11, 3) := by decide +kernel
theorem dX7_endWeek_43 : decode cX7_endWeek 43 = .ok (.iload_n 2, 1) := by decide +kernel
theorem dX7_endWeek_44 : decode cX7_endWeek 44 = .ok (.aaload, 1) := by decide +kernel
theorem dX7_endWeek_45 : decode cX7_endWeek 45 = .ok (.invokevirtual 244, 3) := by decide +kernel
theorem dX7_endWeek_48 : decode cX7_endWeek 48 = .ok (.ifCond .ne 18, 3) := by decide +kernel
theorem dX7_endWeek_51 : decode cX7_endWeek 51 = .ok (.aload_n 0, 1) := by decide +kernel
theorem dX7_endWeek_52 : decode cX7_endWeek 52 = .ok (.getfield 11, 3) := by decide +kernel
theorem dX7_endWeek_55 : decode cX7_endWeek 55 = .ok (.iload_n 2, 1) := by decide +kernel
theorem dX7_endWeek_56 : decode cX7_endWeek 56 = .ok (.aaload, 1) := by decide +kernel
theorem dX7_endWeek_57 : decode cX7_endWeek 57 = .ok (.dup, 1) := by decide +kernel
theorem dX7_endWeek_58 : decode cX7_endWeek 58 = .ok (.getfield 247, 3) := by decide +kernel
theorem dX7_endWeek_61 : decode cX7_endWeek 61 = .ok (.iconst 1, 1) := by decide +kernel
theorem dX7_endWeek_62 : decode cX7_endWeek 62 = .ok (.iadd, 1) := by decide +kernel
theorem dX7_endWeek_63 : decode cX7_endWeek 63 = .ok (.putfield 247, 3) := by decide +kernel
theorem dX7_endWeek_66 : decode cX7_endWeek 66 = .ok (.iinc 2 1, 3) := by decide +kernel
theorem dX7_endWeek_69 : decode cX7_endWeek 69 = .ok (.goto (-51), 3) := by decide +kernel
theorem dX7_endWeek_72 : decode cX7_endWeek 72 = .ok (.aload_n 0, 1) := by decide +kernel
theorem dX7_endWeek_73 : decode cX7_endWeek 73 = .ok (.invokevirtual 250, 3) := by decide +kernel
theorem dX7_endWeek_76 : decode cX7_endWeek 76 = .ok (.aload_n 0, 1) := by decide +kernel
theorem dX7_endWeek_77 : decode cX7_endWeek 77 = .ok (.getfield 36, 3) := by decide +kernel
theorem dX7_endWeek_80 : decode cX7_endWeek 80 = .ok (.getfield 55, 3) := by decide +kernel
theorem dX7_endWeek_83 : decode cX7_endWeek 83 = .ok (.iload_n 1, 1) := by decide +kernel
theorem dX7_endWeek_84 : decode cX7_endWeek 84 = .ok (.isub, 1) := by decide +kernel
theorem dX7_endWeek_85 : decode cX7_endWeek 85 = .ok (.ireturn, 1) := by decide +kernel
theorem dX7_offerRound_0 : decode cX7_offerRound 0 = .ok (.aload_n 0, 1) := by decide +kernel
theorem dX7_offerRound_1 : decode cX7_offerRound 1 = .ok (.aload_n 1, 1) := by decide +kernel
theorem dX7_offerRound_2 : decode cX7_offerRound 2 = .ok (.invokevirtual 197, 3) := by decide +kernel
theorem dX7_offerRound_5 : decode cX7_offerRound 5 = .ok (.istore_n 2, 1) := by decide +kernel
theorem dX7_offerRound_6 : decode cX7_offerRound 6 = .ok (.iload_n 2, 1) := by decide +kernel
theorem dX7_offerRound_7 : decode cX7_offerRound 7 = .ok (.ifCond .ne 5, 3) := by decide +kernel
theorem dX7_offerRound_10 : decode cX7_offerRound 10 = .ok (.iconst 0, 1) := by decide +kernel
theorem dX7_offerRound_11 : decode cX7_offerRound 11 = .ok (.ireturn, 1) := by decide +kernel
theorem dX7_offerRound_12 : decode cX7_offerRound 12 = .ok (.aload_n 0, 1) := by decide +kernel
theorem dX7_offerRound_13 : decode cX7_offerRound 13 = .ok (.aload_n 1, 1) := by decide +kernel
theorem dX7_offerRound_14 : decode cX7_offerRound 14 = .ok (.invokevirtual 189, 3) := by decide +kernel
theorem dX7_offerRound_17 : decode cX7_offerRound 17 = .ok (.istore_n 3, 1) := by decide +kernel
theorem dX7_offerRound_18 : decode cX7_offerRound 18 = .ok (.iconst 1, 1) := by decide +kernel
theorem dX7_offerRound_19 : decode cX7_offerRound 19 = .ok (.istore 4, 2) := by decide +kernel
theorem dX7_offerRound_21 : decode cX7_offerRound 21 = .ok (.iload 4, 2) := by decide +kernel
theorem dX7_offerRound_23 : decode cX7_offerRound 23 = .ok (.iconst 3, 1) := by decide +kernel
theorem dX7_offerRound_24 : decode cX7_offerRound 24 = .ok (.if_icmp .gt 75, 3) := by decide +kernel
theorem dX7_offerRound_27 : decode cX7_offerRound 27 = .ok (.aload_n 0, 1) := by decide +kernel
theorem dX7_offerRound_28 : decode cX7_offerRound 28 = .ok (.iload_n 2, 1) := by decide +kernel
theorem dX7_offerRound_29 : decode cX7_offerRound 29 = .ok (.aload_n 1, 1) := by decide +kernel
theorem dX7_offerRound_30 : decode cX7_offerRound 30 = .ok (.iload_n 3, 1) := by decide +kernel
theorem dX7_offerRound_31 : decode cX7_offerRound 31 = .ok (.invokevirtual 193, 3) := by decide +kernel
theorem dX7_offerRound_34 : decode cX7_offerRound 34 = .ok (.astore 5, 2) := by decide +kernel
theorem dX7_offerRound_36 : decode cX7_offerRound 36 = .ok (.aload 5, 2) := by decide +kernel
theorem dX7_offerRound_38 : decode cX7_offerRound 38 = .ok (.ifnonnull 5, 3) := by decide +kernel
theorem dX7_offerRound_41 : decode cX7_offerRound 41 = .ok (.iconst 0, 1) := by decide +kernel
theorem dX7_offerRound_42 : decode cX7_offerRound 42 = .ok (.ireturn, 1) := by decide +kernel
theorem dX7_offerRound_43 : decode cX7_offerRound 43 = .ok (.iload_n 2, 1) := by decide +kernel
theorem dX7_offerRound_44 : decode cX7_offerRound 44 = .ok (.aload 5, 2) := by decide +kernel
theorem dX7_offerRound_46 : decode cX7_offerRound 46 = .ok (.getfield 103, 3) := by decide +kernel
theorem dX7_offerRound_49 : decode cX7_offerRound 49 = .ok (.iconst (-1), 1) := by decide +kernel
theorem dX7_offerRound_50 : decode cX7_offerRound 50 = .ok (.ixor, 1) := by decide +kernel
theorem dX7_offerRound_51 : decode cX7_offerRound 51 = .ok (.iand, 1) := by decide +kernel
theorem dX7_offerRound_52 : decode cX7_offerRound 52 = .ok (.istore_n 2, 1) := by decide +kernel
theorem dX7_offerRound_53 : decode cX7_offerRound 53 = .ok (.aload 5, 2) := by decide +kernel
theorem dX7_offerRound_55 : decode cX7_offerRound 55 = .ok (.aload_n 1, 1) := by decide +kernel
theorem dX7_offerRound_56 : decode cX7_offerRound 56 = .ok (.invokevirtual 146, 3) := by decide +kernel
theorem dX7_offerRound_59 : decode cX7_offerRound 59 = .ok (.istore 6, 2) := by decide +kernel
theorem dX7_offerRound_61 : decode cX7_offerRound 61 = .ok (.aload_n 0, 1) := by decide +kernel
theorem dX7_offerRound_62 : decode cX7_offerRound 62 = .ok (.aload 5, 2) := by decide +kernel
theorem dX7_offerRound_64 : decode cX7_offerRound 64 = .ok (.aload_n 1, 1) := by decide +kernel
theorem dX7_offerRound_65 : decode cX7_offerRound 65 = .ok (.iload 6, 2) := by decide +kernel
theorem dX7_offerRound_67 : decode cX7_offerRound 67 = .ok (.invokevirtual 253, 3) := by decide +kernel
theorem dX7_offerRound_70 : decode cX7_offerRound 70 = .ok (.iload 6, 2) := by decide +kernel
theorem dX7_offerRound_72 : decode cX7_offerRound 72 = .ok (.ifCond .eq 15, 3) := by decide +kernel
theorem dX7_offerRound_75 : decode cX7_offerRound 75 = .ok (.aload_n 0, 1) := by decide +kernel
theorem dX7_offerRound_76 : decode cX7_offerRound 76 = .ok (.aload 5, 2) := by decide +kernel
theorem dX7_offerRound_78 : decode cX7_offerRound 78 = .ok (.aload_n 1, 1) := by decide +kernel
theorem dX7_offerRound_79 : decode cX7_offerRound 79 = .ok (.iload_n 3, 1) := by decide +kernel
theorem dX7_offerRound_80 : decode cX7_offerRound 80 = .ok (.iload 4, 2) := by decide +kernel
theorem dX7_offerRound_82 : decode cX7_offerRound 82 = .ok (.invokevirtual 257, 3) := by decide +kernel
theorem dX7_offerRound_85 : decode cX7_offerRound 85 = .ok (.iconst 1, 1) := by decide +kernel
theorem dX7_offerRound_86 : decode cX7_offerRound 86 = .ok (.ireturn, 1) := by decide +kernel
theorem dX7_offerRound_87 : decode cX7_offerRound 87 = .ok (.aload_n 0, 1) := by decide +kernel
theorem dX7_offerRound_88 : decode cX7_offerRound 88 = .ok (.aload 5, 2) := by decide +kernel
theorem dX7_offerRound_90 : decode cX7_offerRound 90 = .ok (.invokevirtual 261, 3) := by decide +kernel
theorem dX7_offerRound_93 : decode cX7_offerRound 93 = .ok (.iinc 4 1, 3) := by decide +kernel
theorem dX7_offerRound_96 : decode cX7_offerRound 96 = .ok (.goto (-75), 3) := by decide +kernel
theorem dX7_offerRound_99 : decode cX7_offerRound 99 = .ok (.iconst 0, 1) := by decide +kernel
theorem dX7_offerRound_100 : decode cX7_offerRound 100 = .ok (.ireturn, 1) := by decide +kernel
theorem dX7_noteOffer_0 : decode cX7_noteOffer 0 = .ok (.aload_n 0, 1) := by decide +kernel
theorem dX7_noteOffer_1 : decode cX7_noteOffer 1 = .ok (.getfield 40, 3) := by decide +kernel
theorem dX7_noteOffer_4 : decode cX7_noteOffer 4 = .ok (.invokevirtual 264, 3) := by decide +kernel
theorem dX7_noteOffer_7 : decode cX7_noteOffer 7 = .ok (.istore 4, 2) := by decide +kernel
theorem dX7_noteOffer_9 : decode cX7_noteOffer 9 = .ok (.aload_n 0, 1) := by decide +kernel
theorem dX7_noteOffer_10 : decode cX7_noteOffer 10 = .ok (.getfield 40, 3) := by decide +kernel
theorem dX7_noteOffer_13 : decode cX7_noteOffer 13 = .ok (.iload 4, 2) := by decide +kernel
theorem dX7_noteOffer_15 : decode cX7_noteOffer 15 = .ok (.iconst 0, 1) := by decide +kernel
theorem dX7_noteOffer_16 : decode cX7_noteOffer 16 = .ok (.aload_n 1, 1) := by decide +kernel
theorem dX7_noteOffer_17 : decode cX7_noteOffer 17 = .ok (.getfield 179, 3) := by decide +kernel
theorem dX7_noteOffer_20 : decode cX7_noteOffer 20 = .ok (.invokevirtual 267, 3) := by decide +kernel
theorem dX7_noteOffer_23 : decode cX7_noteOffer 23 = .ok (.aload_n 0, 1) := by decide +kernel
theorem dX7_noteOffer_24 : decode cX7_noteOffer 24 = .ok (.getfield 40, 3) := by decide +kernel
theorem dX7_noteOffer_27 : decode cX7_noteOffer 27 = .ok (.iload 4, 2) := by decide +kernel
theorem dX7_noteOffer_29 : decode cX7_noteOffer 29 = .ok (.iconst 1, 1) := by decide +kernel
theorem dX7_noteOffer_30 : decode cX7_noteOffer 30 = .ok (.aload_n 2, 1) := by decide +kernel
theorem dX7_noteOffer_31 : decode cX7_noteOffer 31 = .ok (.getfield 237, 3) := by decide +kernel
theorem dX7_noteOffer_34 : decode cX7_noteOffer 34 = .ok (.invokevirtual 267, 3) := by decide +kernel
theorem dX7_noteOffer_37 : decode cX7_noteOffer 37 = .ok (.aload_n 0, 1) := by decide +kernel
theorem dX7_noteOffer_38 : decode cX7_noteOffer 38 = .ok (.getfield 40, 3) := by decide +kernel
theorem dX7_noteOffer_41 : decode cX7_noteOffer 41 = .ok (.iload 4, 2) := by decide +kernel
theorem dX7_noteOffer_43 : decode cX7_noteOffer 43 = .ok (.iconst 2, 1) := by decide +kernel
theorem dX7_noteOffer_44 : decode cX7_noteOffer 44 = .ok (.iload_n 3, 1) := by decide +kernel
theorem dX7_noteOffer_45 : decode cX7_noteOffer 45 = .ok (.ifCond .eq 7, 3) := by decide +kernel
theorem dX7_noteOffer_48 : decode cX7_noteOffer 48 = .ok (.iconst 1, 1) := by decide +kernel
theorem dX7_noteOffer_49 : decode cX7_noteOffer 49 = .ok (.goto 4, 3) := by decide +kernel
theorem dX7_noteOffer_52 : decode cX7_noteOffer 52 = .ok (.iconst 0, 1) := by decide +kernel
theorem dX7_noteOffer_53 : decode cX7_noteOffer 53 = .ok (.invokevirtual 267, 3) := by decide +kernel
theorem dX7_noteOffer_56 : decode cX7_noteOffer 56 = .ok (.return_, 1) := by decide +kernel
theorem dX7_refuseHome_0 : decode cX7_refuseHome 0 = .ok (.aload_n 0, 1) := by decide +kernel
theorem dX7_refuseHome_1 : decode cX7_refuseHome 1 = .ok (.dup, 1) := by decide +kernel
theorem dX7_refuseHome_2 : decode cX7_refuseHome 2 = .ok (.getfield 68, 3) := by decide +kernel
theorem dX7_refuseHome_5 : decode cX7_refuseHome 5 = .ok (.iconst 1, 1) := by decide +kernel
theorem dX7_refuseHome_6 : decode cX7_refuseHome 6 = .ok (.iadd, 1) := by decide +kernel
theorem dX7_refuseHome_7 : decode cX7_refuseHome 7 = .ok (.putfield 68, 3) := by decide +kernel
theorem dX7_refuseHome_10 : decode cX7_refuseHome 10 = .ok (.aload_n 1, 1) := by decide +kernel
theorem dX7_refuseHome_11 : decode cX7_refuseHome 11 = .ok (.dup, 1) := by decide +kernel
theorem dX7_refuseHome_12 : decode cX7_refuseHome 12 = .ok (.getfield 271, 3) := by decide +kernel
theorem dX7_refuseHome_15 : decode cX7_refuseHome 15 = .ok (.iconst 1, 1) := by decide +kernel
theorem dX7_refuseHome_16 : decode cX7_refuseHome 16 = .ok (.iadd, 1) := by decide +kernel
theorem dX7_refuseHome_17 : decode cX7_refuseHome 17 = .ok (.putfield 271, 3) := by decide +kernel
theorem dX7_refuseHome_20 : decode cX7_refuseHome 20 = .ok (.aload_n 1, 1) := by decide +kernel
theorem dX7_refuseHome_21 : decode cX7_refuseHome 21 = .ok (.getfield 271, 3) := by decide +kernel
theorem dX7_refuseHome_24 : decode cX7_refuseHome 24 = .ok (.aload_n 0, 1) := by decide +kernel
theorem dX7_refuseHome_25 : decode cX7_refuseHome 25 = .ok (.getfield 27, 3) := by decide +kernel
theorem dX7_refuseHome_28 : decode cX7_refuseHome 28 = .ok (.iconst 0, 1) := by decide +kernel
theorem dX7_refuseHome_29 : decode cX7_refuseHome 29 = .ok (.iaload, 1) := by decide +kernel
theorem dX7_refuseHome_30 : decode cX7_refuseHome 30 = .ok (.if_icmp .lt 20, 3) := by decide +kernel
theorem dX7_refuseHome_33 : decode cX7_refuseHome 33 = .ok (.aload_n 1, 1) := by decide +kernel
theorem dX7_refuseHome_34 : decode cX7_refuseHome 34 = .ok (.iconst 0, 1) := by decide +kernel
theorem dX7_refuseHome_35 : decode cX7_refuseHome 35 = .ok (.putfield 271, 3) := by decide +kernel
theorem dX7_refuseHome_38 : decode cX7_refuseHome 38 = .ok (.aload_n 1, 1) := by decide +kernel
theorem dX7_refuseHome_39 : decode cX7_refuseHome 39 = .ok (.aload_n 0, 1) := by decide +kernel
theorem dX7_refuseHome_40 : decode cX7_refuseHome 40 = .ok (.getfield 27, 3) := by decide +kernel
theorem dX7_refuseHome_43 : decode cX7_refuseHome 43 = .ok (.iconst 1, 1) := by decide +kernel
theorem dX7_refuseHome_44 : decode cX7_refuseHome 44 = .ok (.iaload, 1) := by decide +kernel
theorem dX7_refuseHome_45 : decode cX7_refuseHome 45 = .ok (.iconst 1, 1) := by decide +kernel
theorem dX7_refuseHome_46 : decode cX7_refuseHome 46 = .ok (.iadd, 1) := by decide +kernel
theorem dX7_refuseHome_47 : decode cX7_refuseHome 47 = .ok (.putfield 203, 3) := by decide +kernel
theorem dX7_refuseHome_50 : decode cX7_refuseHome 50 = .ok (.return_, 1) := by decide +kernel
theorem dX7_takeHome_0 : decode cX7_takeHome 0 = .ok (.aload_n 0, 1) := by decide +kernel
theorem dX7_takeHome_1 : decode cX7_takeHome 1 = .ok (.aload_n 1, 1) := by decide +kernel
theorem dX7_takeHome_2 : decode cX7_takeHome 2 = .ok (.invokevirtual 182, 3) := by decide +kernel
theorem dX7_takeHome_5 : decode cX7_takeHome 5 = .ok (.istore 5, 2) := by decide +kernel
theorem dX7_takeHome_7 : decode cX7_takeHome 7 = .ok (.aload_n 0, 1) := by decide +kernel
theorem dX7_takeHome_8 : decode cX7_takeHome 8 = .ok (.aload_n 1, 1) := by decide +kernel
theorem dX7_takeHome_9 : decode cX7_takeHome 9 = .ok (.aload_n 2, 1) := by decide +kernel
theorem dX7_takeHome_10 : decode cX7_takeHome 10 = .ok (.iload_n 3, 1) := by decide +kernel
theorem dX7_takeHome_11 : decode cX7_takeHome 11 = .ok (.iload 4, 2) := by decide +kernel
theorem dX7_takeHome_13 : decode cX7_takeHome 13 = .ok (.iload 5, 2) := by decide +kernel
theorem dX7_takeHome_15 : decode cX7_takeHome 15 = .ok (.invokevirtual 272, 3) := by decide +kernel
theorem dX7_takeHome_18 : decode cX7_takeHome 18 = .ok (.iconst 0, 1) := by decide +kernel
theorem dX7_takeHome_19 : decode cX7_takeHome 19 = .ok (.istore 6, 2) := by decide +kernel
theorem dX7_takeHome_21 : decode cX7_takeHome 21 = .ok (.iload 6, 2) := by decide +kernel
theorem dX7_takeHome_23 : decode cX7_takeHome 23 = .ok (.aload_n 0, 1) := by decide +kernel
theorem dX7_takeHome_24 : decode cX7_takeHome 24 = .ok (.getfield 62, 3) := by decide +kernel
theorem dX7_takeHome_27 : decode cX7_takeHome 27 = .ok (.if_icmp .ge 57, 3) := by decide +kernel
theorem dX7_takeHome_30 : decode cX7_takeHome 30 = .ok (.aload_n 0, 1) := by decide +kernel
theorem dX7_takeHome_31 : decode cX7_takeHome 31 = .ok (.getfield 22, 3) := by decide +kernel
theorem dX7_takeHome_34 : decode cX7_takeHome 34 = .ok (.iload 6, 2) := by decide +kernel
theorem dX7_takeHome_36 : decode cX7_takeHome 36 = .ok (.aaload, 1) := by decide +kernel
theorem dX7_takeHome_37 : decode cX7_takeHome 37 = .ok (.astore 7, 2) := by decide +kernel
theorem dX7_takeHome_39 : decode cX7_takeHome 39 = .ok (.aload 7, 2) := by decide +kernel
theorem dX7_takeHome_41 : decode cX7_takeHome 41 = .ok (.invokevirtual 167, 3) := by decide +kernel
theorem dX7_takeHome_44 : decode cX7_takeHome 44 = .ok (.ifCond .eq 34, 3) := by decide +kernel
theorem dX7_takeHome_47 : decode cX7_takeHome 47 = .ok (.aload 7, 2) := by decide +kernel
theorem dX7_takeHome_49 : decode cX7_takeHome 49 = .ok (.aload_n 2, 1) := by decide +kernel
theorem dX7_takeHome_50 : decode cX7_takeHome 50 = .ok (.invokevirtual 164, 3) := by decide +kernel
theorem dX7_takeHome_53 : decode cX7_takeHome 53 = .ok (.ifCond .eq 25, 3) := by decide +kernel
theorem dX7_takeHome_56 : decode cX7_takeHome 56 = .ok (.aload_n 0, 1) := by decide +kernel
theorem dX7_takeHome_57 : decode cX7_takeHome 57 = .ok (.aload 7, 2) := by decide +kernel
theorem dX7_takeHome_59 : decode cX7_takeHome 59 = .ok (.invokevirtual 182, 3) := by decide +kernel
theorem dX7_takeHome_62 : decode cX7_takeHome 62 = .ok (.iload 5, 2) := by decide +kernel
theorem dX7_takeHome_64 : decode cX7_takeHome 64 = .ok (.if_icmp .ge 14, 3) := by decide +kernel
theorem dX7_takeHome_67 : decode cX7_takeHome 67 = .ok (.aload 7, 2) := by decide +kernel
theorem dX7_takeHome_69 : decode cX7_takeHome 69 = .ok (.dup, 1) := by decide +kernel
theorem dX7_takeHome_70 : decode cX7_takeHome 70 = .ok (.getfield 119, 3) := by decide +kernel
theorem dX7_takeHome_73 : decode cX7_takeHome 73 = .ok (.iconst 1, 1) := by decide +kernel
theorem dX7_takeHome_74 : decode cX7_takeHome 74 = .ok (.iadd, 1) := by decide +kernel
theorem dX7_takeHome_75 : decode cX7_takeHome 75 = .ok (.putfield 119, 3) := by decide +kernel
theorem dX7_takeHome_78 : decode cX7_takeHome 78 = .ok (.iinc 6 1, 3) := by decide +kernel
theorem dX7_takeHome_81 : decode cX7_takeHome 81 = .ok (.goto (-60), 3) := by decide +kernel
theorem dX7_takeHome_84 : decode cX7_takeHome 84 = .ok (.aload_n 0, 1) := by decide +kernel
theorem dX7_takeHome_85 : decode cX7_takeHome 85 = .ok (.aload_n 1, 1) := by decide +kernel
theorem dX7_takeHome_86 : decode cX7_takeHome 86 = .ok (.aload_n 2, 1) := by decide +kernel
theorem dX7_takeHome_87 : decode cX7_takeHome 87 = .ok (.getfield 276, 3) := by decide +kernel
theorem dX7_takeHome_90 : decode cX7_takeHome 90 = .ok (.iconst 1, 1) := by decide +kernel
theorem dX7_takeHome_91 : decode cX7_takeHome 91 = .ok (.iadd, 1) := by decide +kernel
theorem dX7_takeHome_92 : decode cX7_takeHome 92 = .ok (.invokevirtual 279, 3) := by decide +kernel
theorem dX7_takeHome_95 : decode cX7_takeHome 95 = .ok (.aload_n 1, 1) := by decide +kernel
theorem dX7_takeHome_96 : decode cX7_takeHome 96 = .ok (.aload_n 2, 1) := by decide +kernel
theorem dX7_takeHome_97 : decode cX7_takeHome 97 = .ok (.getfield 237, 3) := by decide +kernel
theorem dX7_takeHome_100 : decode cX7_takeHome 100 = .ok (.putfield 176, 3) := by decide +kernel
theorem dX7_takeHome_103 : decode cX7_takeHome 103 = .ok (.aload_n 1, 1) := by decide +kernel
theorem dX7_takeHome_104 : decode cX7_takeHome 104 = .ok (.iconst 1, 1) := by decide +kernel
theorem dX7_takeHome_105 : decode cX7_takeHome 105 = .ok (.putfield 99, 3) := by decide +kernel
theorem dX7_takeHome_108 : decode cX7_takeHome 108 = .ok (.aload_n 2, 1) := by decide +kernel
theorem dX7_takeHome_109 : decode cX7_takeHome 109 = .ok (.aload_n 1, 1) := by decide +kernel
theorem dX7_takeHome_110 : decode cX7_takeHome 110 = .ok (.getfield 179, 3) := by decide +kernel
theorem dX7_takeHome_113 : decode cX7_takeHome 113 = .ok (.putfield 283, 3) := by decide +kernel
theorem dX7_takeHome_116 : decode cX7_takeHome 116 = .ok (.aload_n 2, 1) := by decide +kernel
theorem dX7_takeHome_117 : decode cX7_takeHome 117 = .ok (.dup, 1) := by decide +kernel
theorem dX7_takeHome_118 : decode cX7_takeHome 118 = .ok (.getfield 286, 3) := by decide +kernel
theorem dX7_takeHome_121 : decode cX7_takeHome 121 = .ok (.iconst 1, 1) := by decide +kernel
theorem dX7_takeHome_122 : decode cX7_takeHome 122 = .ok (.iadd, 1) := by decide +kernel
theorem dX7_takeHome_123 : decode cX7_takeHome 123 = .ok (.putfield 286, 3) := by decide +kernel
theorem dX7_takeHome_126 : decode cX7_takeHome 126 = .ok (.return_, 1) := by decide +kernel
theorem dX7_noteLet_0 : decode cX7_noteLet 0 = .ok (.aload_n 0, 1) := by decide +kernel
theorem dX7_noteLet_1 : decode cX7_noteLet 1 = .ok (.getfield 36, 3) := by decide +kernel
theorem dX7_noteLet_4 : decode cX7_noteLet 4 = .ok (.invokevirtual 264, 3) := by decide +kernel
theorem dX7_noteLet_7 : decode cX7_noteLet 7 = .ok (.istore 6, 2) := by decide +kernel
theorem dX7_noteLet_9 : decode cX7_noteLet 9 = .ok (.aload_n 0, 1) := by decide +kernel
theorem dX7_noteLet_10 : decode cX7_noteLet 10 = .ok (.getfield 36, 3) := by decide +kernel
theorem dX7_noteLet_13 : decode cX7_noteLet 13 = .ok (.iload 6, 2) := by decide +kernel
theorem dX7_noteLet_15 : decode cX7_noteLet 15 = .ok (.iconst 0, 1) := by decide +kernel
theorem dX7_noteLet_16 : decode cX7_noteLet 16 = .ok (.aload_n 1, 1) := by decide +kernel
theorem dX7_noteLet_17 : decode cX7_noteLet 17 = .ok (.getfield 179, 3) := by decide +kernel
theorem dX7_noteLet_20 : decode cX7_noteLet 20 = .ok (.invokevirtual 267, 3) := by decide +kernel
theorem dX7_noteLet_23 : decode cX7_noteLet 23 = .ok (.aload_n 0, 1) := by decide +kernel
theorem dX7_noteLet_24 : decode cX7_noteLet 24 = .ok (.getfield 36, 3) := by decide +kernel
theorem dX7_noteLet_27 : decode cX7_noteLet 27 = .ok (.iload 6, 2) := by decide +kernel
theorem dX7_noteLet_29 : decode cX7_noteLet 29 = .ok (.iconst 1, 1) := by decide +kernel
theorem dX7_noteLet_30 : decode cX7_noteLet 30 = .ok (.aload_n 2, 1) := by decide +kernel
theorem dX7_noteLet_31 : decode cX7_noteLet 31 = .ok (.getfield 237, 3) := by decide +kernel
theorem dX7_noteLet_34 : decode cX7_noteLet 34 = .ok (.invokevirtual 267, 3) := by decide +kernel
theorem dX7_noteLet_37 : decode cX7_noteLet 37 = .ok (.aload_n 0, 1) := by decide +kernel
theorem dX7_noteLet_38 : decode cX7_noteLet 38 = .ok (.getfield 36, 3) := by decide +kernel
theorem dX7_noteLet_41 : decode cX7_noteLet 41 = .ok (.iload 6, 2) := by decide +kernel
theorem dX7_noteLet_43 : decode cX7_noteLet 43 = .ok (.iconst 2, 1) := by decide +kernel
theorem dX7_noteLet_44 : decode cX7_noteLet 44 = .ok (.aload_n 0, 1) := by decide +kernel
theorem dX7_noteLet_45 : decode cX7_noteLet 45 = .ok (.getfield 65, 3) := by decide +kernel
theorem dX7_noteLet_48 : decode cX7_noteLet 48 = .ok (.invokevirtual 267, 3) := by decide +kernel
theorem dX7_noteLet_51 : decode cX7_noteLet 51 = .ok (.aload_n 0, 1) := by decide +kernel
theorem dX7_noteLet_52 : decode cX7_noteLet 52 = .ok (.getfield 36, 3) := by decide +kernel
theorem dX7_noteLet_55 : decode cX7_noteLet 55 = .ok (.iload 6, 2) := by decide +kernel
theorem dX7_noteLet_57 : decode cX7_noteLet 57 = .ok (.iconst 3, 1) := by decide +kernel
theorem dX7_noteLet_58 : decode cX7_noteLet 58 = .ok (.aload_n 2, 1) := by decide +kernel
theorem dX7_noteLet_59 : decode cX7_noteLet 59 = .ok (.getfield 276, 3) := by decide +kernel
theorem dX7_noteLet_62 : decode cX7_noteLet 62 = .ok (.iconst 1, 1) := by decide +kernel
theorem dX7_noteLet_63 : decode cX7_noteLet 63 = .ok (.iadd, 1) := by decide +kernel
theorem dX7_noteLet_64 : decode cX7_noteLet 64 = .ok (.invokevirtual 267, 3) := by decide +kernel
theorem dX7_noteLet_67 : decode cX7_noteLet 67 = .ok (.aload_n 0, 1) := by decide +kernel
theorem dX7_noteLet_68 : decode cX7_noteLet 68 = .ok (.getfield 36, 3) := by decide +kernel
theorem dX7_noteLet_71 : decode cX7_noteLet 71 = .ok (.iload 6, 2) := by decide +kernel
theorem dX7_noteLet_73 : decode cX7_noteLet 73 = .ok (.iconst 4, 1) := by decide +kernel
theorem dX7_noteLet_74 : decode cX7_noteLet 74 = .ok (.iload_n 3, 1) := by decide +kernel
theorem dX7_noteLet_75 : decode cX7_noteLet 75 = .ok (.iconst 1, 1) := by decide +kernel
theorem dX7_noteLet_76 : decode cX7_noteLet 76 = .ok (.iand, 1) := by decide +kernel
theorem dX7_noteLet_77 : decode cX7_noteLet 77 = .ok (.ifCond .eq 7, 3) := by decide +kernel
theorem dX7_noteLet_80 : decode cX7_noteLet 80 = .ok (.iconst 1, 1) := by decide +kernel
theorem dX7_noteLet_81 : decode cX7_noteLet 81 = .ok (.goto 4, 3) := by decide +kernel
theorem dX7_noteLet_84 : decode cX7_noteLet 84 = .ok (.iconst 0, 1) := by decide +kernel
theorem dX7_noteLet_85 : decode cX7_noteLet 85 = .ok (.invokevirtual 267, 3) := by decide +kernel
theorem dX7_noteLet_88 : decode cX7_noteLet 88 = .ok (.aload_n 0, 1) := by decide +kernel
theorem dX7_noteLet_89 : decode cX7_noteLet 89 = .ok (.getfield 36, 3) := by decide +kernel
theorem dX7_noteLet_92 : decode cX7_noteLet 92 = .ok (.iload 6, 2) := by decide +kernel
theorem dX7_noteLet_94 : decode cX7_noteLet 94 = .ok (.iconst 5, 1) := by decide +kernel
theorem dX7_noteLet_95 : decode cX7_noteLet 95 = .ok (.iload_n 3, 1) := by decide +kernel
theorem dX7_noteLet_96 : decode cX7_noteLet 96 = .ok (.iconst 2, 1) := by decide +kernel
theorem dX7_noteLet_97 : decode cX7_noteLet 97 = .ok (.iand, 1) := by decide +kernel
theorem dX7_noteLet_98 : decode cX7_noteLet 98 = .ok (.ifCond .eq 7, 3) := by decide +kernel
theorem dX7_noteLet_101 : decode cX7_noteLet 101 = .ok (.iconst 1, 1) := by decide +kernel
theorem dX7_noteLet_102 : decode cX7_noteLet 102 = .ok (.goto 4, 3) := by decide +kernel
theorem dX7_noteLet_105 : decode cX7_noteLet 105 = .ok (.iconst 0, 1) := by decide +kernel
theorem dX7_noteLet_106 : decode cX7_noteLet 106 = .ok (.invokevirtual 267, 3) := by decide +kernel
theorem dX7_noteLet_109 : decode cX7_noteLet 109 = .ok (.aload_n 0, 1) := by decide +kernel
theorem dX7_noteLet_110 : decode cX7_noteLet 110 = .ok (.getfield 36, 3) := by decide +kernel
theorem dX7_noteLet_113 : decode cX7_noteLet 113 = .ok (.iload 6, 2) := by decide +kernel
theorem dX7_noteLet_115 : decode cX7_noteLet 115 = .ok (.bipush 6, 2) := by decide +kernel
theorem dX7_noteLet_117 : decode cX7_noteLet 117 = .ok (.iload 4, 2) := by decide +kernel
theorem dX7_noteLet_119 : decode cX7_noteLet 119 = .ok (.invokevirtual 267, 3) := by decide +kernel
theorem dX7_noteLet_122 : decode cX7_noteLet 122 = .ok (.aload_n 0, 1) := by decide +kernel
theorem dX7_noteLet_123 : decode cX7_noteLet 123 = .ok (.getfield 36, 3) := by decide +kernel
theorem dX7_noteLet_126 : decode cX7_noteLet 126 = .ok (.iload 6, 2) := by decide +kernel
theorem dX7_noteLet_128 : decode cX7_noteLet 128 = .ok (.bipush 7, 2) := by decide +kernel
theorem dX7_noteLet_130 : decode cX7_noteLet 130 = .ok (.iload 5, 2) := by decide +kernel
theorem dX7_noteLet_132 : decode cX7_noteLet 132 = .ok (.invokevirtual 267, 3) := by decide +kernel
theorem dX7_noteLet_135 : decode cX7_noteLet 135 = .ok (.aload_n 0, 1) := by decide +kernel
theorem dX7_noteLet_136 : decode cX7_noteLet 136 = .ok (.getfield 36, 3) := by decide +kernel
theorem dX7_noteLet_139 : decode cX7_noteLet 139 = .ok (.iload 6, 2) := by decide +kernel
theorem dX7_noteLet_141 : decode cX7_noteLet 141 = .ok (.bipush 8, 2) := by decide +kernel
theorem dX7_noteLet_143 : decode cX7_noteLet 143 = .ok (.aload_n 1, 1) := by decide +kernel
theorem dX7_noteLet_144 : decode cX7_noteLet 144 = .ok (.getfield 176, 3) := by decide +kernel
theorem dX7_noteLet_147 : decode cX7_noteLet 147 = .ok (.iconst (-1), 1) := by decide +kernel
theorem dX7_noteLet_148 : decode cX7_noteLet 148 = .ok (.if_icmp .eq 7, 3) := by decide +kernel
theorem dX7_noteLet_151 : decode cX7_noteLet 151 = .ok (.iconst 1, 1) := by decide +kernel
theorem dX7_noteLet_152 : decode cX7_noteLet 152 = .ok (.goto 4, 3) := by decide +kernel
theorem dX7_noteLet_155 : decode cX7_noteLet 155 = .ok (.iconst 0, 1) := by decide +kernel
theorem dX7_noteLet_156 : decode cX7_noteLet 156 = .ok (.invokevirtual 267, 3) := by decide +kernel
theorem dX7_noteLet_159 : decode cX7_noteLet 159 = .ok (.aload_n 0, 1) := by decide +kernel
theorem dX7_noteLet_160 : decode cX7_noteLet 160 = .ok (.getfield 36, 3) := by decide +kernel
theorem dX7_noteLet_163 : decode cX7_noteLet 163 = .ok (.iload 6, 2) := by decide +kernel
theorem dX7_noteLet_165 : decode cX7_noteLet 165 = .ok (.bipush 9, 2) := by decide +kernel
theorem dX7_noteLet_167 : decode cX7_noteLet 167 = .ok (.aload_n 1, 1) := by decide +kernel
theorem dX7_noteLet_168 : decode cX7_noteLet 168 = .ok (.getfield 137, 3) := by decide +kernel
theorem dX7_noteLet_171 : decode cX7_noteLet 171 = .ok (.aload_n 2, 1) := by decide +kernel
theorem dX7_noteLet_172 : decode cX7_noteLet 172 = .ok (.getfield 140, 3) := by decide +kernel
theorem dX7_noteLet_175 : decode cX7_noteLet 175 = .ok (.if_icmp .ne 7, 3) := by decide +kernel
theorem dX7_noteLet_178 : decode cX7_noteLet 178 = .ok (.iconst 1, 1) := by decide +kernel
theorem dX7_noteLet_179 : decode cX7_noteLet 179 = .ok (.goto 4, 3) := by decide +kernel
theorem dX7_noteLet_182 : decode cX7_noteLet 182 = .ok (.iconst 0, 1) := by decide +kernel
theorem dX7_noteLet_183 : decode cX7_noteLet 183 = .ok (.invokevirtual 267, 3) := by decide +kernel
theorem dX7_noteLet_186 : decode cX7_noteLet 186 = .ok (.aload_n 0, 1) := by decide +kernel
theorem dX7_noteLet_187 : decode cX7_noteLet 187 = .ok (.getfield 36, 3) := by decide +kernel
theorem dX7_noteLet_190 : decode cX7_noteLet 190 = .ok (.iload 6, 2) := by decide +kernel
theorem dX7_noteLet_192 : decode cX7_noteLet 192 = .ok (.bipush 10, 2) := by decide +kernel
theorem dX7_noteLet_194 : decode cX7_noteLet 194 = .ok (.aload_n 2, 1) := by decide +kernel
theorem dX7_noteLet_195 : decode cX7_noteLet 195 = .ok (.getfield 140, 3) := by decide +kernel
theorem dX7_noteLet_198 : decode cX7_noteLet 198 = .ok (.invokevirtual 267, 3) := by decide +kernel
theorem dX7_noteLet_201 : decode cX7_noteLet 201 = .ok (.return_, 1) := by decide +kernel
theorem dX7_vacate_0 : decode cX7_vacate 0 = .ok (.aload_n 0, 1) := by decide +kernel
theorem dX7_vacate_1 : decode cX7_vacate 1 = .ok (.aload_n 1, 1) := by decide +kernel
theorem dX7_vacate_2 : decode cX7_vacate 2 = .ok (.getfield 176, 3) := by decide +kernel
theorem dX7_vacate_5 : decode cX7_vacate 5 = .ok (.invokevirtual 212, 3) := by decide +kernel
theorem dX7_vacate_8 : decode cX7_vacate 8 = .ok (.astore_n 3, 1) := by decide +kernel
theorem dX7_vacate_9 : decode cX7_vacate 9 = .ok (.aload_n 3, 1) := by decide +kernel
theorem dX7_vacate_10 : decode cX7_vacate 10 = .ok (.ifnull 18, 3) := by decide +kernel
theorem dX7_vacate_13 : decode cX7_vacate 13 = .ok (.aload_n 3, 1) := by decide +kernel
theorem dX7_vacate_14 : decode cX7_vacate 14 = .ok (.iconst (-1), 1) := by decide +kernel
theorem dX7_vacate_15 : decode cX7_vacate 15 = .ok (.putfield 283, 3) := by decide +kernel
theorem dX7_vacate_18 : decode cX7_vacate 18 = .ok (.aload_n 3, 1) := by decide +kernel
theorem dX7_vacate_19 : decode cX7_vacate 19 = .ok (.iconst 1, 1) := by decide +kernel
theorem dX7_vacate_20 : decode cX7_vacate 20 = .ok (.putfield 288, 3) := by decide +kernel
theorem dX7_vacate_23 : decode cX7_vacate 23 = .ok (.aload_n 3, 1) := by decide +kernel
theorem dX7_vacate_24 : decode cX7_vacate 24 = .ok (.iload_n 2, 1) := by decide +kernel
theorem dX7_vacate_25 : decode cX7_vacate 25 = .ok (.putfield 276, 3) := by decide +kernel
theorem dX7_vacate_28 : decode cX7_vacate 28 = .ok (.aload_n 1, 1) := by decide +kernel
theorem dX7_vacate_29 : decode cX7_vacate 29 = .ok (.iconst (-1), 1) := by decide +kernel
theorem dX7_vacate_30 : decode cX7_vacate 30 = .ok (.putfield 176, 3) := by decide +kernel
theorem dX7_vacate_33 : decode cX7_vacate 33 = .ok (.return_, 1) := by decide +kernel
theorem dX7_beginNextWeek_0 : decode cX7_beginNextWeek 0 = .ok (.iconst 0, 1) := by decide +kernel
theorem dX7_beginNextWeek_1 : decode cX7_beginNextWeek 1 = .ok (.istore_n 1, 1) := by decide +kernel
theorem dX7_beginNextWeek_2 : decode cX7_beginNextWeek 2 = .ok (.iload_n 1, 1) := by decide +kernel
theorem dX7_beginNextWeek_3 : decode cX7_beginNextWeek 3 = .ok (.aload_n 0, 1) := by decide +kernel
theorem dX7_beginNextWeek_4 : decode cX7_beginNextWeek 4 = .ok (.getfield 59, 3) := by decide +kernel
theorem dX7_beginNextWeek_7 : decode cX7_beginNextWeek 7 = .ok (.if_icmp .ge 19, 3) := by decide +kernel
theorem dX7_beginNextWeek_10 : decode cX7_beginNextWeek 10 = .ok (.aload_n 0, 1) := by decide +kernel
theorem dX7_beginNextWeek_11 : decode cX7_beginNextWeek 11 = .ok (.getfield 11, 3) := by decide +kernel
theorem dX7_beginNextWeek_14 : decode cX7_beginNextWeek 14 = .ok (.iload_n 1, 1) := by decide +kernel
theorem dX7_beginNextWeek_15 : decode cX7_beginNextWeek 15 = .ok (.aaload, 1) := by decide +kernel
theorem dX7_beginNextWeek_16 : decode cX7_beginNextWeek 16 = .ok (.iconst 0, 1) := by decide +kernel
theorem dX7_beginNextWeek_17 : decode cX7_beginNextWeek 17 = .ok (.putfield 288, 3) := by decide +kernel
theorem dX7_beginNextWeek_20 : decode cX7_beginNextWeek 20 = .ok (.iinc 1 1, 3) := by decide +kernel
theorem dX7_beginNextWeek_23 : decode cX7_beginNextWeek 23 = .ok (.goto (-21), 3) := by decide +kernel
theorem dX7_beginNextWeek_26 : decode cX7_beginNextWeek 26 = .ok (.iconst 0, 1) := by decide +kernel
theorem dX7_beginNextWeek_27 : decode cX7_beginNextWeek 27 = .ok (.istore_n 1, 1) := by decide +kernel
theorem dX7_beginNextWeek_28 : decode cX7_beginNextWeek 28 = .ok (.iload_n 1, 1) := by decide +kernel
theorem dX7_beginNextWeek_29 : decode cX7_beginNextWeek 29 = .ok (.aload_n 0, 1) := by decide +kernel
theorem dX7_beginNextWeek_30 : decode cX7_beginNextWeek 30 = .ok (.getfield 62, 3) := by decide +kernel
theorem dX7_beginNextWeek_33 : decode cX7_beginNextWeek 33 = .ok (.if_icmp .ge 43, 3) := by decide +kernel
theorem dX7_beginNextWeek_36 : decode cX7_beginNextWeek 36 = .ok (.aload_n 0, 1) := by decide +kernel
theorem dX7_beginNextWeek_37 : decode cX7_beginNextWeek 37 = .ok (.getfield 22, 3) := by decide +kernel
theorem dX7_beginNextWeek_40 : decode cX7_beginNextWeek 40 = .ok (.iload_n 1, 1) := by decide +kernel
theorem dX7_beginNextWeek_41 : decode cX7_beginNextWeek 41 = .ok (.aaload, 1) := by decide +kernel
theorem dX7_beginNextWeek_42 : decode cX7_beginNextWeek 42 = .ok (.iconst 0, 1) := by decide +kernel
theorem dX7_beginNextWeek_43 : decode cX7_beginNextWeek 43 = .ok (.putfield 230, 3) := by decide +kernel
theorem dX7_beginNextWeek_46 : decode cX7_beginNextWeek 46 = .ok (.aload_n 0, 1) := by decide +kernel
theorem dX7_beginNextWeek_47 : decode cX7_beginNextWeek 47 = .ok (.getfield 22, 3) := by decide +kernel
theorem dX7_beginNextWeek_50 : decode cX7_beginNextWeek 50 = .ok (.iload_n 1, 1) := by decide +kernel
theorem dX7_beginNextWeek_51 : decode cX7_beginNextWeek 51 = .ok (.aaload, 1) := by decide +kernel
theorem dX7_beginNextWeek_52 : decode cX7_beginNextWeek 52 = .ok (.iconst 0, 1) := by decide +kernel
theorem dX7_beginNextWeek_53 : decode cX7_beginNextWeek 53 = .ok (.aload_n 0, 1) := by decide +kernel
theorem dX7_beginNextWeek_54 : decode cX7_beginNextWeek 54 = .ok (.getfield 22, 3) := by decide +kernel
theorem dX7_beginNextWeek_57 : decode cX7_beginNextWeek 57 = .ok (.iload_n 1, 1) := by decide +kernel
theorem dX7_beginNextWeek_58 : decode cX7_beginNextWeek 58 = .ok (.aaload, 1) := by decide +kernel
theorem dX7_beginNextWeek_59 : decode cX7_beginNextWeek 59 = .ok (.getfield 203, 3) := by decide +kernel
theorem dX7_beginNextWeek_62 : decode cX7_beginNextWeek 62 = .ok (.iconst 1, 1) := by decide +kernel
theorem dX7_beginNextWeek_63 : decode cX7_beginNextWeek 63 = .ok (.isub, 1) := by decide +kernel
theorem dX7_beginNextWeek_64 : decode cX7_beginNextWeek 64 = .ok (.invokestatic 126, 3) := by decide +kernel
theorem dX7_beginNextWeek_67 : decode cX7_beginNextWeek 67 = .ok (.putfield 203, 3) := by decide +kernel
theorem dX7_beginNextWeek_70 : decode cX7_beginNextWeek 70 = .ok (.iinc 1 1, 3) := by decide +kernel
theorem dX7_beginNextWeek_73 : decode cX7_beginNextWeek 73 = .ok (.goto (-45), 3) := by decide +kernel
theorem dX7_beginNextWeek_76 : decode cX7_beginNextWeek 76 = .ok (.aload_n 0, 1) := by decide +kernel
theorem dX7_beginNextWeek_77 : decode cX7_beginNextWeek 77 = .ok (.dup, 1) := by decide +kernel
theorem dX7_beginNextWeek_78 : decode cX7_beginNextWeek 78 = .ok (.getfield 65, 3) := by decide +kernel
theorem dX7_beginNextWeek_81 : decode cX7_beginNextWeek 81 = .ok (.iconst 1, 1) := by decide +kernel
theorem dX7_beginNextWeek_82 : decode cX7_beginNextWeek 82 = .ok (.iadd, 1) := by decide +kernel
theorem dX7_beginNextWeek_83 : decode cX7_beginNextWeek 83 = .ok (.putfield 65, 3) := by decide +kernel
theorem dX7_beginNextWeek_86 : decode cX7_beginNextWeek 86 = .ok (.return_, 1) := by decide +kernel
theorem dX7_drawn_0 : decode cX7_drawn 0 = .ok (.aload_n 0, 1) := by decide +kernel
theorem dX7_drawn_1 : decode cX7_drawn 1 = .ok (.aload_n 1, 1) := by decide +kernel
theorem dX7_drawn_2 : decode cX7_drawn 2 = .ok (.invokevirtual 291, 3) := by decide +kernel
theorem dX7_drawn_5 : decode cX7_drawn 5 = .ok (.istore_n 3, 1) := by decide +kernel
theorem dX7_drawn_6 : decode cX7_drawn 6 = .ok (.iconst 0, 1) := by decide +kernel
theorem dX7_drawn_7 : decode cX7_drawn 7 = .ok (.istore 4, 2) := by decide +kernel
theorem dX7_drawn_9 : decode cX7_drawn 9 = .ok (.iconst 0, 1) := by decide +kernel
theorem dX7_drawn_10 : decode cX7_drawn 10 = .ok (.istore 5, 2) := by decide +kernel
theorem dX7_drawn_12 : decode cX7_drawn 12 = .ok (.iload 5, 2) := by decide +kernel
theorem dX7_drawn_14 : decode cX7_drawn 14 = .ok (.aload_n 0, 1) := by decide +kernel
theorem dX7_drawn_15 : decode cX7_drawn 15 = .ok (.getfield 62, 3) := by decide +kernel
theorem dX7_drawn_18 : decode cX7_drawn 18 = .ok (.if_icmp .ge 44, 3) := by decide +kernel
theorem dX7_drawn_21 : decode cX7_drawn 21 = .ok (.iload 4, 2) := by decide +kernel
theorem dX7_drawn_23 : decode cX7_drawn 23 = .ok (.iload_n 3, 1) := by decide +kernel
theorem dX7_drawn_24 : decode cX7_drawn 24 = .ok (.aload_n 0, 1) := by decide +kernel
theorem dX7_drawn_25 : decode cX7_drawn 25 = .ok (.getfield 22, 3) := by decide +kernel
theorem dX7_drawn_28 : decode cX7_drawn 28 = .ok (.iload 5, 2) := by decide +kernel
theorem dX7_drawn_30 : decode cX7_drawn 30 = .ok (.aaload, 1) := by decide +kernel
theorem dX7_drawn_31 : decode cX7_drawn 31 = .ok (.getfield 103, 3) := by decide +kernel
theorem dX7_drawn_34 : decode cX7_drawn 34 = .ok (.iand, 1) := by decide +kernel
theorem dX7_drawn_35 : decode cX7_drawn 35 = .ok (.ifCond .eq 17, 3) := by decide +kernel
theorem dX7_drawn_38 : decode cX7_drawn 38 = .ok (.aload_n 0, 1) := by decide +kernel
theorem dX7_drawn_39 : decode cX7_drawn 39 = .ok (.aload_n 0, 1) := by decide +kernel
theorem dX7_drawn_40 : decode cX7_drawn 40 = .ok (.getfield 22, 3) := by decide +kernel
theorem dX7_drawn_43 : decode cX7_drawn 43 = .ok (.iload 5, 2) := by decide +kernel
theorem dX7_drawn_45 : decode cX7_drawn 45 = .ok (.aaload, 1) := by decide +kernel
theorem dX7_drawn_46 : decode cX7_drawn 46 = .ok (.invokevirtual 294, 3) := by decide +kernel
theorem dX7_drawn_49 : decode cX7_drawn 49 = .ok (.goto 4, 3) := by decide +kernel
theorem dX7_drawn_52 : decode cX7_drawn 52 = .ok (.iconst 0, 1) := by decide +kernel
theorem dX7_drawn_53 : decode cX7_drawn 53 = .ok (.iadd, 1) := by decide +kernel
theorem dX7_drawn_54 : decode cX7_drawn 54 = .ok (.istore 4, 2) := by decide +kernel
theorem dX7_drawn_56 : decode cX7_drawn 56 = .ok (.iinc 5 1, 3) := by decide +kernel
theorem dX7_drawn_59 : decode cX7_drawn 59 = .ok (.goto (-47), 3) := by decide +kernel
theorem dX7_drawn_62 : decode cX7_drawn 62 = .ok (.iload 4, 2) := by decide +kernel
theorem dX7_drawn_64 : decode cX7_drawn 64 = .ok (.ifCond .le 7, 3) := by decide +kernel
theorem dX7_drawn_67 : decode cX7_drawn 67 = .ok (.iload_n 2, 1) := by decide +kernel
theorem dX7_drawn_68 : decode cX7_drawn 68 = .ok (.ifCond .ge 5, 3) := by decide +kernel
theorem dX7_drawn_71 : decode cX7_drawn 71 = .ok (.aconst_null, 1) := by decide +kernel
theorem dX7_drawn_72 : decode cX7_drawn 72 = .ok (.areturn, 1) := by decide +kernel
theorem dX7_drawn_73 : decode cX7_drawn 73 = .ok (.iload_n 2, 1) := by decide +kernel
theorem dX7_drawn_74 : decode cX7_drawn 74 = .ok (.iload 4, 2) := by decide +kernel
theorem dX7_drawn_76 : decode cX7_drawn 76 = .ok (.irem, 1) := by decide +kernel
theorem dX7_drawn_77 : decode cX7_drawn 77 = .ok (.istore 5, 2) := by decide +kernel
theorem dX7_drawn_79 : decode cX7_drawn 79 = .ok (.iconst 0, 1) := by decide +kernel
theorem dX7_drawn_80 : decode cX7_drawn 80 = .ok (.istore 6, 2) := by decide +kernel
theorem dX7_drawn_82 : decode cX7_drawn 82 = .ok (.iload 6, 2) := by decide +kernel
theorem dX7_drawn_84 : decode cX7_drawn 84 = .ok (.aload_n 0, 1) := by decide +kernel
theorem dX7_drawn_85 : decode cX7_drawn 85 = .ok (.getfield 62, 3) := by decide +kernel
theorem dX7_drawn_88 : decode cX7_drawn 88 = .ok (.if_icmp .ge 53, 3) := by decide +kernel
theorem dX7_drawn_91 : decode cX7_drawn 91 = .ok (.iload_n 3, 1) := by decide +kernel
theorem dX7_drawn_92 : decode cX7_drawn 92 = .ok (.aload_n 0, 1) := by decide +kernel
theorem dX7_drawn_93 : decode cX7_drawn 93 = .ok (.getfield 22, 3) := by decide +kernel
theorem dX7_drawn_96 : decode cX7_drawn 96 = .ok (.iload 6, 2) := by decide +kernel
theorem dX7_drawn_98 : decode cX7_drawn 98 = .ok (.aaload, 1) := by decide +kernel
theorem dX7_drawn_99 : decode cX7_drawn 99 = .ok (.getfield 103, 3) := by decide +kernel
theorem dX7_drawn_102 : decode cX7_drawn 102 = .ok (.iand, 1) := by decide +kernel
theorem dX7_drawn_103 : decode cX7_drawn 103 = .ok (.ifCond .eq 32, 3) := by decide +kernel
theorem dX7_drawn_106 : decode cX7_drawn 106 = .ok (.iload 5, 2) := by decide +kernel
theorem dX7_drawn_108 : decode cX7_drawn 108 = .ok (.aload_n 0, 1) := by decide +kernel
theorem dX7_drawn_109 : decode cX7_drawn 109 = .ok (.aload_n 0, 1) := by decide +kernel
theorem dX7_drawn_110 : decode cX7_drawn 110 = .ok (.getfield 22, 3) := by decide +kernel
theorem dX7_drawn_113 : decode cX7_drawn 113 = .ok (.iload 6, 2) := by decide +kernel
theorem dX7_drawn_115 : decode cX7_drawn 115 = .ok (.aaload, 1) := by decide +kernel
theorem dX7_drawn_116 : decode cX7_drawn 116 = .ok (.invokevirtual 294, 3) := by decide +kernel
theorem dX7_drawn_119 : decode cX7_drawn 119 = .ok (.isub, 1) := by decide +kernel
theorem dX7_drawn_120 : decode cX7_drawn 120 = .ok (.istore 5, 2) := by decide +kernel
theorem dX7_drawn_122 : decode cX7_drawn 122 = .ok (.iload 5, 2) := by decide +kernel
theorem dX7_drawn_124 : decode cX7_drawn 124 = .ok (.ifCond .ge 11, 3) := by decide +kernel
theorem dX7_drawn_127 : decode cX7_drawn 127 = .ok (.aload_n 0, 1) := by decide +kernel
theorem dX7_drawn_128 : decode cX7_drawn 128 = .ok (.getfield 22, 3) := by decide +kernel
theorem dX7_drawn_131 : decode cX7_drawn 131 = .ok (.iload 6, 2) := by decide +kernel
theorem dX7_drawn_133 : decode cX7_drawn 133 = .ok (.aaload, 1) := by decide +kernel
theorem dX7_drawn_134 : decode cX7_drawn 134 = .ok (.areturn, 1) := by decide +kernel
theorem dX7_drawn_135 : decode cX7_drawn 135 = .ok (.iinc 6 1, 3) := by decide +kernel
theorem dX7_drawn_138 : decode cX7_drawn 138 = .ok (.goto (-56), 3) := by decide +kernel
theorem dX7_drawn_141 : decode cX7_drawn 141 = .ok (.aconst_null, 1) := by decide +kernel
theorem dX7_drawn_142 : decode cX7_drawn 142 = .ok (.areturn, 1) := by decide +kernel
theorem dX7_lotsOf_0 : decode cX7_lotsOf 0 = .ok (.iconst 1, 1) := by decide +kernel
theorem dX7_lotsOf_1 : decode cX7_lotsOf 1 = .ok (.aload_n 0, 1) := by decide +kernel
theorem dX7_lotsOf_2 : decode cX7_lotsOf 2 = .ok (.aload_n 1, 1) := by decide +kernel
theorem dX7_lotsOf_3 : decode cX7_lotsOf 3 = .ok (.invokevirtual 157, 3) := by decide +kernel
theorem dX7_lotsOf_6 : decode cX7_lotsOf 6 = .ok (.bipush 7, 2) := by decide +kernel
theorem dX7_lotsOf_8 : decode cX7_lotsOf 8 = .ok (.idiv, 1) := by decide +kernel
theorem dX7_lotsOf_9 : decode cX7_lotsOf 9 = .ok (.invokestatic 126, 3) := by decide +kernel
theorem dX7_lotsOf_12 : decode cX7_lotsOf 12 = .ok (.ireturn, 1) := by decide +kernel
theorem dX7_envyEachOther_0 : decode cX7_envyEachOther 0 = .ok (.aload_n 0, 1) := by decide +kernel
theorem dX7_envyEachOther_1 : decode cX7_envyEachOther 1 = .ok (.aload_n 1, 1) := by decide +kernel
theorem dX7_envyEachOther_2 : decode cX7_envyEachOther 2 = .ok (.getfield 176, 3) := by decide +kernel
theorem dX7_envyEachOther_5 : decode cX7_envyEachOther 5 = .ok (.invokevirtual 212, 3) := by decide +kernel
theorem dX7_envyEachOther_8 : decode cX7_envyEachOther 8 = .ok (.astore_n 3, 1) := by decide +kernel
theorem dX7_envyEachOther_9 : decode cX7_envyEachOther 9 = .ok (.aload_n 0, 1) := by decide +kernel
theorem dX7_envyEachOther_10 : decode cX7_envyEachOther 10 = .ok (.aload_n 2, 1) := by decide +kernel
theorem dX7_envyEachOther_11 : decode cX7_envyEachOther 11 = .ok (.getfield 176, 3) := by decide +kernel
theorem dX7_envyEachOther_14 : decode cX7_envyEachOther 14 = .ok (.invokevirtual 212, 3) := by decide +kernel
theorem dX7_envyEachOther_17 : decode cX7_envyEachOther 17 = .ok (.astore 4, 2) := by decide +kernel
theorem dX7_envyEachOther_19 : decode cX7_envyEachOther 19 = .ok (.aload_n 3, 1) := by decide +kernel
theorem dX7_envyEachOther_20 : decode cX7_envyEachOther 20 = .ok (.ifnull 8, 3) := by decide +kernel
theorem dX7_envyEachOther_23 : decode cX7_envyEachOther 23 = .ok (.aload 4, 2) := by decide +kernel
theorem dX7_envyEachOther_25 : decode cX7_envyEachOther 25 = .ok (.ifnonnull 5, 3) := by decide +kernel
theorem dX7_envyEachOther_28 : decode cX7_envyEachOther 28 = .ok (.iconst 0, 1) := by decide +kernel
theorem dX7_envyEachOther_29 : decode cX7_envyEachOther 29 = .ok (.ireturn, 1) := by decide +kernel
theorem dX7_envyEachOther_30 : decode cX7_envyEachOther 30 = .ok (.aload_n 1, 1) := by decide +kernel
theorem dX7_envyEachOther_31 : decode cX7_envyEachOther 31 = .ok (.aload 4, 2) := by decide +kernel
theorem dX7_envyEachOther_33 : decode cX7_envyEachOther 33 = .ok (.invokevirtual 297, 3) := by decide +kernel
theorem dX7_envyEachOther_36 : decode cX7_envyEachOther 36 = .ok (.ifCond .eq 15, 3) := by decide +kernel
theorem dX7_envyEachOther_39 : decode cX7_envyEachOther 39 = .ok (.aload_n 2, 1) := by decide +kernel
theorem dX7_envyEachOther_40 : decode cX7_envyEachOther 40 = .ok (.aload_n 3, 1) := by decide +kernel
theorem dX7_envyEachOther_41 : decode cX7_envyEachOther 41 = .ok (.invokevirtual 297, 3) := by decide +kernel
theorem dX7_envyEachOther_44 : decode cX7_envyEachOther 44 = .ok (.ifCond .eq 7, 3) := by decide +kernel
theorem dX7_envyEachOther_47 : decode cX7_envyEachOther 47 = .ok (.iconst 1, 1) := by decide +kernel
theorem dX7_envyEachOther_48 : decode cX7_envyEachOther 48 = .ok (.goto 4, 3) := by decide +kernel
theorem dX7_envyEachOther_51 : decode cX7_envyEachOther 51 = .ok (.iconst 0, 1) := by decide +kernel
theorem dX7_envyEachOther_52 : decode cX7_envyEachOther 52 = .ok (.ireturn, 1) := by decide +kernel
theorem dX7_countEnvy_0 : decode cX7_countEnvy 0 = .ok (.iconst 0, 1) := by decide +kernel
theorem dX7_countEnvy_1 : decode cX7_countEnvy 1 = .ok (.istore_n 1, 1) := by decide +kernel
theorem dX7_countEnvy_2 : decode cX7_countEnvy 2 = .ok (.iconst 0, 1) := by decide +kernel
theorem dX7_countEnvy_3 : decode cX7_countEnvy 3 = .ok (.istore_n 2, 1) := by decide +kernel
theorem dX7_countEnvy_4 : decode cX7_countEnvy 4 = .ok (.iload_n 2, 1) := by decide +kernel
theorem dX7_countEnvy_5 : decode cX7_countEnvy 5 = .ok (.aload_n 0, 1) := by decide +kernel
theorem dX7_countEnvy_6 : decode cX7_countEnvy 6 = .ok (.getfield 62, 3) := by decide +kernel
theorem dX7_countEnvy_9 : decode cX7_countEnvy 9 = .ok (.if_icmp .ge 49, 3) := by decide +kernel
theorem dX7_countEnvy_12 : decode cX7_countEnvy 12 = .ok (.iload_n 2, 1) := by decide +kernel
theorem dX7_countEnvy_13 : decode cX7_countEnvy 13 = .ok (.iconst 1, 1) := by decide +kernel
theorem dX7_countEnvy_14 : decode cX7_countEnvy 14 = .ok (.iadd, 1) := by decide +kernel
theorem dX7_countEnvy_15 : decode cX7_countEnvy 15 = .ok (.istore_n 3, 1) := by decide +kernel
theorem dX7_countEnvy_16 : decode cX7_countEnvy 16 = .ok (.iload_n 3, 1) := by decide +kernel
theorem dX7_countEnvy_17 : decode cX7_countEnvy 17 = .ok (.aload_n 0, 1) := by decide +kernel
theorem dX7_countEnvy_18 : decode cX7_countEnvy 18 = .ok (.getfield 62, 3) := by decide +kernel
theorem dX7_countEnvy_21 : decode cX7_countEnvy 21 = .ok (.if_icmp .ge 31, 3) := by decide +kernel
theorem dX7_countEnvy_24 : decode cX7_countEnvy 24 = .ok (.aload_n 0, 1) := by decide +kernel
theorem dX7_countEnvy_25 : decode cX7_countEnvy 25 = .ok (.aload_n 0, 1) := by decide +kernel
theorem dX7_countEnvy_26 : decode cX7_countEnvy 26 = .ok (.getfield 22, 3) := by decide +kernel
theorem dX7_countEnvy_29 : decode cX7_countEnvy 29 = .ok (.iload_n 2, 1) := by decide +kernel
theorem dX7_countEnvy_30 : decode cX7_countEnvy 30 = .ok (.aaload, 1) := by decide +kernel
theorem dX7_countEnvy_31 : decode cX7_countEnvy 31 = .ok (.aload_n 0, 1) := by decide +kernel
theorem dX7_countEnvy_32 : decode cX7_countEnvy 32 = .ok (.getfield 22, 3) := by decide +kernel
theorem dX7_countEnvy_35 : decode cX7_countEnvy 35 = .ok (.iload_n 3, 1) := by decide +kernel
theorem dX7_countEnvy_36 : decode cX7_countEnvy 36 = .ok (.aaload, 1) := by decide +kernel
theorem dX7_countEnvy_37 : decode cX7_countEnvy 37 = .ok (.invokevirtual 300, 3) := by decide +kernel
theorem dX7_countEnvy_40 : decode cX7_countEnvy 40 = .ok (.ifCond .eq 6, 3) := by decide +kernel
theorem dX7_countEnvy_43 : decode cX7_countEnvy 43 = .ok (.iinc 1 1, 3) := by decide +kernel
theorem dX7_countEnvy_46 : decode cX7_countEnvy 46 = .ok (.iinc 3 1, 3) := by decide +kernel
theorem dX7_countEnvy_49 : decode cX7_countEnvy 49 = .ok (.goto (-33), 3) := by decide +kernel
theorem dX7_countEnvy_52 : decode cX7_countEnvy 52 = .ok (.iinc 2 1, 3) := by decide +kernel
theorem dX7_countEnvy_55 : decode cX7_countEnvy 55 = .ok (.goto (-51), 3) := by decide +kernel
theorem dX7_countEnvy_58 : decode cX7_countEnvy 58 = .ok (.iload_n 1, 1) := by decide +kernel
theorem dX7_countEnvy_59 : decode cX7_countEnvy 59 = .ok (.ireturn, 1) := by decide +kernel
theorem dX7_firstEnvious_0 : decode cX7_firstEnvious 0 = .ok (.iconst 0, 1) := by decide +kernel
theorem dX7_firstEnvious_1 : decode cX7_firstEnvious 1 = .ok (.istore_n 1, 1) := by decide +kernel
theorem dX7_firstEnvious_2 : decode cX7_firstEnvious 2 = .ok (.iload_n 1, 1) := by decide +kernel
theorem dX7_firstEnvious_3 : decode cX7_firstEnvious 3 = .ok (.aload_n 0, 1) := by decide +kernel
theorem dX7_firstEnvious_4 : decode cX7_firstEnvious 4 = .ok (.getfield 62, 3) := by decide +kernel
theorem dX7_firstEnvious_7 : decode cX7_firstEnvious 7 = .ok (.if_icmp .ge 29, 3) := by decide +kernel
theorem dX7_firstEnvious_10 : decode cX7_firstEnvious 10 = .ok (.aload_n 0, 1) := by decide +kernel
theorem dX7_firstEnvious_11 : decode cX7_firstEnvious 11 = .ok (.aload_n 0, 1) := by decide +kernel
theorem dX7_firstEnvious_12 : decode cX7_firstEnvious 12 = .ok (.getfield 22, 3) := by decide +kernel
theorem dX7_firstEnvious_15 : decode cX7_firstEnvious 15 = .ok (.iload_n 1, 1) := by decide +kernel
theorem dX7_firstEnvious_16 : decode cX7_firstEnvious 16 = .ok (.aaload, 1) := by decide +kernel
theorem dX7_firstEnvious_17 : decode cX7_firstEnvious 17 = .ok (.invokevirtual 304, 3) := by decide +kernel
theorem dX7_firstEnvious_20 : decode cX7_firstEnvious 20 = .ok (.ifnull 10, 3) := by decide +kernel
theorem dX7_firstEnvious_23 : decode cX7_firstEnvious 23 = .ok (.aload_n 0, 1) := by decide +kernel
theorem dX7_firstEnvious_24 : decode cX7_firstEnvious 24 = .ok (.getfield 22, 3) := by decide +kernel
theorem dX7_firstEnvious_27 : decode cX7_firstEnvious 27 = .ok (.iload_n 1, 1) := by decide +kernel
theorem dX7_firstEnvious_28 : decode cX7_firstEnvious 28 = .ok (.aaload, 1) := by decide +kernel
theorem dX7_firstEnvious_29 : decode cX7_firstEnvious 29 = .ok (.areturn, 1) := by decide +kernel
theorem dX7_firstEnvious_30 : decode cX7_firstEnvious 30 = .ok (.iinc 1 1, 3) := by decide +kernel
theorem dX7_firstEnvious_33 : decode cX7_firstEnvious 33 = .ok (.goto (-31), 3) := by decide +kernel
theorem dX7_firstEnvious_36 : decode cX7_firstEnvious 36 = .ok (.aconst_null, 1) := by decide +kernel
theorem dX7_firstEnvious_37 : decode cX7_firstEnvious 37 = .ok (.areturn, 1) := by decide +kernel
theorem dX7_envyPartner_0 : decode cX7_envyPartner 0 = .ok (.aload_n 1, 1) := by decide +kernel
theorem dX7_envyPartner_1 : decode cX7_envyPartner 1 = .ok (.ifnonnull 5, 3) := by decide +kernel
theorem dX7_envyPartner_4 : decode cX7_envyPartner 4 = .ok (.aconst_null, 1) := by decide +kernel
theorem dX7_envyPartner_5 : decode cX7_envyPartner 5 = .ok (.areturn, 1) := by decide +kernel
theorem dX7_envyPartner_6 : decode cX7_envyPartner 6 = .ok (.iconst 0, 1) := by decide +kernel
theorem dX7_envyPartner_7 : decode cX7_envyPartner 7 = .ok (.istore_n 2, 1) := by decide +kernel
theorem dX7_envyPartner_8 : decode cX7_envyPartner 8 = .ok (.iload_n 2, 1) := by decide +kernel
theorem dX7_envyPartner_9 : decode cX7_envyPartner 9 = .ok (.aload_n 0, 1) := by decide +kernel
theorem dX7_envyPartner_10 : decode cX7_envyPartner 10 = .ok (.getfield 62, 3) := by decide +kernel
theorem dX7_envyPartner_13 : decode cX7_envyPartner 13 = .ok (.if_icmp .ge 38, 3) := by decide +kernel
theorem dX7_envyPartner_16 : decode cX7_envyPartner 16 = .ok (.iload_n 2, 1) := by decide +kernel
theorem dX7_envyPartner_17 : decode cX7_envyPartner 17 = .ok (.aload_n 1, 1) := by decide +kernel
theorem dX7_envyPartner_18 : decode cX7_envyPartner 18 = .ok (.getfield 179, 3) := by decide +kernel
theorem dX7_envyPartner_21 : decode cX7_envyPartner 21 = .ok (.if_icmp .le 24, 3) := by decide +kernel
theorem dX7_envyPartner_24 : decode cX7_envyPartner 24 = .ok (.aload_n 0, 1) := by decide +kernel
theorem dX7_envyPartner_25 : decode cX7_envyPartner 25 = .ok (.aload_n 1, 1) := by decide +kernel
theorem dX7_envyPartner_26 : decode cX7_envyPartner 26 = .ok (.aload_n 0, 1) := by decide +kernel
theorem dX7_envyPartner_27 : decode cX7_envyPartner 27 = .ok (.getfield 22, 3) := by decide +kernel
theorem dX7_envyPartner_30 : decode cX7_envyPartner 30 = .ok (.iload_n 2, 1) := by decide +kernel
theorem dX7_envyPartner_31 : decode cX7_envyPartner 31 = .ok (.aaload, 1) := by decide +kernel
theorem dX7_envyPartner_32 : decode cX7_envyPartner 32 = .ok (.invokevirtual 300, 3) := by decide +kernel
theorem dX7_envyPartner_35 : decode cX7_envyPartner 35 = .ok (.ifCond .eq 10, 3) := by decide +kernel
theorem dX7_envyPartner_38 : decode cX7_envyPartner 38 = .ok (.aload_n 0, 1) := by decide +kernel
theorem dX7_envyPartner_39 : decode cX7_envyPartner 39 = .ok (.getfield 22, 3) := by decide +kernel
theorem dX7_envyPartner_42 : decode cX7_envyPartner 42 = .ok (.iload_n 2, 1) := by decide +kernel
theorem dX7_envyPartner_43 : decode cX7_envyPartner 43 = .ok (.aaload, 1) := by decide +kernel
theorem dX7_envyPartner_44 : decode cX7_envyPartner 44 = .ok (.areturn, 1) := by decide +kernel
theorem dX7_envyPartner_45 : decode cX7_envyPartner 45 = .ok (.iinc 2 1, 3) := by decide +kernel
theorem dX7_envyPartner_48 : decode cX7_envyPartner 48 = .ok (.goto (-40), 3) := by decide +kernel
theorem dX7_envyPartner_51 : decode cX7_envyPartner 51 = .ok (.aconst_null, 1) := by decide +kernel
theorem dX7_envyPartner_52 : decode cX7_envyPartner 52 = .ok (.areturn, 1) := by decide +kernel
