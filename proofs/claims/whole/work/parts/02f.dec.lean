theorem dX11_bidsBy_65 : decode cX11_bidsBy 65 = .ok (.istore 5, 2) := by decide +kernel
theorem dX11_bidsBy_67 : decode cX11_bidsBy 67 = .ok (.aload_n 0, 1) := by decide +kernel
theorem dX11_bidsBy_68 : decode cX11_bidsBy 68 = .ok (.iload_n 1, 1) := by decide +kernel
theorem dX11_bidsBy_69 : decode cX11_bidsBy 69 = .ok (.iload 5, 2) := by decide +kernel
theorem dX11_bidsBy_71 : decode cX11_bidsBy 71 = .ok (.invokevirtual 256, 3) := by decide +kernel
theorem dX11_bidsBy_74 : decode cX11_bidsBy 74 = .ok (.ifCond .eq 6, 3) := by decide +kernel
theorem dX11_bidsBy_77 : decode cX11_bidsBy 77 = .ok (.goto 25, 3) := by decide +kernel
theorem dX11_bidsBy_80 : decode cX11_bidsBy 80 = .ok (.aload_n 0, 1) := by decide +kernel
theorem dX11_bidsBy_81 : decode cX11_bidsBy 81 = .ok (.iload_n 1, 1) := by decide +kernel
theorem dX11_bidsBy_82 : decode cX11_bidsBy 82 = .ok (.bipush 10, 2) := by decide +kernel
theorem dX11_bidsBy_84 : decode cX11_bidsBy 84 = .ok (.aload_n 0, 1) := by decide +kernel
theorem dX11_bidsBy_85 : decode cX11_bidsBy 85 = .ok (.iload_n 1, 1) := by decide +kernel
theorem dX11_bidsBy_86 : decode cX11_bidsBy 86 = .ok (.bipush 10, 2) := by decide +kernel
theorem dX11_bidsBy_88 : decode cX11_bidsBy 88 = .ok (.invokevirtual 205, 3) := by decide +kernel
theorem dX11_bidsBy_91 : decode cX11_bidsBy 91 = .ok (.iconst 1, 1) := by decide +kernel
theorem dX11_bidsBy_92 : decode cX11_bidsBy 92 = .ok (.iload 5, 2) := by decide +kernel
theorem dX11_bidsBy_94 : decode cX11_bidsBy 94 = .ok (.ishl, 1) := by decide +kernel
theorem dX11_bidsBy_95 : decode cX11_bidsBy 95 = .ok (.ior, 1) := by decide +kernel
theorem dX11_bidsBy_96 : decode cX11_bidsBy 96 = .ok (.invokevirtual 289, 3) := by decide +kernel
theorem dX11_bidsBy_99 : decode cX11_bidsBy 99 = .ok (.iinc 2 1, 3) := by decide +kernel
theorem dX11_bidsBy_102 : decode cX11_bidsBy 102 = .ok (.iinc 4 1, 3) := by decide +kernel
theorem dX11_bidsBy_105 : decode cX11_bidsBy 105 = .ok (.goto (-71), 3) := by decide +kernel
theorem dX11_bidsBy_108 : decode cX11_bidsBy 108 = .ok (.iload_n 2, 1) := by decide +kernel
theorem dX11_bidsBy_109 : decode cX11_bidsBy 109 = .ok (.ireturn, 1) := by decide +kernel
theorem dX11_allBid_0 : decode cX11_allBid 0 = .ok (.iconst 0, 1) := by decide +kernel
theorem dX11_allBid_1 : decode cX11_allBid 1 = .ok (.istore_n 1, 1) := by decide +kernel
theorem dX11_allBid_2 : decode cX11_allBid 2 = .ok (.iconst 0, 1) := by decide +kernel
theorem dX11_allBid_3 : decode cX11_allBid 3 = .ok (.istore_n 2, 1) := by decide +kernel
theorem dX11_allBid_4 : decode cX11_allBid 4 = .ok (.iload_n 2, 1) := by decide +kernel
theorem dX11_allBid_5 : decode cX11_allBid 5 = .ok (.aload_n 0, 1) := by decide +kernel
theorem dX11_allBid_6 : decode cX11_allBid 6 = .ok (.getfield 7, 3) := by decide +kernel
theorem dX11_allBid_9 : decode cX11_allBid 9 = .ok (.sipush 231, 3) := by decide +kernel
theorem dX11_allBid_12 : decode cX11_allBid 12 = .ok (.iaload, 1) := by decide +kernel
theorem dX11_allBid_13 : decode cX11_allBid 13 = .ok (.if_icmp .ge 17, 3) := by decide +kernel
theorem dX11_allBid_16 : decode cX11_allBid 16 = .ok (.iload_n 1, 1) := by decide +kernel
theorem dX11_allBid_17 : decode cX11_allBid 17 = .ok (.aload_n 0, 1) := by decide +kernel
theorem dX11_allBid_18 : decode cX11_allBid 18 = .ok (.iload_n 2, 1) := by decide +kernel
theorem dX11_allBid_19 : decode cX11_allBid 19 = .ok (.invokevirtual 316, 3) := by decide +kernel
theorem dX11_allBid_22 : decode cX11_allBid 22 = .ok (.iadd, 1) := by decide +kernel
theorem dX11_allBid_23 : decode cX11_allBid 23 = .ok (.istore_n 1, 1) := by decide +kernel
theorem dX11_allBid_24 : decode cX11_allBid 24 = .ok (.iinc 2 1, 3) := by decide +kernel
theorem dX11_allBid_27 : decode cX11_allBid 27 = .ok (.goto (-23), 3) := by decide +kernel
theorem dX11_allBid_30 : decode cX11_allBid 30 = .ok (.iload_n 1, 1) := by decide +kernel
theorem dX11_allBid_31 : decode cX11_allBid 31 = .ok (.ireturn, 1) := by decide +kernel
theorem dX11_let_0 : decode cX11_let 0 = .ok (.iload_n 2, 1) := by decide +kernel
theorem dX11_let_1 : decode cX11_let 1 = .ok (.iconst 0, 1) := by decide +kernel
theorem dX11_let_2 : decode cX11_let 2 = .ok (.bipush 7, 2) := by decide +kernel
theorem dX11_let_4 : decode cX11_let 4 = .ok (.invokestatic 71, 3) := by decide +kernel
theorem dX11_let_7 : decode cX11_let 7 = .ok (.ifCond .ne 9, 3) := by decide +kernel
theorem dX11_let_10 : decode cX11_let 10 = .ok (.aload_n 0, 1) := by decide +kernel
theorem dX11_let_11 : decode cX11_let 11 = .ok (.iconst 1, 1) := by decide +kernel
theorem dX11_let_12 : decode cX11_let 12 = .ok (.invokevirtual 186, 3) := by decide +kernel
theorem dX11_let_15 : decode cX11_let 15 = .ok (.ireturn, 1) := by decide +kernel
theorem dX11_let_16 : decode cX11_let 16 = .ok (.iload_n 1, 1) := by decide +kernel
theorem dX11_let_17 : decode cX11_let 17 = .ok (.iconst 0, 1) := by decide +kernel
theorem dX11_let_18 : decode cX11_let 18 = .ok (.aload_n 0, 1) := by decide +kernel
theorem dX11_let_19 : decode cX11_let 19 = .ok (.getfield 7, 3) := by decide +kernel
theorem dX11_let_22 : decode cX11_let 22 = .ok (.sipush 233, 3) := by decide +kernel
theorem dX11_let_25 : decode cX11_let 25 = .ok (.iaload, 1) := by decide +kernel
theorem dX11_let_26 : decode cX11_let 26 = .ok (.iconst 1, 1) := by decide +kernel
theorem dX11_let_27 : decode cX11_let 27 = .ok (.isub, 1) := by decide +kernel
theorem dX11_let_28 : decode cX11_let 28 = .ok (.invokestatic 71, 3) := by decide +kernel
theorem dX11_let_31 : decode cX11_let 31 = .ok (.ifCond .ne 9, 3) := by decide +kernel
theorem dX11_let_34 : decode cX11_let 34 = .ok (.aload_n 0, 1) := by decide +kernel
theorem dX11_let_35 : decode cX11_let 35 = .ok (.iconst 2, 1) := by decide +kernel
theorem dX11_let_36 : decode cX11_let 36 = .ok (.invokevirtual 186, 3) := by decide +kernel
theorem dX11_let_39 : decode cX11_let 39 = .ok (.ireturn, 1) := by decide +kernel
theorem dX11_let_40 : decode cX11_let 40 = .ok (.aload_n 0, 1) := by decide +kernel
theorem dX11_let_41 : decode cX11_let 41 = .ok (.iload_n 2, 1) := by decide +kernel
theorem dX11_let_42 : decode cX11_let 42 = .ok (.iconst 5, 1) := by decide +kernel
theorem dX11_let_43 : decode cX11_let 43 = .ok (.if_icmp .ne 14, 3) := by decide +kernel
theorem dX11_let_46 : decode cX11_let 46 = .ok (.aload_n 0, 1) := by decide +kernel
theorem dX11_let_47 : decode cX11_let 47 = .ok (.iload_n 1, 1) := by decide +kernel
theorem dX11_let_48 : decode cX11_let 48 = .ok (.iconst 5, 1) := by decide +kernel
theorem dX11_let_49 : decode cX11_let 49 = .ok (.invokevirtual 259, 3) := by decide +kernel
theorem dX11_let_52 : decode cX11_let 52 = .ok (.iconst 1, 1) := by decide +kernel
theorem dX11_let_53 : decode cX11_let 53 = .ok (.iand, 1) := by decide +kernel
theorem dX11_let_54 : decode cX11_let 54 = .ok (.goto 9, 3) := by decide +kernel
theorem dX11_let_57 : decode cX11_let 57 = .ok (.aload_n 0, 1) := by decide +kernel
theorem dX11_let_58 : decode cX11_let 58 = .ok (.iload_n 1, 1) := by decide +kernel
theorem dX11_let_59 : decode cX11_let 59 = .ok (.iload_n 2, 1) := by decide +kernel
theorem dX11_let_60 : decode cX11_let 60 = .ok (.invokevirtual 259, 3) := by decide +kernel
theorem dX11_let_63 : decode cX11_let 63 = .ok (.invokevirtual 199, 3) := by decide +kernel
theorem dX11_let_66 : decode cX11_let 66 = .ok (.ireturn, 1) := by decide +kernel
theorem dX11_offer_0 : decode cX11_offer 0 = .ok (.iload_n 2, 1) := by decide +kernel
theorem dX11_offer_1 : decode cX11_offer 1 = .ok (.iconst 0, 1) := by decide +kernel
theorem dX11_offer_2 : decode cX11_offer 2 = .ok (.iconst 2, 1) := by decide +kernel
theorem dX11_offer_3 : decode cX11_offer 3 = .ok (.invokestatic 71, 3) := by decide +kernel
theorem dX11_offer_6 : decode cX11_offer 6 = .ok (.ifCond .ne 9, 3) := by decide +kernel
theorem dX11_offer_9 : decode cX11_offer 9 = .ok (.aload_n 0, 1) := by decide +kernel
theorem dX11_offer_10 : decode cX11_offer 10 = .ok (.iconst 1, 1) := by decide +kernel
theorem dX11_offer_11 : decode cX11_offer 11 = .ok (.invokevirtual 186, 3) := by decide +kernel
theorem dX11_offer_14 : decode cX11_offer 14 = .ok (.ireturn, 1) := by decide +kernel
theorem dX11_offer_15 : decode cX11_offer 15 = .ok (.iload_n 1, 1) := by decide +kernel
theorem dX11_offer_16 : decode cX11_offer 16 = .ok (.iconst 0, 1) := by decide +kernel
theorem dX11_offer_17 : decode cX11_offer 17 = .ok (.aload_n 0, 1) := by decide +kernel
theorem dX11_offer_18 : decode cX11_offer 18 = .ok (.getfield 7, 3) := by decide +kernel
theorem dX11_offer_21 : decode cX11_offer 21 = .ok (.sipush 299, 3) := by decide +kernel
theorem dX11_offer_24 : decode cX11_offer 24 = .ok (.iaload, 1) := by decide +kernel
theorem dX11_offer_25 : decode cX11_offer 25 = .ok (.iconst 1, 1) := by decide +kernel
theorem dX11_offer_26 : decode cX11_offer 26 = .ok (.isub, 1) := by decide +kernel
theorem dX11_offer_27 : decode cX11_offer 27 = .ok (.invokestatic 71, 3) := by decide +kernel
theorem dX11_offer_30 : decode cX11_offer 30 = .ok (.ifCond .eq 24, 3) := by decide +kernel
theorem dX11_offer_33 : decode cX11_offer 33 = .ok (.aload_n 0, 1) := by decide +kernel
theorem dX11_offer_34 : decode cX11_offer 34 = .ok (.aload_n 0, 1) := by decide +kernel
theorem dX11_offer_35 : decode cX11_offer 35 = .ok (.getfield 7, 3) := by decide +kernel
theorem dX11_offer_38 : decode cX11_offer 38 = .ok (.sipush 300, 3) := by decide +kernel
theorem dX11_offer_41 : decode cX11_offer 41 = .ok (.iconst 3, 1) := by decide +kernel
theorem dX11_offer_42 : decode cX11_offer 42 = .ok (.iload_n 1, 1) := by decide +kernel
theorem dX11_offer_43 : decode cX11_offer 43 = .ok (.imul, 1) := by decide +kernel
theorem dX11_offer_44 : decode cX11_offer 44 = .ok (.iadd, 1) := by decide +kernel
theorem dX11_offer_45 : decode cX11_offer 45 = .ok (.iload_n 2, 1) := by decide +kernel
theorem dX11_offer_46 : decode cX11_offer 46 = .ok (.iadd, 1) := by decide +kernel
theorem dX11_offer_47 : decode cX11_offer 47 = .ok (.iaload, 1) := by decide +kernel
theorem dX11_offer_48 : decode cX11_offer 48 = .ok (.invokevirtual 199, 3) := by decide +kernel
theorem dX11_offer_51 : decode cX11_offer 51 = .ok (.goto 8, 3) := by decide +kernel
theorem dX11_offer_54 : decode cX11_offer 54 = .ok (.aload_n 0, 1) := by decide +kernel
theorem dX11_offer_55 : decode cX11_offer 55 = .ok (.iconst 2, 1) := by decide +kernel
theorem dX11_offer_56 : decode cX11_offer 56 = .ok (.invokevirtual 186, 3) := by decide +kernel
theorem dX11_offer_59 : decode cX11_offer 59 = .ok (.ireturn, 1) := by decide +kernel
theorem dX11_greatestChain_0 : decode cX11_greatestChain 0 = .ok (.iconst 0, 1) := by decide +kernel
theorem dX11_greatestChain_1 : decode cX11_greatestChain 1 = .ok (.istore_n 1, 1) := by decide +kernel
theorem dX11_greatestChain_2 : decode cX11_greatestChain 2 = .ok (.iconst 0, 1) := by decide +kernel
theorem dX11_greatestChain_3 : decode cX11_greatestChain 3 = .ok (.istore_n 2, 1) := by decide +kernel
theorem dX11_greatestChain_4 : decode cX11_greatestChain 4 = .ok (.iload_n 2, 1) := by decide +kernel
theorem dX11_greatestChain_5 : decode cX11_greatestChain 5 = .ok (.aload_n 0, 1) := by decide +kernel
theorem dX11_greatestChain_6 : decode cX11_greatestChain 6 = .ok (.getfield 7, 3) := by decide +kernel
theorem dX11_greatestChain_9 : decode cX11_greatestChain 9 = .ok (.sipush 233, 3) := by decide +kernel
theorem dX11_greatestChain_12 : decode cX11_greatestChain 12 = .ok (.iaload, 1) := by decide +kernel
theorem dX11_greatestChain_13 : decode cX11_greatestChain 13 = .ok (.if_icmp .ge 20, 3) := by decide +kernel
theorem dX11_greatestChain_16 : decode cX11_greatestChain 16 = .ok (.iload_n 1, 1) := by decide +kernel
theorem dX11_greatestChain_17 : decode cX11_greatestChain 17 = .ok (.aload_n 0, 1) := by decide +kernel
theorem dX11_greatestChain_18 : decode cX11_greatestChain 18 = .ok (.iload_n 2, 1) := by decide +kernel
theorem dX11_greatestChain_19 : decode cX11_greatestChain 19 = .ok (.iconst 3, 1) := by decide +kernel
theorem dX11_greatestChain_20 : decode cX11_greatestChain 20 = .ok (.invokevirtual 259, 3) := by decide +kernel
theorem dX11_greatestChain_23 : decode cX11_greatestChain 23 = .ok (.invokestatic 211, 3) := by decide +kernel
theorem dX11_greatestChain_26 : decode cX11_greatestChain 26 = .ok (.istore_n 1, 1) := by decide +kernel
theorem dX11_greatestChain_27 : decode cX11_greatestChain 27 = .ok (.iinc 2 1, 3) := by decide +kernel
theorem dX11_greatestChain_30 : decode cX11_greatestChain 30 = .ok (.goto (-26), 3) := by decide +kernel
theorem dX11_greatestChain_33 : decode cX11_greatestChain 33 = .ok (.iload_n 1, 1) := by decide +kernel
theorem dX11_greatestChain_34 : decode cX11_greatestChain 34 = .ok (.ireturn, 1) := by decide +kernel
theorem dX11_allPassed_0 : decode cX11_allPassed 0 = .ok (.iconst 0, 1) := by decide +kernel
theorem dX11_allPassed_1 : decode cX11_allPassed 1 = .ok (.istore_n 1, 1) := by decide +kernel
theorem dX11_allPassed_2 : decode cX11_allPassed 2 = .ok (.iconst 0, 1) := by decide +kernel
theorem dX11_allPassed_3 : decode cX11_allPassed 3 = .ok (.istore_n 2, 1) := by decide +kernel
theorem dX11_allPassed_4 : decode cX11_allPassed 4 = .ok (.iload_n 2, 1) := by decide +kernel
theorem dX11_allPassed_5 : decode cX11_allPassed 5 = .ok (.aload_n 0, 1) := by decide +kernel
theorem dX11_allPassed_6 : decode cX11_allPassed 6 = .ok (.getfield 7, 3) := by decide +kernel
theorem dX11_allPassed_9 : decode cX11_allPassed 9 = .ok (.sipush 231, 3) := by decide +kernel
theorem dX11_allPassed_12 : decode cX11_allPassed 12 = .ok (.iaload, 1) := by decide +kernel
theorem dX11_allPassed_13 : decode cX11_allPassed 13 = .ok (.if_icmp .ge 19, 3) := by decide +kernel
theorem dX11_allPassed_16 : decode cX11_allPassed 16 = .ok (.iload_n 1, 1) := by decide +kernel
theorem dX11_allPassed_17 : decode cX11_allPassed 17 = .ok (.aload_n 0, 1) := by decide +kernel
theorem dX11_allPassed_18 : decode cX11_allPassed 18 = .ok (.iload_n 2, 1) := by decide +kernel
theorem dX11_allPassed_19 : decode cX11_allPassed 19 = .ok (.bipush 9, 2) := by decide +kernel
theorem dX11_allPassed_21 : decode cX11_allPassed 21 = .ok (.invokevirtual 205, 3) := by decide +kernel
theorem dX11_allPassed_24 : decode cX11_allPassed 24 = .ok (.iadd, 1) := by decide +kernel
theorem dX11_allPassed_25 : decode cX11_allPassed 25 = .ok (.istore_n 1, 1) := by decide +kernel
theorem dX11_allPassed_26 : decode cX11_allPassed 26 = .ok (.iinc 2 1, 3) := by decide +kernel
theorem dX11_allPassed_29 : decode cX11_allPassed 29 = .ok (.goto (-25), 3) := by decide +kernel
theorem dX11_allPassed_32 : decode cX11_allPassed 32 = .ok (.iload_n 1, 1) := by decide +kernel
theorem dX11_allPassed_33 : decode cX11_allPassed 33 = .ok (.ireturn, 1) := by decide +kernel
theorem dX11_tally_0 : decode cX11_tally 0 = .ok (.iload_n 1, 1) := by decide +kernel
theorem dX11_tally_1 : decode cX11_tally 1 = .ok (.iconst 0, 1) := by decide +kernel
theorem dX11_tally_2 : decode cX11_tally 2 = .ok (.iconst 4, 1) := by decide +kernel
theorem dX11_tally_3 : decode cX11_tally 3 = .ok (.invokestatic 71, 3) := by decide +kernel
theorem dX11_tally_6 : decode cX11_tally 6 = .ok (.ifCond .ne 9, 3) := by decide +kernel
theorem dX11_tally_9 : decode cX11_tally 9 = .ok (.aload_n 0, 1) := by decide +kernel
theorem dX11_tally_10 : decode cX11_tally 10 = .ok (.iconst 1, 1) := by decide +kernel
theorem dX11_tally_11 : decode cX11_tally 11 = .ok (.invokevirtual 186, 3) := by decide +kernel
theorem dX11_tally_14 : decode cX11_tally 14 = .ok (.ireturn, 1) := by decide +kernel
theorem dX11_tally_15 : decode cX11_tally 15 = .ok (.iload_n 1, 1) := by decide +kernel
theorem dX11_tally_16 : decode cX11_tally 16 = .ok (.ifCond .ne 12, 3) := by decide +kernel
theorem dX11_tally_19 : decode cX11_tally 19 = .ok (.aload_n 0, 1) := by decide +kernel
theorem dX11_tally_20 : decode cX11_tally 20 = .ok (.aload_n 0, 1) := by decide +kernel
theorem dX11_tally_21 : decode cX11_tally 21 = .ok (.invokevirtual 319, 3) := by decide +kernel
theorem dX11_tally_24 : decode cX11_tally 24 = .ok (.invokevirtual 199, 3) := by decide +kernel
theorem dX11_tally_27 : decode cX11_tally 27 = .ok (.ireturn, 1) := by decide +kernel
theorem dX11_tally_28 : decode cX11_tally 28 = .ok (.iload_n 1, 1) := by decide +kernel
theorem dX11_tally_29 : decode cX11_tally 29 = .ok (.iconst 2, 1) := by decide +kernel
theorem dX11_tally_30 : decode cX11_tally 30 = .ok (.if_icmp .ne 12, 3) := by decide +kernel
theorem dX11_tally_33 : decode cX11_tally 33 = .ok (.aload_n 0, 1) := by decide +kernel
theorem dX11_tally_34 : decode cX11_tally 34 = .ok (.aload_n 0, 1) := by decide +kernel
theorem dX11_tally_35 : decode cX11_tally 35 = .ok (.invokevirtual 262, 3) := by decide +kernel
theorem dX11_tally_38 : decode cX11_tally 38 = .ok (.invokevirtual 199, 3) := by decide +kernel
theorem dX11_tally_41 : decode cX11_tally 41 = .ok (.ireturn, 1) := by decide +kernel
theorem dX11_tally_42 : decode cX11_tally 42 = .ok (.iload_n 1, 1) := by decide +kernel
theorem dX11_tally_43 : decode cX11_tally 43 = .ok (.iconst 4, 1) := by decide +kernel
theorem dX11_tally_44 : decode cX11_tally 44 = .ok (.if_icmp .ne 12, 3) := by decide +kernel
theorem dX11_tally_47 : decode cX11_tally 47 = .ok (.aload_n 0, 1) := by decide +kernel
theorem dX11_tally_48 : decode cX11_tally 48 = .ok (.aload_n 0, 1) := by decide +kernel
theorem dX11_tally_49 : decode cX11_tally 49 = .ok (.invokevirtual 322, 3) := by decide +kernel
theorem dX11_tally_52 : decode cX11_tally 52 = .ok (.invokevirtual 199, 3) := by decide +kernel
theorem dX11_tally_55 : decode cX11_tally 55 = .ok (.ireturn, 1) := by decide +kernel
theorem dX11_tally_56 : decode cX11_tally 56 = .ok (.iconst 0, 1) := by decide +kernel
theorem dX11_tally_57 : decode cX11_tally 57 = .ok (.istore_n 2, 1) := by decide +kernel
theorem dX11_tally_58 : decode cX11_tally 58 = .ok (.iconst 0, 1) := by decide +kernel
theorem dX11_tally_59 : decode cX11_tally 59 = .ok (.istore_n 3, 1) := by decide +kernel
theorem dX11_tally_60 : decode cX11_tally 60 = .ok (.iload_n 3, 1) := by decide +kernel
theorem dX11_tally_61 : decode cX11_tally 61 = .ok (.aload_n 0, 1) := by decide +kernel
theorem dX11_tally_62 : decode cX11_tally 62 = .ok (.getfield 7, 3) := by decide +kernel
theorem dX11_tally_65 : decode cX11_tally 65 = .ok (.sipush 233, 3) := by decide +kernel
theorem dX11_tally_68 : decode cX11_tally 68 = .ok (.iaload, 1) := by decide +kernel
theorem dX11_tally_69 : decode cX11_tally 69 = .ok (.if_icmp .ge 60, 3) := by decide +kernel
theorem dX11_tally_72 : decode cX11_tally 72 = .ok (.iload_n 2, 1) := by decide +kernel
theorem dX11_tally_73 : decode cX11_tally 73 = .ok (.iload_n 1, 1) := by decide +kernel
theorem dX11_tally_74 : decode cX11_tally 74 = .ok (.iconst 1, 1) := by decide +kernel
theorem dX11_tally_75 : decode cX11_tally 75 = .ok (.if_icmp .ne 16, 3) := by decide +kernel
theorem dX11_tally_78 : decode cX11_tally 78 = .ok (.aload_n 0, 1) := by decide +kernel
theorem dX11_tally_79 : decode cX11_tally 79 = .ok (.iload_n 3, 1) := by decide +kernel
theorem dX11_tally_80 : decode cX11_tally 80 = .ok (.iconst 3, 1) := by decide +kernel
theorem dX11_tally_81 : decode cX11_tally 81 = .ok (.invokevirtual 259, 3) := by decide +kernel
theorem dX11_tally_84 : decode cX11_tally 84 = .ok (.iconst 1, 1) := by decide +kernel
theorem dX11_tally_85 : decode cX11_tally 85 = .ok (.if_icmp .ne 35, 3) := by decide +kernel
theorem dX11_tally_88 : decode cX11_tally 88 = .ok (.goto 28, 3) := by decide +kernel
theorem dX11_tally_91 : decode cX11_tally 91 = .ok (.aload_n 0, 1) := by decide +kernel
theorem dX11_tally_92 : decode cX11_tally 92 = .ok (.aload_n 0, 1) := by decide +kernel
theorem dX11_tally_93 : decode cX11_tally 93 = .ok (.iload_n 3, 1) := by decide +kernel
theorem dX11_tally_94 : decode cX11_tally 94 = .ok (.iconst 0, 1) := by decide +kernel
theorem dX11_tally_95 : decode cX11_tally 95 = .ok (.invokevirtual 259, 3) := by decide +kernel
theorem dX11_tally_98 : decode cX11_tally 98 = .ok (.iconst 2, 1) := by decide +kernel
theorem dX11_tally_99 : decode cX11_tally 99 = .ok (.invokevirtual 205, 3) := by decide +kernel
theorem dX11_tally_102 : decode cX11_tally 102 = .ok (.aload_n 0, 1) := by decide +kernel
theorem dX11_tally_103 : decode cX11_tally 103 = .ok (.aload_n 0, 1) := by decide +kernel
theorem dX11_tally_104 : decode cX11_tally 104 = .ok (.iload_n 3, 1) := by decide +kernel
theorem dX11_tally_105 : decode cX11_tally 105 = .ok (.iconst 1, 1) := by decide +kernel
theorem dX11_tally_106 : decode cX11_tally 106 = .ok (.invokevirtual 259, 3) := by decide +kernel
theorem dX11_tally_109 : decode cX11_tally 109 = .ok (.iconst 1, 1) := by decide +kernel
theorem dX11_tally_110 : decode cX11_tally 110 = .ok (.invokevirtual 202, 3) := by decide +kernel
theorem dX11_tally_113 : decode cX11_tally 113 = .ok (.if_icmp .ne 7, 3) := by decide +kernel
theorem dX11_tally_116 : decode cX11_tally 116 = .ok (.iconst 1, 1) := by decide +kernel
theorem dX11_tally_117 : decode cX11_tally 117 = .ok (.goto 4, 3) := by decide +kernel
theorem dX11_tally_120 : decode cX11_tally 120 = .ok (.iconst 0, 1) := by decide +kernel
theorem dX11_tally_121 : decode cX11_tally 121 = .ok (.iadd, 1) := by decide +kernel
theorem dX11_tally_122 : decode cX11_tally 122 = .ok (.istore_n 2, 1) := by decide +kernel
theorem dX11_tally_123 : decode cX11_tally 123 = .ok (.iinc 3 1, 3) := by decide +kernel
theorem dX11_tally_126 : decode cX11_tally 126 = .ok (.goto (-66), 3) := by decide +kernel
theorem dX11_tally_129 : decode cX11_tally 129 = .ok (.aload_n 0, 1) := by decide +kernel
theorem dX11_tally_130 : decode cX11_tally 130 = .ok (.iload_n 2, 1) := by decide +kernel
theorem dX11_tally_131 : decode cX11_tally 131 = .ok (.invokevirtual 199, 3) := by decide +kernel
theorem dX11_tally_134 : decode cX11_tally 134 = .ok (.ireturn, 1) := by decide +kernel
theorem dX11_lack_0 : decode cX11_lack 0 = .ok (.iload_n 1, 1) := by decide +kernel
theorem dX11_lack_1 : decode cX11_lack 1 = .ok (.iconst 1, 1) := by decide +kernel
theorem dX11_lack_2 : decode cX11_lack 2 = .ok (.iconst 4, 1) := by decide +kernel
theorem dX11_lack_3 : decode cX11_lack 3 = .ok (.invokestatic 71, 3) := by decide +kernel
theorem dX11_lack_6 : decode cX11_lack 6 = .ok (.ifCond .ne 9, 3) := by decide +kernel
theorem dX11_lack_9 : decode cX11_lack 9 = .ok (.aload_n 0, 1) := by decide +kernel
theorem dX11_lack_10 : decode cX11_lack 10 = .ok (.iconst 1, 1) := by decide +kernel
theorem dX11_lack_11 : decode cX11_lack 11 = .ok (.invokevirtual 186, 3) := by decide +kernel
theorem dX11_lack_14 : decode cX11_lack 14 = .ok (.ireturn, 1) := by decide +kernel
theorem dX11_lack_15 : decode cX11_lack 15 = .ok (.iconst 0, 1) := by decide +kernel
theorem dX11_lack_16 : decode cX11_lack 16 = .ok (.istore_n 2, 1) := by decide +kernel
theorem dX11_lack_17 : decode cX11_lack 17 = .ok (.iconst 0, 1) := by decide +kernel
theorem dX11_lack_18 : decode cX11_lack 18 = .ok (.istore_n 3, 1) := by decide +kernel
theorem dX11_lack_19 : decode cX11_lack 19 = .ok (.iload_n 3, 1) := by decide +kernel
theorem dX11_lack_20 : decode cX11_lack 20 = .ok (.aload_n 0, 1) := by decide +kernel
theorem dX11_lack_21 : decode cX11_lack 21 = .ok (.getfield 7, 3) := by decide +kernel
theorem dX11_lack_24 : decode cX11_lack 24 = .ok (.sipush 231, 3) := by decide +kernel
theorem dX11_lack_27 : decode cX11_lack 27 = .ok (.iaload, 1) := by decide +kernel
theorem dX11_lack_28 : decode cX11_lack 28 = .ok (.if_icmp .ge 35, 3) := by decide +kernel
theorem dX11_lack_31 : decode cX11_lack 31 = .ok (.iload_n 2, 1) := by decide +kernel
theorem dX11_lack_32 : decode cX11_lack 32 = .ok (.aload_n 0, 1) := by decide +kernel
theorem dX11_lack_33 : decode cX11_lack 33 = .ok (.iload_n 3, 1) := by decide +kernel
theorem dX11_lack_34 : decode cX11_lack 34 = .ok (.invokevirtual 208, 3) := by decide +kernel
theorem dX11_lack_37 : decode cX11_lack 37 = .ok (.ifCond .eq 17, 3) := by decide +kernel
theorem dX11_lack_40 : decode cX11_lack 40 = .ok (.aload_n 0, 1) := by decide +kernel
theorem dX11_lack_41 : decode cX11_lack 41 = .ok (.iload_n 3, 1) := by decide +kernel
theorem dX11_lack_42 : decode cX11_lack 42 = .ok (.iconst 1, 1) := by decide +kernel
theorem dX11_lack_43 : decode cX11_lack 43 = .ok (.invokevirtual 205, 3) := by decide +kernel
theorem dX11_lack_46 : decode cX11_lack 46 = .ok (.iload_n 1, 1) := by decide +kernel
theorem dX11_lack_47 : decode cX11_lack 47 = .ok (.if_icmp .ne 7, 3) := by decide +kernel
theorem dX11_lack_50 : decode cX11_lack 50 = .ok (.iconst 1, 1) := by decide +kernel
theorem dX11_lack_51 : decode cX11_lack 51 = .ok (.goto 4, 3) := by decide +kernel
theorem dX11_lack_54 : decode cX11_lack 54 = .ok (.iconst 0, 1) := by decide +kernel
theorem dX11_lack_55 : decode cX11_lack 55 = .ok (.iadd, 1) := by decide +kernel
theorem dX11_lack_56 : decode cX11_lack 56 = .ok (.istore_n 2, 1) := by decide +kernel
theorem dX11_lack_57 : decode cX11_lack 57 = .ok (.iinc 3 1, 3) := by decide +kernel
theorem dX11_lack_60 : decode cX11_lack 60 = .ok (.goto (-41), 3) := by decide +kernel
theorem dX11_lack_63 : decode cX11_lack 63 = .ok (.iconst 0, 1) := by decide +kernel
theorem dX11_lack_64 : decode cX11_lack 64 = .ok (.istore_n 3, 1) := by decide +kernel
theorem dX11_lack_65 : decode cX11_lack 65 = .ok (.iload_n 3, 1) := by decide +kernel
theorem dX11_lack_66 : decode cX11_lack 66 = .ok (.aload_n 0, 1) := by decide +kernel
theorem dX11_lack_67 : decode cX11_lack 67 = .ok (.getfield 7, 3) := by decide +kernel
theorem dX11_lack_70 : decode cX11_lack 70 = .ok (.sipush 230, 3) := by decide +kernel
theorem dX11_lack_73 : decode cX11_lack 73 = .ok (.iaload, 1) := by decide +kernel
theorem dX11_lack_74 : decode cX11_lack 74 = .ok (.if_icmp .ge 35, 3) := by decide +kernel
theorem dX11_lack_77 : decode cX11_lack 77 = .ok (.iload_n 2, 1) := by decide +kernel
theorem dX11_lack_78 : decode cX11_lack 78 = .ok (.aload_n 0, 1) := by decide +kernel
theorem dX11_lack_79 : decode cX11_lack 79 = .ok (.iload_n 3, 1) := by decide +kernel
theorem dX11_lack_80 : decode cX11_lack 80 = .ok (.invokevirtual 219, 3) := by decide +kernel
theorem dX11_lack_83 : decode cX11_lack 83 = .ok (.ifCond .eq 17, 3) := by decide +kernel
theorem dX11_lack_86 : decode cX11_lack 86 = .ok (.aload_n 0, 1) := by decide +kernel
theorem dX11_lack_87 : decode cX11_lack 87 = .ok (.iload_n 3, 1) := by decide +kernel
theorem dX11_lack_88 : decode cX11_lack 88 = .ok (.iconst 0, 1) := by decide +kernel
theorem dX11_lack_89 : decode cX11_lack 89 = .ok (.invokevirtual 202, 3) := by decide +kernel
theorem dX11_lack_92 : decode cX11_lack 92 = .ok (.iload_n 1, 1) := by decide +kernel
theorem dX11_lack_93 : decode cX11_lack 93 = .ok (.if_icmp .ne 7, 3) := by decide +kernel
theorem dX11_lack_96 : decode cX11_lack 96 = .ok (.iconst 1, 1) := by decide +kernel
theorem dX11_lack_97 : decode cX11_lack 97 = .ok (.goto 4, 3) := by decide +kernel
theorem dX11_lack_100 : decode cX11_lack 100 = .ok (.iconst 0, 1) := by decide +kernel
theorem dX11_lack_101 : decode cX11_lack 101 = .ok (.isub, 1) := by decide +kernel
theorem dX11_lack_102 : decode cX11_lack 102 = .ok (.istore_n 2, 1) := by decide +kernel
theorem dX11_lack_103 : decode cX11_lack 103 = .ok (.iinc 3 1, 3) := by decide +kernel
theorem dX11_lack_106 : decode cX11_lack 106 = .ok (.goto (-41), 3) := by decide +kernel
theorem dX11_lack_109 : decode cX11_lack 109 = .ok (.aload_n 0, 1) := by decide +kernel
theorem dX11_lack_110 : decode cX11_lack 110 = .ok (.iload_n 2, 1) := by decide +kernel
theorem dX11_lack_111 : decode cX11_lack 111 = .ok (.invokevirtual 199, 3) := by decide +kernel
theorem dX11_lack_114 : decode cX11_lack 114 = .ok (.ireturn, 1) := by decide +kernel
theorem dX11_oneMore_0 : decode cX11_oneMore 0 = .ok (.aload_n 0, 1) := by decide +kernel
theorem dX11_oneMore_1 : decode cX11_oneMore 1 = .ok (.invokevirtual 325, 3) := by decide +kernel
theorem dX11_oneMore_4 : decode cX11_oneMore 4 = .ok (.pop, 1) := by decide +kernel
theorem dX11_oneMore_5 : decode cX11_oneMore 5 = .ok (.aload_n 0, 1) := by decide +kernel
theorem dX11_oneMore_6 : decode cX11_oneMore 6 = .ok (.getfield 7, 3) := by decide +kernel
theorem dX11_oneMore_9 : decode cX11_oneMore 9 = .ok (.sipush 232, 3) := by decide +kernel
theorem dX11_oneMore_12 : decode cX11_oneMore 12 = .ok (.iaload, 1) := by decide +kernel
theorem dX11_oneMore_13 : decode cX11_oneMore 13 = .ok (.sipush 999, 3) := by decide +kernel
theorem dX11_oneMore_16 : decode cX11_oneMore 16 = .ok (.if_icmp .ge 8, 3) := by decide +kernel
theorem dX11_oneMore_19 : decode cX11_oneMore 19 = .ok (.aload_n 0, 1) := by decide +kernel
theorem dX11_oneMore_20 : decode cX11_oneMore 20 = .ok (.invokevirtual 328, 3) := by decide +kernel
theorem dX11_oneMore_23 : decode cX11_oneMore 23 = .ok (.pop, 1) := by decide +kernel
theorem dX11_oneMore_24 : decode cX11_oneMore 24 = .ok (.return_, 1) := by decide +kernel
theorem dX11_weeks_0 : decode cX11_weeks 0 = .ok (.iload_n 1, 1) := by decide +kernel
theorem dX11_weeks_1 : decode cX11_weeks 1 = .ok (.iconst 0, 1) := by decide +kernel
theorem dX11_weeks_2 : decode cX11_weeks 2 = .ok (.bipush 30, 2) := by decide +kernel
theorem dX11_weeks_4 : decode cX11_weeks 4 = .ok (.invokestatic 71, 3) := by decide +kernel
theorem dX11_weeks_7 : decode cX11_weeks 7 = .ok (.ifCond .eq 12, 3) := by decide +kernel
theorem dX11_weeks_10 : decode cX11_weeks 10 = .ok (.iload_n 2, 1) := by decide +kernel
theorem dX11_weeks_11 : decode cX11_weeks 11 = .ok (.iconst 0, 1) := by decide +kernel
theorem dX11_weeks_12 : decode cX11_weeks 12 = .ok (.iconst 5, 1) := by decide +kernel
theorem dX11_weeks_13 : decode cX11_weeks 13 = .ok (.invokestatic 71, 3) := by decide +kernel
theorem dX11_weeks_16 : decode cX11_weeks 16 = .ok (.ifCond .ne 9, 3) := by decide +kernel
theorem dX11_weeks_19 : decode cX11_weeks 19 = .ok (.aload_n 0, 1) := by decide +kernel
theorem dX11_weeks_20 : decode cX11_weeks 20 = .ok (.iconst 1, 1) := by decide +kernel
theorem dX11_weeks_21 : decode cX11_weeks 21 = .ok (.invokevirtual 186, 3) := by decide +kernel
theorem dX11_weeks_24 : decode cX11_weeks 24 = .ok (.ireturn, 1) := by decide +kernel
theorem dX11_weeks_25 : decode cX11_weeks 25 = .ok (.aload_n 0, 1) := by decide +kernel
theorem dX11_weeks_26 : decode cX11_weeks 26 = .ok (.getfield 7, 3) := by decide +kernel
theorem dX11_weeks_29 : decode cX11_weeks 29 = .ok (.aload_n 0, 1) := by decide +kernel
theorem dX11_weeks_30 : decode cX11_weeks 30 = .ok (.getfield 16, 3) := by decide +kernel
theorem dX11_weeks_33 : decode cX11_weeks 33 = .ok (.invokestatic 192, 3) := by decide +kernel
theorem dX11_weeks_36 : decode cX11_weeks 36 = .ok (.aload_n 0, 1) := by decide +kernel
theorem dX11_weeks_37 : decode cX11_weeks 37 = .ok (.getfield 7, 3) := by decide +kernel
theorem dX11_weeks_40 : decode cX11_weeks 40 = .ok (.sipush 233, 3) := by decide +kernel
theorem dX11_weeks_43 : decode cX11_weeks 43 = .ok (.iaload, 1) := by decide +kernel
theorem dX11_weeks_44 : decode cX11_weeks 44 = .ok (.istore_n 3, 1) := by decide +kernel
theorem dX11_weeks_45 : decode cX11_weeks 45 = .ok (.aload_n 0, 1) := by decide +kernel
theorem dX11_weeks_46 : decode cX11_weeks 46 = .ok (.getfield 7, 3) := by decide +kernel
theorem dX11_weeks_49 : decode cX11_weeks 49 = .ok (.sipush 298, 3) := by decide +kernel
theorem dX11_weeks_52 : decode cX11_weeks 52 = .ok (.iaload, 1) := by decide +kernel
theorem dX11_weeks_53 : decode cX11_weeks 53 = .ok (.istore 4, 2) := by decide +kernel
theorem dX11_weeks_55 : decode cX11_weeks 55 = .ok (.aload_n 0, 1) := by decide +kernel
theorem dX11_weeks_56 : decode cX11_weeks 56 = .ok (.invokevirtual 322, 3) := by decide +kernel
theorem dX11_weeks_59 : decode cX11_weeks 59 = .ok (.istore 5, 2) := by decide +kernel
theorem dX11_weeks_61 : decode cX11_weeks 61 = .ok (.iconst 0, 1) := by decide +kernel
theorem dX11_weeks_62 : decode cX11_weeks 62 = .ok (.istore 6, 2) := by decide +kernel
theorem dX11_weeks_64 : decode cX11_weeks 64 = .ok (.iload 6, 2) := by decide +kernel
theorem dX11_weeks_66 : decode cX11_weeks 66 = .ok (.iload_n 1, 1) := by decide +kernel
theorem dX11_weeks_67 : decode cX11_weeks 67 = .ok (.if_icmp .ge 13, 3) := by decide +kernel
theorem dX11_weeks_70 : decode cX11_weeks 70 = .ok (.aload_n 0, 1) := by decide +kernel
theorem dX11_weeks_71 : decode cX11_weeks 71 = .ok (.invokevirtual 331, 3) := by decide +kernel
theorem dX11_weeks_74 : decode cX11_weeks 74 = .ok (.iinc 6 1, 3) := by decide +kernel
theorem dX11_weeks_77 : decode cX11_weeks 77 = .ok (.goto (-13), 3) := by decide +kernel
theorem dX11_weeks_80 : decode cX11_weeks 80 = .ok (.iload_n 2, 1) := by decide +kernel
theorem dX11_weeks_81 : decode cX11_weeks 81 = .ok (.ifCond .ne 16, 3) := by decide +kernel
theorem dX11_weeks_84 : decode cX11_weeks 84 = .ok (.aload_n 0, 1) := by decide +kernel
theorem dX11_weeks_85 : decode cX11_weeks 85 = .ok (.getfield 7, 3) := by decide +kernel
theorem dX11_weeks_88 : decode cX11_weeks 88 = .ok (.sipush 233, 3) := by decide +kernel
theorem dX11_weeks_91 : decode cX11_weeks 91 = .ok (.iaload, 1) := by decide +kernel
theorem dX11_weeks_92 : decode cX11_weeks 92 = .ok (.iload_n 3, 1) := by decide +kernel
theorem dX11_weeks_93 : decode cX11_weeks 93 = .ok (.isub, 1) := by decide +kernel
theorem dX11_weeks_94 : decode cX11_weeks 94 = .ok (.goto 65, 3) := by decide +kernel
theorem dX11_weeks_97 : decode cX11_weeks 97 = .ok (.iload_n 2, 1) := by decide +kernel
theorem dX11_weeks_98 : decode cX11_weeks 98 = .ok (.iconst 1, 1) := by decide +kernel
theorem dX11_weeks_99 : decode cX11_weeks 99 = .ok (.if_icmp .ne 17, 3) := by decide +kernel
theorem dX11_weeks_102 : decode cX11_weeks 102 = .ok (.aload_n 0, 1) := by decide +kernel
theorem dX11_weeks_103 : decode cX11_weeks 103 = .ok (.getfield 7, 3) := by decide +kernel
theorem dX11_weeks_106 : decode cX11_weeks 106 = .ok (.sipush 298, 3) := by decide +kernel
theorem dX11_weeks_109 : decode cX11_weeks 109 = .ok (.iaload, 1) := by decide +kernel
theorem dX11_weeks_110 : decode cX11_weeks 110 = .ok (.iload 4, 2) := by decide +kernel
theorem dX11_weeks_112 : decode cX11_weeks 112 = .ok (.isub, 1) := by decide +kernel
theorem dX11_weeks_113 : decode cX11_weeks 113 = .ok (.goto 46, 3) := by decide +kernel
theorem dX11_weeks_116 : decode cX11_weeks 116 = .ok (.iload_n 2, 1) := by decide +kernel
theorem dX11_weeks_117 : decode cX11_weeks 117 = .ok (.iconst 2, 1) := by decide +kernel
theorem dX11_weeks_118 : decode cX11_weeks 118 = .ok (.if_icmp .ne 10, 3) := by decide +kernel
theorem dX11_weeks_121 : decode cX11_weeks 121 = .ok (.aload_n 0, 1) := by decide +kernel
theorem dX11_weeks_122 : decode cX11_weeks 122 = .ok (.invokevirtual 228, 3) := by decide +kernel
theorem dX11_weeks_125 : decode cX11_weeks 125 = .ok (.goto 34, 3) := by decide +kernel
theorem dX11_weeks_128 : decode cX11_weeks 128 = .ok (.iload_n 2, 1) := by decide +kernel
theorem dX11_weeks_129 : decode cX11_weeks 129 = .ok (.iconst 3, 1) := by decide +kernel
theorem dX11_weeks_130 : decode cX11_weeks 130 = .ok (.if_icmp .ne 10, 3) := by decide +kernel
theorem dX11_weeks_133 : decode cX11_weeks 133 = .ok (.aload_n 0, 1) := by decide +kernel
theorem dX11_weeks_134 : decode cX11_weeks 134 = .ok (.invokevirtual 231, 3) := by decide +kernel
theorem dX11_weeks_137 : decode cX11_weeks 137 = .ok (.goto 22, 3) := by decide +kernel
theorem dX11_weeks_140 : decode cX11_weeks 140 = .ok (.iload_n 2, 1) := by decide +kernel
theorem dX11_weeks_141 : decode cX11_weeks 141 = .ok (.iconst 4, 1) := by decide +kernel
theorem dX11_weeks_142 : decode cX11_weeks 142 = .ok (.if_icmp .ne 10, 3) := by decide +kernel
theorem dX11_weeks_145 : decode cX11_weeks 145 = .ok (.aload_n 0, 1) := by decide +kernel
theorem dX11_weeks_146 : decode cX11_weeks 146 = .ok (.invokevirtual 319, 3) := by decide +kernel
theorem dX11_weeks_149 : decode cX11_weeks 149 = .ok (.goto 10, 3) := by decide +kernel
theorem dX11_weeks_152 : decode cX11_weeks 152 = .ok (.aload_n 0, 1) := by decide +kernel
theorem dX11_weeks_153 : decode cX11_weeks 153 = .ok (.invokevirtual 322, 3) := by decide +kernel
theorem dX11_weeks_156 : decode cX11_weeks 156 = .ok (.iload 5, 2) := by decide +kernel
theorem dX11_weeks_158 : decode cX11_weeks 158 = .ok (.isub, 1) := by decide +kernel
theorem dX11_weeks_159 : decode cX11_weeks 159 = .ok (.istore 6, 2) := by decide +kernel
theorem dX11_weeks_161 : decode cX11_weeks 161 = .ok (.aload_n 0, 1) := by decide +kernel
theorem dX11_weeks_162 : decode cX11_weeks 162 = .ok (.getfield 16, 3) := by decide +kernel
theorem dX11_weeks_165 : decode cX11_weeks 165 = .ok (.aload_n 0, 1) := by decide +kernel
theorem dX11_weeks_166 : decode cX11_weeks 166 = .ok (.getfield 7, 3) := by decide +kernel
theorem dX11_weeks_169 : decode cX11_weeks 169 = .ok (.invokestatic 192, 3) := by decide +kernel
theorem dX11_weeks_172 : decode cX11_weeks 172 = .ok (.aload_n 0, 1) := by decide +kernel
theorem dX11_weeks_173 : decode cX11_weeks 173 = .ok (.iload 6, 2) := by decide +kernel
theorem dX11_weeks_175 : decode cX11_weeks 175 = .ok (.invokevirtual 199, 3) := by decide +kernel
theorem dX11_weeks_178 : decode cX11_weeks 178 = .ok (.ireturn, 1) := by decide +kernel
theorem dX11_when_0 : decode cX11_when 0 = .ok (.iload_n 2, 1) := by decide +kernel
theorem dX11_when_1 : decode cX11_when 1 = .ok (.iconst 1, 1) := by decide +kernel
theorem dX11_when_2 : decode cX11_when 2 = .ok (.bipush 30, 2) := by decide +kernel
theorem dX11_when_4 : decode cX11_when 4 = .ok (.invokestatic 71, 3) := by decide +kernel
theorem dX11_when_7 : decode cX11_when 7 = .ok (.ifCond .ne 9, 3) := by decide +kernel
theorem dX11_when_10 : decode cX11_when 10 = .ok (.aload_n 0, 1) := by decide +kernel
theorem dX11_when_11 : decode cX11_when 11 = .ok (.iconst 1, 1) := by decide +kernel
theorem dX11_when_12 : decode cX11_when 12 = .ok (.invokevirtual 186, 3) := by decide +kernel
theorem dX11_when_15 : decode cX11_when 15 = .ok (.ireturn, 1) := by decide +kernel
theorem dX11_when_16 : decode cX11_when 16 = .ok (.aload_n 0, 1) := by decide +kernel
theorem dX11_when_17 : decode cX11_when 17 = .ok (.iload_n 1, 1) := by decide +kernel
theorem dX11_when_18 : decode cX11_when 18 = .ok (.invokevirtual 244, 3) := by decide +kernel
theorem dX11_when_21 : decode cX11_when 21 = .ok (.ifCond .ne 9, 3) := by decide +kernel
theorem dX11_when_24 : decode cX11_when 24 = .ok (.aload_n 0, 1) := by decide +kernel
theorem dX11_when_25 : decode cX11_when 25 = .ok (.iconst 2, 1) := by decide +kernel
theorem dX11_when_26 : decode cX11_when 26 = .ok (.invokevirtual 186, 3) := by decide +kernel
theorem dX11_when_29 : decode cX11_when 29 = .ok (.ireturn, 1) := by decide +kernel
theorem dX11_when_30 : decode cX11_when 30 = .ok (.aload_n 0, 1) := by decide +kernel
theorem dX11_when_31 : decode cX11_when 31 = .ok (.iload_n 1, 1) := by decide +kernel
theorem dX11_when_32 : decode cX11_when 32 = .ok (.invokevirtual 208, 3) := by decide +kernel
theorem dX11_when_35 : decode cX11_when 35 = .ok (.ifCond .ne 9, 3) := by decide +kernel
theorem dX11_when_38 : decode cX11_when 38 = .ok (.aload_n 0, 1) := by decide +kernel
theorem dX11_when_39 : decode cX11_when 39 = .ok (.iconst 4, 1) := by decide +kernel
theorem dX11_when_40 : decode cX11_when 40 = .ok (.invokevirtual 186, 3) := by decide +kernel
theorem dX11_when_43 : decode cX11_when 43 = .ok (.ireturn, 1) := by decide +kernel
theorem dX11_when_44 : decode cX11_when 44 = .ok (.aload_n 0, 1) := by decide +kernel
theorem dX11_when_45 : decode cX11_when 45 = .ok (.getfield 7, 3) := by decide +kernel
theorem dX11_when_48 : decode cX11_when 48 = .ok (.aload_n 0, 1) := by decide +kernel
theorem dX11_when_49 : decode cX11_when 49 = .ok (.getfield 16, 3) := by decide +kernel
theorem dX11_when_52 : decode cX11_when 52 = .ok (.invokestatic 192, 3) := by decide +kernel
theorem dX11_when_55 : decode cX11_when 55 = .ok (.iconst (-1), 1) := by decide +kernel
theorem dX11_when_56 : decode cX11_when 56 = .ok (.istore 4, 2) := by decide +kernel
theorem dX11_when_58 : decode cX11_when 58 = .ok (.iconst 0, 1) := by decide +kernel
theorem dX11_when_59 : decode cX11_when 59 = .ok (.istore 5, 2) := by decide +kernel
theorem dX11_when_61 : decode cX11_when 61 = .ok (.iload 5, 2) := by decide +kernel
theorem dX11_when_63 : decode cX11_when 63 = .ok (.iload_n 2, 1) := by decide +kernel
theorem dX11_when_64 : decode cX11_when 64 = .ok (.if_icmp .ge 54, 3) := by decide +kernel
theorem dX11_when_67 : decode cX11_when 67 = .ok (.iload 4, 2) := by decide +kernel
theorem dX11_when_69 : decode cX11_when 69 = .ok (.iconst (-1), 1) := by decide +kernel
theorem dX11_when_70 : decode cX11_when 70 = .ok (.if_icmp .ne 48, 3) := by decide +kernel
theorem dX11_when_73 : decode cX11_when 73 = .ok (.aload_n 0, 1) := by decide +kernel
theorem dX11_when_74 : decode cX11_when 74 = .ok (.getfield 7, 3) := by decide +kernel
theorem dX11_when_77 : decode cX11_when 77 = .ok (.sipush 232, 3) := by decide +kernel
theorem dX11_when_80 : decode cX11_when 80 = .ok (.iaload, 1) := by decide +kernel
theorem dX11_when_81 : decode cX11_when 81 = .ok (.istore 6, 2) := by decide +kernel
theorem dX11_when_83 : decode cX11_when 83 = .ok (.aload_n 0, 1) := by decide +kernel
theorem dX11_when_84 : decode cX11_when 84 = .ok (.invokevirtual 331, 3) := by decide +kernel
theorem dX11_when_87 : decode cX11_when 87 = .ok (.aload_n 0, 1) := by decide +kernel
theorem dX11_when_88 : decode cX11_when 88 = .ok (.iload_n 1, 1) := by decide +kernel
theorem dX11_when_89 : decode cX11_when 89 = .ok (.invokevirtual 208, 3) := by decide +kernel
theorem dX11_when_92 : decode cX11_when 92 = .ok (.ifCond .ne 20, 3) := by decide +kernel
theorem dX11_when_95 : decode cX11_when 95 = .ok (.iload_n 3, 1) := by decide +kernel
theorem dX11_when_96 : decode cX11_when 96 = .ok (.ifCond .eq 12, 3) := by decide +kernel
theorem dX11_when_99 : decode cX11_when 99 = .ok (.aload_n 0, 1) := by decide +kernel
theorem dX11_when_100 : decode cX11_when 100 = .ok (.iload_n 1, 1) := by decide +kernel
theorem dX11_when_101 : decode cX11_when 101 = .ok (.iconst 4, 1) := by decide +kernel
theorem dX11_when_102 : decode cX11_when 102 = .ok (.invokevirtual 205, 3) := by decide +kernel
theorem dX11_when_105 : decode cX11_when 105 = .ok (.goto 5, 3) := by decide +kernel
theorem dX11_when_108 : decode cX11_when 108 = .ok (.iload 6, 2) := by decide +kernel
theorem dX11_when_110 : decode cX11_when 110 = .ok (.istore 4, 2) := by decide +kernel
theorem dX11_when_112 : decode cX11_when 112 = .ok (.iinc 5 1, 3) := by decide +kernel
theorem dX11_when_115 : decode cX11_when 115 = .ok (.goto (-54), 3) := by decide +kernel
theorem dX11_when_118 : decode cX11_when 118 = .ok (.aload_n 0, 1) := by decide +kernel
theorem dX11_when_119 : decode cX11_when 119 = .ok (.getfield 16, 3) := by decide +kernel
theorem dX11_when_122 : decode cX11_when 122 = .ok (.aload_n 0, 1) := by decide +kernel
theorem dX11_when_123 : decode cX11_when 123 = .ok (.getfield 7, 3) := by decide +kernel
theorem dX11_when_126 : decode cX11_when 126 = .ok (.invokestatic 192, 3) := by decide +kernel
theorem dX11_when_129 : decode cX11_when 129 = .ok (.iload 4, 2) := by decide +kernel
theorem dX11_when_131 : decode cX11_when 131 = .ok (.iconst (-1), 1) := by decide +kernel
theorem dX11_when_132 : decode cX11_when 132 = .ok (.if_icmp .ne 11, 3) := by decide +kernel
theorem dX11_when_135 : decode cX11_when 135 = .ok (.aload_n 0, 1) := by decide +kernel
theorem dX11_when_136 : decode cX11_when 136 = .ok (.iconst 5, 1) := by decide +kernel
theorem dX11_when_137 : decode cX11_when 137 = .ok (.invokevirtual 186, 3) := by decide +kernel
theorem dX11_when_140 : decode cX11_when 140 = .ok (.goto 9, 3) := by decide +kernel
theorem dX11_when_143 : decode cX11_when 143 = .ok (.aload_n 0, 1) := by decide +kernel
theorem dX11_when_144 : decode cX11_when 144 = .ok (.iload 4, 2) := by decide +kernel
theorem dX11_when_146 : decode cX11_when 146 = .ok (.invokevirtual 199, 3) := by decide +kernel
theorem dX11_when_149 : decode cX11_when 149 = .ok (.ireturn, 1) := by decide +kernel
theorem dX11_tip_0 : decode cX11_tip 0 = .ok (.aload_n 0, 1) := by decide +kernel
theorem dX11_tip_1 : decode cX11_tip 1 = .ok (.iload_n 1, 1) := by decide +kernel
theorem dX11_tip_2 : decode cX11_tip 2 = .ok (.invokevirtual 244, 3) := by decide +kernel
theorem dX11_tip_5 : decode cX11_tip 5 = .ok (.ifCond .ne 9, 3) := by decide +kernel
theorem dX11_tip_8 : decode cX11_tip 8 = .ok (.aload_n 0, 1) := by decide +kernel
theorem dX11_tip_9 : decode cX11_tip 9 = .ok (.iconst 2, 1) := by decide +kernel
theorem dX11_tip_10 : decode cX11_tip 10 = .ok (.invokevirtual 186, 3) := by decide +kernel
theorem dX11_tip_13 : decode cX11_tip 13 = .ok (.ireturn, 1) := by decide +kernel
theorem dX11_tip_14 : decode cX11_tip 14 = .ok (.iconst (-1), 1) := by decide +kernel
theorem dX11_tip_15 : decode cX11_tip 15 = .ok (.istore_n 2, 1) := by decide +kernel
theorem dX11_tip_16 : decode cX11_tip 16 = .ok (.iconst 0, 1) := by decide +kernel
theorem dX11_tip_17 : decode cX11_tip 17 = .ok (.istore_n 3, 1) := by decide +kernel
theorem dX11_tip_18 : decode cX11_tip 18 = .ok (.aload_n 0, 1) := by decide +kernel
theorem dX11_tip_19 : decode cX11_tip 19 = .ok (.iload_n 1, 1) := by decide +kernel
theorem dX11_tip_20 : decode cX11_tip 20 = .ok (.bipush 11, 2) := by decide +kernel
theorem dX11_tip_22 : decode cX11_tip 22 = .ok (.invokevirtual 205, 3) := by decide +kernel
theorem dX11_tip_25 : decode cX11_tip 25 = .ok (.ifCond .ne 14, 3) := by decide +kernel
theorem dX11_tip_28 : decode cX11_tip 28 = .ok (.aload_n 0, 1) := by decide +kernel
theorem dX11_tip_29 : decode cX11_tip 29 = .ok (.getfield 7, 3) := by decide +kernel
theorem dX11_tip_32 : decode cX11_tip 32 = .ok (.sipush 230, 3) := by decide +kernel
theorem dX11_tip_35 : decode cX11_tip 35 = .ok (.iaload, 1) := by decide +kernel
theorem dX11_tip_36 : decode cX11_tip 36 = .ok (.goto 10, 3) := by decide +kernel
theorem dX11_tip_39 : decode cX11_tip 39 = .ok (.aload_n 0, 1) := by decide +kernel
theorem dX11_tip_40 : decode cX11_tip 40 = .ok (.iload_n 1, 1) := by decide +kernel
theorem dX11_tip_41 : decode cX11_tip 41 = .ok (.bipush 11, 2) := by decide +kernel
theorem dX11_tip_43 : decode cX11_tip 43 = .ok (.invokevirtual 205, 3) := by decide +kernel
theorem dX11_tip_46 : decode cX11_tip 46 = .ok (.istore 4, 2) := by decide +kernel
theorem dX11_tip_48 : decode cX11_tip 48 = .ok (.iconst 0, 1) := by decide +kernel
theorem dX11_tip_49 : decode cX11_tip 49 = .ok (.istore 5, 2) := by decide +kernel
theorem dX11_tip_51 : decode cX11_tip 51 = .ok (.iload 5, 2) := by decide +kernel
theorem dX11_tip_53 : decode cX11_tip 53 = .ok (.iload 4, 2) := by decide +kernel
theorem dX11_tip_55 : decode cX11_tip 55 = .ok (.if_icmp .ge 94, 3) := by decide +kernel
theorem dX11_tip_58 : decode cX11_tip 58 = .ok (.aload_n 0, 1) := by decide +kernel
theorem dX11_tip_59 : decode cX11_tip 59 = .ok (.iload_n 1, 1) := by decide +kernel
theorem dX11_tip_60 : decode cX11_tip 60 = .ok (.bipush 11, 2) := by decide +kernel
theorem dX11_tip_62 : decode cX11_tip 62 = .ok (.invokevirtual 205, 3) := by decide +kernel
theorem dX11_tip_65 : decode cX11_tip 65 = .ok (.ifCond .ne 8, 3) := by decide +kernel
theorem dX11_tip_68 : decode cX11_tip 68 = .ok (.iload 5, 2) := by decide +kernel
theorem dX11_tip_70 : decode cX11_tip 70 = .ok (.goto 13, 3) := by decide +kernel
theorem dX11_tip_73 : decode cX11_tip 73 = .ok (.aload_n 0, 1) := by decide +kernel
theorem dX11_tip_74 : decode cX11_tip 74 = .ok (.iload_n 1, 1) := by decide +kernel
theorem dX11_tip_75 : decode cX11_tip 75 = .ok (.bipush 12, 2) := by decide +kernel
theorem dX11_tip_77 : decode cX11_tip 77 = .ok (.iload 5, 2) := by decide +kernel
theorem dX11_tip_79 : decode cX11_tip 79 = .ok (.iadd, 1) := by decide +kernel
theorem dX11_tip_80 : decode cX11_tip 80 = .ok (.invokevirtual 205, 3) := by decide +kernel
theorem dX11_tip_83 : decode cX11_tip 83 = .ok (.istore 6, 2) := by decide +kernel
theorem dX11_tip_85 : decode cX11_tip 85 = .ok (.aload_n 0, 1) := by decide +kernel
theorem dX11_tip_86 : decode cX11_tip 86 = .ok (.iload_n 1, 1) := by decide +kernel
theorem dX11_tip_87 : decode cX11_tip 87 = .ok (.iload 6, 2) := by decide +kernel
theorem dX11_tip_89 : decode cX11_tip 89 = .ok (.invokevirtual 234, 3) := by decide +kernel
theorem dX11_tip_92 : decode cX11_tip 92 = .ok (.ifCond .ne 16, 3) := by decide +kernel
theorem dX11_tip_95 : decode cX11_tip 95 = .ok (.aload_n 0, 1) := by decide +kernel
theorem dX11_tip_96 : decode cX11_tip 96 = .ok (.iload_n 1, 1) := by decide +kernel
theorem dX11_tip_97 : decode cX11_tip 97 = .ok (.iload 6, 2) := by decide +kernel
theorem dX11_tip_99 : decode cX11_tip 99 = .ok (.invokevirtual 256, 3) := by decide +kernel
theorem dX11_tip_102 : decode cX11_tip 102 = .ok (.ifCond .eq 6, 3) := by decide +kernel
theorem dX11_tip_105 : decode cX11_tip 105 = .ok (.goto 38, 3) := by decide +kernel
theorem dX11_tip_108 : decode cX11_tip 108 = .ok (.aload_n 0, 1) := by decide +kernel
theorem dX11_tip_109 : decode cX11_tip 109 = .ok (.iload_n 1, 1) := by decide +kernel
theorem dX11_tip_110 : decode cX11_tip 110 = .ok (.iload 6, 2) := by decide +kernel
theorem dX11_tip_112 : decode cX11_tip 112 = .ok (.aload_n 0, 1) := by decide +kernel
theorem dX11_tip_113 : decode cX11_tip 113 = .ok (.iload 6, 2) := by decide +kernel
theorem dX11_tip_115 : decode cX11_tip 115 = .ok (.invokevirtual 277, 3) := by decide +kernel
theorem dX11_tip_118 : decode cX11_tip 118 = .ok (.invokevirtual 286, 3) := by decide +kernel
theorem dX11_tip_121 : decode cX11_tip 121 = .ok (.istore 7, 2) := by decide +kernel
theorem dX11_tip_123 : decode cX11_tip 123 = .ok (.iload_n 2, 1) := by decide +kernel
theorem dX11_tip_124 : decode cX11_tip 124 = .ok (.iconst (-1), 1) := by decide +kernel
theorem dX11_tip_125 : decode cX11_tip 125 = .ok (.if_icmp .eq 12, 3) := by decide +kernel
theorem dX11_tip_128 : decode cX11_tip 128 = .ok (.iload 7, 2) := by decide +kernel
theorem dX11_tip_130 : decode cX11_tip 130 = .ok (.iload_n 3, 1) := by decide +kernel
theorem dX11_tip_131 : decode cX11_tip 131 = .ok (.if_icmp .lt 6, 3) := by decide +kernel
theorem dX11_tip_134 : decode cX11_tip 134 = .ok (.goto 9, 3) := by decide +kernel
theorem dX11_tip_137 : decode cX11_tip 137 = .ok (.iload 6, 2) := by decide +kernel
theorem dX11_tip_139 : decode cX11_tip 139 = .ok (.istore_n 2, 1) := by decide +kernel
theorem dX11_tip_140 : decode cX11_tip 140 = .ok (.iload 7, 2) := by decide +kernel
theorem dX11_tip_142 : decode cX11_tip 142 = .ok (.istore_n 3, 1) := by decide +kernel
theorem dX11_tip_143 : decode cX11_tip 143 = .ok (.iinc 5 1, 3) := by decide +kernel
theorem dX11_tip_146 : decode cX11_tip 146 = .ok (.goto (-95), 3) := by decide +kernel
theorem dX11_tip_149 : decode cX11_tip 149 = .ok (.iload_n 2, 1) := by decide +kernel
theorem dX11_tip_150 : decode cX11_tip 150 = .ok (.iconst (-1), 1) := by decide +kernel
theorem dX11_tip_151 : decode cX11_tip 151 = .ok (.if_icmp .ne 11, 3) := by decide +kernel
theorem dX11_tip_154 : decode cX11_tip 154 = .ok (.aload_n 0, 1) := by decide +kernel
theorem dX11_tip_155 : decode cX11_tip 155 = .ok (.iconst 5, 1) := by decide +kernel
theorem dX11_tip_156 : decode cX11_tip 156 = .ok (.invokevirtual 186, 3) := by decide +kernel
theorem dX11_tip_159 : decode cX11_tip 159 = .ok (.goto 8, 3) := by decide +kernel
theorem dX11_tip_162 : decode cX11_tip 162 = .ok (.aload_n 0, 1) := by decide +kernel
theorem dX11_tip_163 : decode cX11_tip 163 = .ok (.iload_n 2, 1) := by decide +kernel
theorem dX11_tip_164 : decode cX11_tip 164 = .ok (.invokevirtual 199, 3) := by decide +kernel
theorem dX11_tip_167 : decode cX11_tip 167 = .ok (.ireturn, 1) := by decide +kernel
theorem dX11_would_0 : decode cX11_would 0 = .ok (.aload_n 0, 1) := by decide +kernel
theorem dX11_would_1 : decode cX11_would 1 = .ok (.iload_n 1, 1) := by decide +kernel
theorem dX11_would_2 : decode cX11_would 2 = .ok (.iload_n 2, 1) := by decide +kernel
theorem dX11_would_3 : decode cX11_would 3 = .ok (.invokevirtual 253, 3) := by decide +kernel
theorem dX11_would_6 : decode cX11_would 6 = .ok (.ifCond .ne 9, 3) := by decide +kernel
theorem dX11_would_9 : decode cX11_would 9 = .ok (.aload_n 0, 1) := by decide +kernel
theorem dX11_would_10 : decode cX11_would 10 = .ok (.iconst 2, 1) := by decide +kernel
theorem dX11_would_11 : decode cX11_would 11 = .ok (.invokevirtual 186, 3) := by decide +kernel
theorem dX11_would_14 : decode cX11_would 14 = .ok (.ireturn, 1) := by decide +kernel
theorem dX11_would_15 : decode cX11_would 15 = .ok (.aload_n 0, 1) := by decide +kernel
theorem dX11_would_16 : decode cX11_would 16 = .ok (.iload_n 1, 1) := by decide +kernel
theorem dX11_would_17 : decode cX11_would 17 = .ok (.invokevirtual 283, 3) := by decide +kernel
theorem dX11_would_20 : decode cX11_would 20 = .ok (.ifCond .eq 20, 3) := by decide +kernel
theorem dX11_would_23 : decode cX11_would 23 = .ok (.aload_n 0, 1) := by decide +kernel
theorem dX11_would_24 : decode cX11_would 24 = .ok (.iload_n 2, 1) := by decide +kernel
theorem dX11_would_25 : decode cX11_would 25 = .ok (.invokevirtual 219, 3) := by decide +kernel
theorem dX11_would_28 : decode cX11_would 28 = .ok (.ifCond .eq 12, 3) := by decide +kernel
theorem dX11_would_31 : decode cX11_would 31 = .ok (.aload_n 0, 1) := by decide +kernel
theorem dX11_would_32 : decode cX11_would 32 = .ok (.iload_n 1, 1) := by decide +kernel
theorem dX11_would_33 : decode cX11_would 33 = .ok (.iload_n 2, 1) := by decide +kernel
theorem dX11_would_34 : decode cX11_would 34 = .ok (.invokevirtual 250, 3) := by decide +kernel
theorem dX11_would_37 : decode cX11_would 37 = .ok (.ifCond .ne 9, 3) := by decide +kernel
theorem dX11_would_40 : decode cX11_would 40 = .ok (.aload_n 0, 1) := by decide +kernel
theorem dX11_would_41 : decode cX11_would 41 = .ok (.iconst 5, 1) := by decide +kernel
theorem dX11_would_42 : decode cX11_would 42 = .ok (.invokevirtual 186, 3) := by decide +kernel
theorem dX11_would_45 : decode cX11_would 45 = .ok (.ireturn, 1) := by decide +kernel
theorem dX11_would_46 : decode cX11_would 46 = .ok (.aload_n 0, 1) := by decide +kernel
theorem dX11_would_47 : decode cX11_would 47 = .ok (.getfield 7, 3) := by decide +kernel
theorem dX11_would_50 : decode cX11_would 50 = .ok (.aload_n 0, 1) := by decide +kernel
theorem dX11_would_51 : decode cX11_would 51 = .ok (.getfield 16, 3) := by decide +kernel
theorem dX11_would_54 : decode cX11_would 54 = .ok (.invokestatic 192, 3) := by decide +kernel
theorem dX11_would_57 : decode cX11_would 57 = .ok (.aload_n 0, 1) := by decide +kernel
theorem dX11_would_58 : decode cX11_would 58 = .ok (.iload_n 1, 1) := by decide +kernel
theorem dX11_would_59 : decode cX11_would 59 = .ok (.bipush 10, 2) := by decide +kernel
theorem dX11_would_61 : decode cX11_would 61 = .ok (.iconst 1, 1) := by decide +kernel
theorem dX11_would_62 : decode cX11_would 62 = .ok (.iload_n 2, 1) := by decide +kernel
theorem dX11_would_63 : decode cX11_would 63 = .ok (.ishl, 1) := by decide +kernel
theorem dX11_would_64 : decode cX11_would 64 = .ok (.invokevirtual 289, 3) := by decide +kernel
theorem dX11_would_67 : decode cX11_would 67 = .ok (.aload_n 0, 1) := by decide +kernel
theorem dX11_would_68 : decode cX11_would 68 = .ok (.invokevirtual 328, 3) := by decide +kernel
theorem dX11_would_71 : decode cX11_would 71 = .ok (.pop, 1) := by decide +kernel
theorem dX11_would_72 : decode cX11_would 72 = .ok (.iconst 0, 1) := by decide +kernel
theorem dX11_would_73 : decode cX11_would 73 = .ok (.istore_n 3, 1) := by decide +kernel
theorem dX11_would_74 : decode cX11_would 74 = .ok (.iconst 0, 1) := by decide +kernel
theorem dX11_would_75 : decode cX11_would 75 = .ok (.istore 4, 2) := by decide +kernel
theorem dX11_would_77 : decode cX11_would 77 = .ok (.iload 4, 2) := by decide +kernel
theorem dX11_would_79 : decode cX11_would 79 = .ok (.aload_n 0, 1) := by decide +kernel
theorem dX11_would_80 : decode cX11_would 80 = .ok (.getfield 7, 3) := by decide +kernel
theorem dX11_would_83 : decode cX11_would 83 = .ok (.sipush 299, 3) := by decide +kernel
theorem dX11_would_86 : decode cX11_would 86 = .ok (.iaload, 1) := by decide +kernel
theorem dX11_would_87 : decode cX11_would 87 = .ok (.if_icmp .ge 51, 3) := by decide +kernel
theorem dX11_would_90 : decode cX11_would 90 = .ok (.aload_n 0, 1) := by decide +kernel
theorem dX11_would_91 : decode cX11_would 91 = .ok (.getfield 7, 3) := by decide +kernel
theorem dX11_would_94 : decode cX11_would 94 = .ok (.sipush 300, 3) := by decide +kernel
theorem dX11_would_97 : decode cX11_would 97 = .ok (.iconst 3, 1) := by decide +kernel
theorem dX11_would_98 : decode cX11_would 98 = .ok (.iload 4, 2) := by decide +kernel
theorem dX11_would_100 : decode cX11_would 100 = .ok (.imul, 1) := by decide +kernel
theorem dX11_would_101 : decode cX11_would 101 = .ok (.iadd, 1) := by decide +kernel
theorem dX11_would_102 : decode cX11_would 102 = .ok (.iaload, 1) := by decide +kernel
theorem dX11_would_103 : decode cX11_would 103 = .ok (.iload_n 1, 1) := by decide +kernel
theorem dX11_would_104 : decode cX11_would 104 = .ok (.if_icmp .ne 28, 3) := by decide +kernel
theorem dX11_would_107 : decode cX11_would 107 = .ok (.aload_n 0, 1) := by decide +kernel
theorem dX11_would_108 : decode cX11_would 108 = .ok (.getfield 7, 3) := by decide +kernel
theorem dX11_would_111 : decode cX11_would 111 = .ok (.sipush 300, 3) := by decide +kernel
theorem dX11_would_114 : decode cX11_would 114 = .ok (.iconst 3, 1) := by decide +kernel
theorem dX11_would_115 : decode cX11_would 115 = .ok (.iload 4, 2) := by decide +kernel
theorem dX11_would_117 : decode cX11_would 117 = .ok (.imul, 1) := by decide +kernel
theorem dX11_would_118 : decode cX11_would 118 = .ok (.iadd, 1) := by decide +kernel
theorem dX11_would_119 : decode cX11_would 119 = .ok (.iconst 2, 1) := by decide +kernel
theorem dX11_would_120 : decode cX11_would 120 = .ok (.iadd, 1) := by decide +kernel
theorem dX11_would_121 : decode cX11_would 121 = .ok (.iaload, 1) := by decide +kernel
theorem dX11_would_122 : decode cX11_would 122 = .ok (.iconst 1, 1) := by decide +kernel
theorem dX11_would_123 : decode cX11_would 123 = .ok (.if_icmp .ne 7, 3) := by decide +kernel
theorem dX11_would_126 : decode cX11_would 126 = .ok (.iconst 1, 1) := by decide +kernel
theorem dX11_would_127 : decode cX11_would 127 = .ok (.goto 4, 3) := by decide +kernel
theorem dX11_would_130 : decode cX11_would 130 = .ok (.iconst 2, 1) := by decide +kernel
theorem dX11_would_131 : decode cX11_would 131 = .ok (.istore_n 3, 1) := by decide +kernel
theorem dX11_would_132 : decode cX11_would 132 = .ok (.iinc 4 1, 3) := by decide +kernel
theorem dX11_would_135 : decode cX11_would 135 = .ok (.goto (-58), 3) := by decide +kernel
theorem dX11_would_138 : decode cX11_would 138 = .ok (.aload_n 0, 1) := by decide +kernel
theorem dX11_would_139 : decode cX11_would 139 = .ok (.getfield 16, 3) := by decide +kernel
theorem dX11_would_142 : decode cX11_would 142 = .ok (.aload_n 0, 1) := by decide +kernel
theorem dX11_would_143 : decode cX11_would 143 = .ok (.getfield 7, 3) := by decide +kernel
theorem dX11_would_146 : decode cX11_would 146 = .ok (.invokestatic 192, 3) := by decide +kernel
theorem dX11_would_149 : decode cX11_would 149 = .ok (.aload_n 0, 1) := by decide +kernel
theorem dX11_would_150 : decode cX11_would 150 = .ok (.iload_n 3, 1) := by decide +kernel
theorem dX11_would_151 : decode cX11_would 151 = .ok (.invokevirtual 199, 3) := by decide +kernel
theorem dX11_would_154 : decode cX11_would 154 = .ok (.ireturn, 1) := by decide +kernel
theorem dX11_queue_0 : decode cX11_queue 0 = .ok (.iload_n 1, 1) := by decide +kernel
theorem dX11_queue_1 : decode cX11_queue 1 = .ok (.ifCond .ge 9, 3) := by decide +kernel
theorem dX11_queue_4 : decode cX11_queue 4 = .ok (.aload_n 0, 1) := by decide +kernel
theorem dX11_queue_5 : decode cX11_queue 5 = .ok (.iconst 1, 1) := by decide +kernel
theorem dX11_queue_6 : decode cX11_queue 6 = .ok (.invokevirtual 186, 3) := by decide +kernel
theorem dX11_queue_9 : decode cX11_queue 9 = .ok (.ireturn, 1) := by decide +kernel
theorem dX11_queue_10 : decode cX11_queue 10 = .ok (.iload_n 1, 1) := by decide +kernel
theorem dX11_queue_11 : decode cX11_queue 11 = .ok (.aload_n 0, 1) := by decide +kernel
theorem dX11_queue_12 : decode cX11_queue 12 = .ok (.invokevirtual 231, 3) := by decide +kernel
theorem dX11_queue_15 : decode cX11_queue 15 = .ok (.if_icmp .lt 9, 3) := by decide +kernel
theorem dX11_queue_18 : decode cX11_queue 18 = .ok (.aload_n 0, 1) := by decide +kernel
theorem dX11_queue_19 : decode cX11_queue 19 = .ok (.iconst 5, 1) := by decide +kernel
theorem dX11_queue_20 : decode cX11_queue 20 = .ok (.invokevirtual 186, 3) := by decide +kernel
theorem dX11_queue_23 : decode cX11_queue 23 = .ok (.ireturn, 1) := by decide +kernel
theorem dX11_queue_24 : decode cX11_queue 24 = .ok (.iload_n 1, 1) := by decide +kernel
theorem dX11_queue_25 : decode cX11_queue 25 = .ok (.istore_n 2, 1) := by decide +kernel
theorem dX11_queue_26 : decode cX11_queue 26 = .ok (.iconst (-1), 1) := by decide +kernel
theorem dX11_queue_27 : decode cX11_queue 27 = .ok (.istore_n 3, 1) := by decide +kernel
theorem dX11_queue_28 : decode cX11_queue 28 = .ok (.iconst (-1), 1) := by decide +kernel
theorem dX11_queue_29 : decode cX11_queue 29 = .ok (.istore 4, 2) := by decide +kernel
theorem dX11_queue_31 : decode cX11_queue 31 = .ok (.iload_n 2, 1) := by decide +kernel
theorem dX11_queue_32 : decode cX11_queue 32 = .ok (.ifCond .lt 82, 3) := by decide +kernel
theorem dX11_queue_35 : decode cX11_queue 35 = .ok (.iconst (-1), 1) := by decide +kernel
theorem dX11_queue_36 : decode cX11_queue 36 = .ok (.istore_n 3, 1) := by decide +kernel
theorem dX11_queue_37 : decode cX11_queue 37 = .ok (.iconst 0, 1) := by decide +kernel
theorem dX11_queue_38 : decode cX11_queue 38 = .ok (.istore 5, 2) := by decide +kernel
theorem dX11_queue_40 : decode cX11_queue 40 = .ok (.iload 5, 2) := by decide +kernel
theorem dX11_queue_42 : decode cX11_queue 42 = .ok (.aload_n 0, 1) := by decide +kernel
theorem dX11_queue_43 : decode cX11_queue 43 = .ok (.getfield 7, 3) := by decide +kernel
theorem dX11_queue_46 : decode cX11_queue 46 = .ok (.sipush 231, 3) := by decide +kernel
theorem dX11_queue_49 : decode cX11_queue 49 = .ok (.iaload, 1) := by decide +kernel
theorem dX11_queue_50 : decode cX11_queue 50 = .ok (.if_icmp .ge 51, 3) := by decide +kernel
theorem dX11_queue_53 : decode cX11_queue 53 = .ok (.aload_n 0, 1) := by decide +kernel
theorem dX11_queue_54 : decode cX11_queue 54 = .ok (.iload 5, 2) := by decide +kernel
theorem dX11_queue_56 : decode cX11_queue 56 = .ok (.invokevirtual 208, 3) := by decide +kernel
theorem dX11_queue_59 : decode cX11_queue 59 = .ok (.ifCond .eq 36, 3) := by decide +kernel
theorem dX11_queue_62 : decode cX11_queue 62 = .ok (.aload_n 0, 1) := by decide +kernel
theorem dX11_queue_63 : decode cX11_queue 63 = .ok (.iload 5, 2) := by decide +kernel
theorem dX11_queue_65 : decode cX11_queue 65 = .ok (.invokevirtual 334, 3) := by decide +kernel
theorem dX11_queue_68 : decode cX11_queue 68 = .ok (.iload 4, 2) := by decide +kernel
theorem dX11_queue_70 : decode cX11_queue 70 = .ok (.if_icmp .le 25, 3) := by decide +kernel
theorem dX11_queue_73 : decode cX11_queue 73 = .ok (.iload_n 3, 1) := by decide +kernel
theorem dX11_queue_74 : decode cX11_queue 74 = .ok (.iconst (-1), 1) := by decide +kernel
theorem dX11_queue_75 : decode cX11_queue 75 = .ok (.if_icmp .eq 17, 3) := by decide +kernel
theorem dX11_queue_78 : decode cX11_queue 78 = .ok (.aload_n 0, 1) := by decide +kernel
theorem dX11_queue_79 : decode cX11_queue 79 = .ok (.iload 5, 2) := by decide +kernel
theorem dX11_queue_81 : decode cX11_queue 81 = .ok (.invokevirtual 334, 3) := by decide +kernel
theorem dX11_queue_84 : decode cX11_queue 84 = .ok (.aload_n 0, 1) := by decide +kernel
theorem dX11_queue_85 : decode cX11_queue 85 = .ok (.iload_n 3, 1) := by decide +kernel
theorem dX11_queue_86 : decode cX11_queue 86 = .ok (.invokevirtual 334, 3) := by decide +kernel
theorem dX11_queue_89 : decode cX11_queue 89 = .ok (.if_icmp .ge 6, 3) := by decide +kernel
theorem dX11_queue_92 : decode cX11_queue 92 = .ok (.iload 5, 2) := by decide +kernel
theorem dX11_queue_94 : decode cX11_queue 94 = .ok (.istore_n 3, 1) := by decide +kernel
theorem dX11_queue_95 : decode cX11_queue 95 = .ok (.iinc 5 1, 3) := by decide +kernel
theorem dX11_queue_98 : decode cX11_queue 98 = .ok (.goto (-58), 3) := by decide +kernel
theorem dX11_queue_101 : decode cX11_queue 101 = .ok (.aload_n 0, 1) := by decide +kernel
theorem dX11_queue_102 : decode cX11_queue 102 = .ok (.iload_n 3, 1) := by decide +kernel
theorem dX11_queue_103 : decode cX11_queue 103 = .ok (.invokevirtual 334, 3) := by decide +kernel
theorem dX11_queue_106 : decode cX11_queue 106 = .ok (.istore 4, 2) := by decide +kernel
theorem dX11_queue_108 : decode cX11_queue 108 = .ok (.iinc 2 (-1), 3) := by decide +kernel
theorem dX11_queue_111 : decode cX11_queue 111 = .ok (.goto (-80), 3) := by decide +kernel
theorem dX11_queue_114 : decode cX11_queue 114 = .ok (.aload_n 0, 1) := by decide +kernel
theorem dX11_queue_115 : decode cX11_queue 115 = .ok (.iload_n 3, 1) := by decide +kernel
theorem dX11_queue_116 : decode cX11_queue 116 = .ok (.invokevirtual 199, 3) := by decide +kernel
theorem dX11_queue_119 : decode cX11_queue 119 = .ok (.ireturn, 1) := by decide +kernel
theorem dX11_plainWeight_0 : decode cX11_plainWeight 0 = .ok (.sipush 1000, 3) := by decide +kernel
theorem dX11_plainWeight_3 : decode cX11_plainWeight 3 = .ok (.aload_n 0, 1) := by decide +kernel
theorem dX11_plainWeight_4 : decode cX11_plainWeight 4 = .ok (.iload_n 1, 1) := by decide +kernel
theorem dX11_plainWeight_5 : decode cX11_plainWeight 5 = .ok (.invokevirtual 247, 3) := by decide +kernel
theorem dX11_plainWeight_8 : decode cX11_plainWeight 8 = .ok (.imul, 1) := by decide +kernel
theorem dX11_plainWeight_9 : decode cX11_plainWeight 9 = .ok (.aload_n 0, 1) := by decide +kernel
theorem dX11_plainWeight_10 : decode cX11_plainWeight 10 = .ok (.iload_n 1, 1) := by decide +kernel
theorem dX11_plainWeight_11 : decode cX11_plainWeight 11 = .ok (.iconst 3, 1) := by decide +kernel
theorem dX11_plainWeight_12 : decode cX11_plainWeight 12 = .ok (.invokevirtual 205, 3) := by decide +kernel
theorem dX11_plainWeight_15 : decode cX11_plainWeight 15 = .ok (.iadd, 1) := by decide +kernel
theorem dX11_plainWeight_16 : decode cX11_plainWeight 16 = .ok (.bipush 8, 2) := by decide +kernel
theorem dX11_plainWeight_18 : decode cX11_plainWeight 18 = .ok (.imul, 1) := by decide +kernel
theorem dX11_plainWeight_19 : decode cX11_plainWeight 19 = .ok (.iload_n 1, 1) := by decide +kernel
theorem dX11_plainWeight_20 : decode cX11_plainWeight 20 = .ok (.iadd, 1) := by decide +kernel
theorem dX11_plainWeight_21 : decode cX11_plainWeight 21 = .ok (.ireturn, 1) := by decide +kernel
theorem dX11_couldHave_0 : decode cX11_couldHave 0 = .ok (.aload_n 0, 1) := by decide +kernel
theorem dX11_couldHave_1 : decode cX11_couldHave 1 = .ok (.iload_n 1, 1) := by decide +kernel
theorem dX11_couldHave_2 : decode cX11_couldHave 2 = .ok (.invokevirtual 283, 3) := by decide +kernel
theorem dX11_couldHave_5 : decode cX11_couldHave 5 = .ok (.ifCond .eq 25, 3) := by decide +kernel
theorem dX11_couldHave_8 : decode cX11_couldHave 8 = .ok (.aload_n 0, 1) := by decide +kernel
theorem dX11_couldHave_9 : decode cX11_couldHave 9 = .ok (.iload_n 1, 1) := by decide +kernel
theorem dX11_couldHave_10 : decode cX11_couldHave 10 = .ok (.iload_n 2, 1) := by decide +kernel
theorem dX11_couldHave_11 : decode cX11_couldHave 11 = .ok (.invokevirtual 250, 3) := by decide +kernel
theorem dX11_couldHave_14 : decode cX11_couldHave 14 = .ok (.ifCond .eq 16, 3) := by decide +kernel
theorem dX11_couldHave_17 : decode cX11_couldHave 17 = .ok (.aload_n 0, 1) := by decide +kernel
theorem dX11_couldHave_18 : decode cX11_couldHave 18 = .ok (.iload_n 1, 1) := by decide +kernel
theorem dX11_couldHave_19 : decode cX11_couldHave 19 = .ok (.iload_n 2, 1) := by decide +kernel
theorem dX11_couldHave_20 : decode cX11_couldHave 20 = .ok (.invokevirtual 300, 3) := by decide +kernel
theorem dX11_couldHave_23 : decode cX11_couldHave 23 = .ok (.ifCond .eq 7, 3) := by decide +kernel
theorem dX11_couldHave_26 : decode cX11_couldHave 26 = .ok (.iconst 1, 1) := by decide +kernel
theorem dX11_couldHave_27 : decode cX11_couldHave 27 = .ok (.goto 4, 3) := by decide +kernel
theorem dX11_couldHave_30 : decode cX11_couldHave 30 = .ok (.iconst 0, 1) := by decide +kernel
theorem dX11_couldHave_31 : decode cX11_couldHave 31 = .ok (.ireturn, 1) := by decide +kernel
theorem dX11_canGive_0 : decode cX11_canGive 0 = .ok (.aload_n 0, 1) := by decide +kernel
theorem dX11_canGive_1 : decode cX11_canGive 1 = .ok (.iload_n 2, 1) := by decide +kernel
theorem dX11_canGive_2 : decode cX11_canGive 2 = .ok (.invokevirtual 219, 3) := by decide +kernel
theorem dX11_canGive_5 : decode cX11_canGive 5 = .ok (.ifCond .eq 16, 3) := by decide +kernel
theorem dX11_canGive_8 : decode cX11_canGive 8 = .ok (.aload_n 0, 1) := by decide +kernel
theorem dX11_canGive_9 : decode cX11_canGive 9 = .ok (.iload_n 1, 1) := by decide +kernel
theorem dX11_canGive_10 : decode cX11_canGive 10 = .ok (.iload_n 2, 1) := by decide +kernel
theorem dX11_canGive_11 : decode cX11_canGive 11 = .ok (.invokevirtual 337, 3) := by decide +kernel
theorem dX11_canGive_14 : decode cX11_canGive 14 = .ok (.ifCond .eq 7, 3) := by decide +kernel
theorem dX11_canGive_17 : decode cX11_canGive 17 = .ok (.iconst 1, 1) := by decide +kernel
theorem dX11_canGive_18 : decode cX11_canGive 18 = .ok (.goto 4, 3) := by decide +kernel
theorem dX11_canGive_21 : decode cX11_canGive 21 = .ok (.iconst 0, 1) := by decide +kernel
theorem dX11_canGive_22 : decode cX11_canGive 22 = .ok (.ireturn, 1) := by decide +kernel
theorem dX11_gave_0 : decode cX11_gave 0 = .ok (.aload_n 0, 1) := by decide +kernel
theorem dX11_gave_1 : decode cX11_gave 1 = .ok (.getfield 39, 3) := by decide +kernel
theorem dX11_gave_4 : decode cX11_gave 4 = .ok (.sipush 1024, 3) := by decide +kernel
theorem dX11_gave_7 : decode cX11_gave 7 = .ok (.iload_n 1, 1) := by decide +kernel
theorem dX11_gave_8 : decode cX11_gave 8 = .ok (.imul, 1) := by decide +kernel
theorem dX11_gave_9 : decode cX11_gave 9 = .ok (.iload_n 2, 1) := by decide +kernel
theorem dX11_gave_10 : decode cX11_gave 10 = .ok (.iadd, 1) := by decide +kernel
theorem dX11_gave_11 : decode cX11_gave 11 = .ok (.iaload, 1) := by decide +kernel
theorem dX11_gave_12 : decode cX11_gave 12 = .ok (.ireturn, 1) := by decide +kernel
theorem dX11_laysGifts_0 : decode cX11_laysGifts 0 = .ok (.iconst 0, 1) := by decide +kernel
theorem dX11_laysGifts_1 : decode cX11_laysGifts 1 = .ok (.istore_n 1, 1) := by decide +kernel
theorem dX11_laysGifts_2 : decode cX11_laysGifts 2 = .ok (.iload_n 1, 1) := by decide +kernel
theorem dX11_laysGifts_3 : decode cX11_laysGifts 3 = .ok (.sipush 1024, 3) := by decide +kernel
theorem dX11_laysGifts_6 : decode cX11_laysGifts 6 = .ok (.if_icmp .ge 29, 3) := by decide +kernel
theorem dX11_laysGifts_9 : decode cX11_laysGifts 9 = .ok (.aload_n 0, 1) := by decide +kernel
theorem dX11_laysGifts_10 : decode cX11_laysGifts 10 = .ok (.getfield 39, 3) := by decide +kernel
theorem dX11_laysGifts_13 : decode cX11_laysGifts 13 = .ok (.sipush 1024, 3) := by decide +kernel
theorem dX11_laysGifts_16 : decode cX11_laysGifts 16 = .ok (.aload_n 0, 1) := by decide +kernel
theorem dX11_laysGifts_17 : decode cX11_laysGifts 17 = .ok (.getfield 7, 3) := by decide +kernel
theorem dX11_laysGifts_20 : decode cX11_laysGifts 20 = .ok (.sipush 231, 3) := by decide +kernel
theorem dX11_laysGifts_23 : decode cX11_laysGifts 23 = .ok (.iaload, 1) := by decide +kernel
theorem dX11_laysGifts_24 : decode cX11_laysGifts 24 = .ok (.imul, 1) := by decide +kernel
theorem dX11_laysGifts_25 : decode cX11_laysGifts 25 = .ok (.iload_n 1, 1) := by decide +kernel
theorem dX11_laysGifts_26 : decode cX11_laysGifts 26 = .ok (.iadd, 1) := by decide +kernel
theorem dX11_laysGifts_27 : decode cX11_laysGifts 27 = .ok (.iconst 0, 1) := by decide +kernel
theorem dX11_laysGifts_28 : decode cX11_laysGifts 28 = .ok (.iastore, 1) := by decide +kernel
theorem dX11_laysGifts_29 : decode cX11_laysGifts 29 = .ok (.iinc 1 1, 3) := by decide +kernel
theorem dX11_laysGifts_32 : decode cX11_laysGifts 32 = .ok (.goto (-30), 3) := by decide +kernel
theorem dX11_laysGifts_35 : decode cX11_laysGifts 35 = .ok (.aload_n 0, 1) := by decide +kernel
theorem dX11_laysGifts_36 : decode cX11_laysGifts 36 = .ok (.getfield 7, 3) := by decide +kernel
theorem dX11_laysGifts_39 : decode cX11_laysGifts 39 = .ok (.sipush 231, 3) := by decide +kernel
theorem dX11_laysGifts_42 : decode cX11_laysGifts 42 = .ok (.iaload, 1) := by decide +kernel
theorem dX11_laysGifts_43 : decode cX11_laysGifts 43 = .ok (.iconst 1, 1) := by decide +kernel
theorem dX11_laysGifts_44 : decode cX11_laysGifts 44 = .ok (.isub, 1) := by decide +kernel
theorem dX11_laysGifts_45 : decode cX11_laysGifts 45 = .ok (.istore_n 1, 1) := by decide +kernel
theorem dX11_laysGifts_46 : decode cX11_laysGifts 46 = .ok (.iload_n 1, 1) := by decide +kernel
theorem dX11_laysGifts_47 : decode cX11_laysGifts 47 = .ok (.ifCond .lt 107, 3) := by decide +kernel
theorem dX11_laysGifts_50 : decode cX11_laysGifts 50 = .ok (.iconst 0, 1) := by decide +kernel
theorem dX11_laysGifts_51 : decode cX11_laysGifts 51 = .ok (.istore_n 2, 1) := by decide +kernel
theorem dX11_laysGifts_52 : decode cX11_laysGifts 52 = .ok (.iload_n 2, 1) := by decide +kernel
theorem dX11_laysGifts_53 : decode cX11_laysGifts 53 = .ok (.sipush 1024, 3) := by decide +kernel
theorem dX11_laysGifts_56 : decode cX11_laysGifts 56 = .ok (.if_icmp .ge 92, 3) := by decide +kernel
theorem dX11_laysGifts_59 : decode cX11_laysGifts 59 = .ok (.aload_n 0, 1) := by decide +kernel
theorem dX11_laysGifts_60 : decode cX11_laysGifts 60 = .ok (.iload_n 1, 1) := by decide +kernel
theorem dX11_laysGifts_61 : decode cX11_laysGifts 61 = .ok (.iconst 1, 1) := by decide +kernel
theorem dX11_laysGifts_62 : decode cX11_laysGifts 62 = .ok (.iadd, 1) := by decide +kernel
theorem dX11_laysGifts_63 : decode cX11_laysGifts 63 = .ok (.iload_n 2, 1) := by decide +kernel
theorem dX11_laysGifts_64 : decode cX11_laysGifts 64 = .ok (.invokevirtual 340, 3) := by decide +kernel
theorem dX11_laysGifts_67 : decode cX11_laysGifts 67 = .ok (.istore_n 3, 1) := by decide +kernel
theorem dX11_laysGifts_68 : decode cX11_laysGifts 68 = .ok (.iconst 0, 1) := by decide +kernel
theorem dX11_laysGifts_69 : decode cX11_laysGifts 69 = .ok (.istore 4, 2) := by decide +kernel
theorem dX11_laysGifts_71 : decode cX11_laysGifts 71 = .ok (.iload 4, 2) := by decide +kernel
theorem dX11_laysGifts_73 : decode cX11_laysGifts 73 = .ok (.aload_n 0, 1) := by decide +kernel
theorem dX11_laysGifts_74 : decode cX11_laysGifts 74 = .ok (.getfield 7, 3) := by decide +kernel
theorem dX11_laysGifts_77 : decode cX11_laysGifts 77 = .ok (.sipush 230, 3) := by decide +kernel
theorem dX11_laysGifts_80 : decode cX11_laysGifts 80 = .ok (.iaload, 1) := by decide +kernel
theorem dX11_laysGifts_81 : decode cX11_laysGifts 81 = .ok (.if_icmp .ge 48, 3) := by decide +kernel
theorem dX11_laysGifts_84 : decode cX11_laysGifts 84 = .ok (.iload_n 2, 1) := by decide +kernel
theorem dX11_laysGifts_85 : decode cX11_laysGifts 85 = .ok (.iload 4, 2) := by decide +kernel
theorem dX11_laysGifts_87 : decode cX11_laysGifts 87 = .ok (.ishr, 1) := by decide +kernel
theorem dX11_laysGifts_88 : decode cX11_laysGifts 88 = .ok (.iconst 1, 1) := by decide +kernel
theorem dX11_laysGifts_89 : decode cX11_laysGifts 89 = .ok (.iand, 1) := by decide +kernel
theorem dX11_laysGifts_90 : decode cX11_laysGifts 90 = .ok (.ifCond .ne 33, 3) := by decide +kernel
theorem dX11_laysGifts_93 : decode cX11_laysGifts 93 = .ok (.aload_n 0, 1) := by decide +kernel
theorem dX11_laysGifts_94 : decode cX11_laysGifts 94 = .ok (.iload_n 1, 1) := by decide +kernel
theorem dX11_laysGifts_95 : decode cX11_laysGifts 95 = .ok (.iload 4, 2) := by decide +kernel
theorem dX11_laysGifts_97 : decode cX11_laysGifts 97 = .ok (.invokevirtual 343, 3) := by decide +kernel
theorem dX11_laysGifts_100 : decode cX11_laysGifts 100 = .ok (.ifCond .eq 23, 3) := by decide +kernel
theorem dX11_laysGifts_103 : decode cX11_laysGifts 103 = .ok (.iload_n 3, 1) := by decide +kernel
theorem dX11_laysGifts_104 : decode cX11_laysGifts 104 = .ok (.iconst 1, 1) := by decide +kernel
theorem dX11_laysGifts_105 : decode cX11_laysGifts 105 = .ok (.aload_n 0, 1) := by decide +kernel
theorem dX11_laysGifts_106 : decode cX11_laysGifts 106 = .ok (.iload_n 1, 1) := by decide +kernel
theorem dX11_laysGifts_107 : decode cX11_laysGifts 107 = .ok (.iconst 1, 1) := by decide +kernel
theorem dX11_laysGifts_108 : decode cX11_laysGifts 108 = .ok (.iadd, 1) := by decide +kernel
theorem dX11_laysGifts_109 : decode cX11_laysGifts 109 = .ok (.iload_n 2, 1) := by decide +kernel
theorem dX11_laysGifts_110 : decode cX11_laysGifts 110 = .ok (.iconst 1, 1) := by decide +kernel
theorem dX11_laysGifts_111 : decode cX11_laysGifts 111 = .ok (.iload 4, 2) := by decide +kernel
theorem dX11_laysGifts_113 : decode cX11_laysGifts 113 = .ok (.ishl, 1) := by decide +kernel
theorem dX11_laysGifts_114 : decode cX11_laysGifts 114 = .ok (.ior, 1) := by decide +kernel
theorem dX11_laysGifts_115 : decode cX11_laysGifts 115 = .ok (.invokevirtual 340, 3) := by decide +kernel
theorem dX11_laysGifts_118 : decode cX11_laysGifts 118 = .ok (.iadd, 1) := by decide +kernel
theorem dX11_laysGifts_119 : decode cX11_laysGifts 119 = .ok (.invokestatic 211, 3) := by decide +kernel
theorem dX11_laysGifts_122 : decode cX11_laysGifts 122 = .ok (.istore_n 3, 1) := by decide +kernel
theorem dX11_laysGifts_123 : decode cX11_laysGifts 123 = .ok (.iinc 4 1, 3) := by decide +kernel
theorem dX11_laysGifts_126 : decode cX11_laysGifts 126 = .ok (.goto (-55), 3) := by decide +kernel
theorem dX11_laysGifts_129 : decode cX11_laysGifts 129 = .ok (.aload_n 0, 1) := by decide +kernel
theorem dX11_laysGifts_130 : decode cX11_laysGifts 130 = .ok (.getfield 39, 3) := by decide +kernel
theorem dX11_laysGifts_133 : decode cX11_laysGifts 133 = .ok (.sipush 1024, 3) := by decide +kernel
theorem dX11_laysGifts_136 : decode cX11_laysGifts 136 = .ok (.iload_n 1, 1) := by decide +kernel
theorem dX11_laysGifts_137 : decode cX11_laysGifts 137 = .ok (.imul, 1) := by decide +kernel
theorem dX11_laysGifts_138 : decode cX11_laysGifts 138 = .ok (.iload_n 2, 1) := by decide +kernel
theorem dX11_laysGifts_139 : decode cX11_laysGifts 139 = .ok (.iadd, 1) := by decide +kernel
theorem dX11_laysGifts_140 : decode cX11_laysGifts 140 = .ok (.iload_n 3, 1) := by decide +kernel
theorem dX11_laysGifts_141 : decode cX11_laysGifts 141 = .ok (.iastore, 1) := by decide +kernel
theorem dX11_laysGifts_142 : decode cX11_laysGifts 142 = .ok (.iinc 2 1, 3) := by decide +kernel
theorem dX11_laysGifts_145 : decode cX11_laysGifts 145 = .ok (.goto (-93), 3) := by decide +kernel
theorem dX11_laysGifts_148 : decode cX11_laysGifts 148 = .ok (.iinc 1 (-1), 3) := by decide +kernel
theorem dX11_laysGifts_151 : decode cX11_laysGifts 151 = .ok (.goto (-105), 3) := by decide +kernel
theorem dX11_laysGifts_154 : decode cX11_laysGifts 154 = .ok (.aload_n 0, 1) := by decide +kernel
theorem dX11_laysGifts_155 : decode cX11_laysGifts 155 = .ok (.iconst 0, 1) := by decide +kernel
theorem dX11_laysGifts_156 : decode cX11_laysGifts 156 = .ok (.iconst 0, 1) := by decide +kernel
theorem dX11_laysGifts_157 : decode cX11_laysGifts 157 = .ok (.invokevirtual 340, 3) := by decide +kernel
theorem dX11_laysGifts_160 : decode cX11_laysGifts 160 = .ok (.ireturn, 1) := by decide +kernel
theorem dX11_most_0 : decode cX11_most 0 = .ok (.aload_n 0, 1) := by decide +kernel
theorem dX11_most_1 : decode cX11_most 1 = .ok (.aload_n 0, 1) := by decide +kernel
theorem dX11_most_2 : decode cX11_most 2 = .ok (.invokevirtual 346, 3) := by decide +kernel
theorem dX11_most_5 : decode cX11_most 5 = .ok (.invokevirtual 199, 3) := by decide +kernel
theorem dX11_most_8 : decode cX11_most 8 = .ok (.ireturn, 1) := by decide +kernel
theorem dX11_gift_0 : decode cX11_gift 0 = .ok (.aload_n 0, 1) := by decide +kernel
theorem dX11_gift_1 : decode cX11_gift 1 = .ok (.iload_n 1, 1) := by decide +kernel
theorem dX11_gift_2 : decode cX11_gift 2 = .ok (.invokevirtual 244, 3) := by decide +kernel
theorem dX11_gift_5 : decode cX11_gift 5 = .ok (.ifCond .ne 9, 3) := by decide +kernel
theorem dX11_gift_8 : decode cX11_gift 8 = .ok (.aload_n 0, 1) := by decide +kernel
theorem dX11_gift_9 : decode cX11_gift 9 = .ok (.iconst 2, 1) := by decide +kernel
theorem dX11_gift_10 : decode cX11_gift 10 = .ok (.invokevirtual 186, 3) := by decide +kernel
theorem dX11_gift_13 : decode cX11_gift 13 = .ok (.ireturn, 1) := by decide +kernel
theorem dX11_gift_14 : decode cX11_gift 14 = .ok (.aload_n 0, 1) := by decide +kernel
theorem dX11_gift_15 : decode cX11_gift 15 = .ok (.invokevirtual 346, 3) := by decide +kernel
theorem dX11_gift_18 : decode cX11_gift 18 = .ok (.pop, 1) := by decide +kernel
theorem dX11_gift_19 : decode cX11_gift 19 = .ok (.iconst 0, 1) := by decide +kernel
theorem dX11_gift_20 : decode cX11_gift 20 = .ok (.istore_n 2, 1) := by decide +kernel
theorem dX11_gift_21 : decode cX11_gift 21 = .ok (.iconst (-1), 1) := by decide +kernel
theorem dX11_gift_22 : decode cX11_gift 22 = .ok (.istore_n 3, 1) := by decide +kernel
theorem dX11_gift_23 : decode cX11_gift 23 = .ok (.iconst 0, 1) := by decide +kernel
theorem dX11_gift_24 : decode cX11_gift 24 = .ok (.istore 4, 2) := by decide +kernel
theorem dX11_gift_26 : decode cX11_gift 26 = .ok (.iload 4, 2) := by decide +kernel
theorem dX11_gift_28 : decode cX11_gift 28 = .ok (.iload_n 1, 1) := by decide +kernel
theorem dX11_gift_29 : decode cX11_gift 29 = .ok (.if_icmp .gt 102, 3) := by decide +kernel
theorem dX11_gift_32 : decode cX11_gift 32 = .ok (.iconst (-1), 1) := by decide +kernel
theorem dX11_gift_33 : decode cX11_gift 33 = .ok (.istore_n 3, 1) := by decide +kernel
theorem dX11_gift_34 : decode cX11_gift 34 = .ok (.iconst 0, 1) := by decide +kernel
theorem dX11_gift_35 : decode cX11_gift 35 = .ok (.istore 5, 2) := by decide +kernel
theorem dX11_gift_37 : decode cX11_gift 37 = .ok (.iload 5, 2) := by decide +kernel
theorem dX11_gift_39 : decode cX11_gift 39 = .ok (.aload_n 0, 1) := by decide +kernel
theorem dX11_gift_40 : decode cX11_gift 40 = .ok (.getfield 7, 3) := by decide +kernel
theorem dX11_gift_43 : decode cX11_gift 43 = .ok (.sipush 230, 3) := by decide +kernel
theorem dX11_gift_46 : decode cX11_gift 46 = .ok (.iaload, 1) := by decide +kernel
theorem dX11_gift_47 : decode cX11_gift 47 = .ok (.if_icmp .ge 63, 3) := by decide +kernel
theorem dX11_gift_50 : decode cX11_gift 50 = .ok (.iload_n 3, 1) := by decide +kernel
theorem dX11_gift_51 : decode cX11_gift 51 = .ok (.iconst (-1), 1) := by decide +kernel
theorem dX11_gift_52 : decode cX11_gift 52 = .ok (.if_icmp .ne 58, 3) := by decide +kernel
theorem dX11_gift_55 : decode cX11_gift 55 = .ok (.iload_n 2, 1) := by decide +kernel
theorem dX11_gift_56 : decode cX11_gift 56 = .ok (.iload 5, 2) := by decide +kernel
theorem dX11_gift_58 : decode cX11_gift 58 = .ok (.ishr, 1) := by decide +kernel
theorem dX11_gift_59 : decode cX11_gift 59 = .ok (.iconst 1, 1) := by decide +kernel
theorem dX11_gift_60 : decode cX11_gift 60 = .ok (.iand, 1) := by decide +kernel
theorem dX11_gift_61 : decode cX11_gift 61 = .ok (.ifCond .ne 43, 3) := by decide +kernel
theorem dX11_gift_64 : decode cX11_gift 64 = .ok (.aload_n 0, 1) := by decide +kernel
theorem dX11_gift_65 : decode cX11_gift 65 = .ok (.iload 4, 2) := by decide +kernel
theorem dX11_gift_67 : decode cX11_gift 67 = .ok (.iload 5, 2) := by decide +kernel
theorem dX11_gift_69 : decode cX11_gift 69 = .ok (.invokevirtual 343, 3) := by decide +kernel
theorem dX11_gift_72 : decode cX11_gift 72 = .ok (.ifCond .eq 32, 3) := by decide +kernel
theorem dX11_gift_75 : decode cX11_gift 75 = .ok (.iconst 1, 1) := by decide +kernel
theorem dX11_gift_76 : decode cX11_gift 76 = .ok (.aload_n 0, 1) := by decide +kernel
theorem dX11_gift_77 : decode cX11_gift 77 = .ok (.iload 4, 2) := by decide +kernel
theorem dX11_gift_79 : decode cX11_gift 79 = .ok (.iconst 1, 1) := by decide +kernel
theorem dX11_gift_80 : decode cX11_gift 80 = .ok (.iadd, 1) := by decide +kernel
theorem dX11_gift_81 : decode cX11_gift 81 = .ok (.iload_n 2, 1) := by decide +kernel
theorem dX11_gift_82 : decode cX11_gift 82 = .ok (.iconst 1, 1) := by decide +kernel
theorem dX11_gift_83 : decode cX11_gift 83 = .ok (.iload 5, 2) := by decide +kernel
theorem dX11_gift_85 : decode cX11_gift 85 = .ok (.ishl, 1) := by decide +kernel
theorem dX11_gift_86 : decode cX11_gift 86 = .ok (.ior, 1) := by decide +kernel
theorem dX11_gift_87 : decode cX11_gift 87 = .ok (.invokevirtual 340, 3) := by decide +kernel
theorem dX11_gift_90 : decode cX11_gift 90 = .ok (.iadd, 1) := by decide +kernel
theorem dX11_gift_91 : decode cX11_gift 91 = .ok (.aload_n 0, 1) := by decide +kernel
theorem dX11_gift_92 : decode cX11_gift 92 = .ok (.iload 4, 2) := by decide +kernel
theorem dX11_gift_94 : decode cX11_gift 94 = .ok (.iload_n 2, 1) := by decide +kernel
theorem dX11_gift_95 : decode cX11_gift 95 = .ok (.invokevirtual 340, 3) := by decide +kernel
theorem dX11_gift_98 : decode cX11_gift 98 = .ok (.if_icmp .ne 6, 3) := by decide +kernel
theorem dX11_gift_101 : decode cX11_gift 101 = .ok (.iload 5, 2) := by decide +kernel
theorem dX11_gift_103 : decode cX11_gift 103 = .ok (.istore_n 3, 1) := by decide +kernel
theorem dX11_gift_104 : decode cX11_gift 104 = .ok (.iinc 5 1, 3) := by decide +kernel
theorem dX11_gift_107 : decode cX11_gift 107 = .ok (.goto (-70), 3) := by decide +kernel
theorem dX11_gift_110 : decode cX11_gift 110 = .ok (.iload_n 2, 1) := by decide +kernel
theorem dX11_gift_111 : decode cX11_gift 111 = .ok (.iload_n 3, 1) := by decide +kernel
theorem dX11_gift_112 : decode cX11_gift 112 = .ok (.iconst (-1), 1) := by decide +kernel
theorem dX11_gift_113 : decode cX11_gift 113 = .ok (.if_icmp .ne 7, 3) := by decide +kernel
theorem dX11_gift_116 : decode cX11_gift 116 = .ok (.iconst 0, 1) := by decide +kernel
theorem dX11_gift_117 : decode cX11_gift 117 = .ok (.goto 6, 3) := by decide +kernel
theorem dX11_gift_120 : decode cX11_gift 120 = .ok (.iconst 1, 1) := by decide +kernel
theorem dX11_gift_121 : decode cX11_gift 121 = .ok (.iload_n 3, 1) := by decide +kernel
theorem dX11_gift_122 : decode cX11_gift 122 = .ok (.ishl, 1) := by decide +kernel
theorem dX11_gift_123 : decode cX11_gift 123 = .ok (.ior, 1) := by decide +kernel
theorem dX11_gift_124 : decode cX11_gift 124 = .ok (.istore_n 2, 1) := by decide +kernel
theorem dX11_gift_125 : decode cX11_gift 125 = .ok (.iinc 4 1, 3) := by decide +kernel
theorem dX11_gift_128 : decode cX11_gift 128 = .ok (.goto (-102), 3) := by decide +kernel
theorem dX11_gift_131 : decode cX11_gift 131 = .ok (.iload_n 3, 1) := by decide +kernel
theorem dX11_gift_132 : decode cX11_gift 132 = .ok (.iconst (-1), 1) := by decide +kernel
theorem dX11_gift_133 : decode cX11_gift 133 = .ok (.if_icmp .ne 11, 3) := by decide +kernel
theorem dX11_gift_136 : decode cX11_gift 136 = .ok (.aload_n 0, 1) := by decide +kernel
theorem dX11_gift_137 : decode cX11_gift 137 = .ok (.iconst 5, 1) := by decide +kernel
theorem dX11_gift_138 : decode cX11_gift 138 = .ok (.invokevirtual 186, 3) := by decide +kernel
theorem dX11_gift_141 : decode cX11_gift 141 = .ok (.goto 8, 3) := by decide +kernel
theorem dX11_gift_144 : decode cX11_gift 144 = .ok (.aload_n 0, 1) := by decide +kernel
theorem dX11_gift_145 : decode cX11_gift 145 = .ok (.iload_n 3, 1) := by decide +kernel
theorem dX11_gift_146 : decode cX11_gift 146 = .ok (.invokevirtual 199, 3) := by decide +kernel
theorem dX11_gift_149 : decode cX11_gift 149 = .ok (.ireturn, 1) := by decide +kernel
theorem dX11_allThatCould_0 : decode cX11_allThatCould 0 = .ok (.iconst 0, 1) := by decide +kernel
theorem dX11_allThatCould_1 : decode cX11_allThatCould 1 = .ok (.istore_n 2, 1) := by decide +kernel
theorem dX11_allThatCould_2 : decode cX11_allThatCould 2 = .ok (.iconst 0, 1) := by decide +kernel
theorem dX11_allThatCould_3 : decode cX11_allThatCould 3 = .ok (.istore_n 3, 1) := by decide +kernel
theorem dX11_allThatCould_4 : decode cX11_allThatCould 4 = .ok (.iload_n 3, 1) := by decide +kernel
theorem dX11_allThatCould_5 : decode cX11_allThatCould 5 = .ok (.aload_n 0, 1) := by decide +kernel
theorem dX11_allThatCould_6 : decode cX11_allThatCould 6 = .ok (.getfield 7, 3) := by decide +kernel
theorem dX11_allThatCould_9 : decode cX11_allThatCould 9 = .ok (.sipush 231, 3) := by decide +kernel
theorem dX11_allThatCould_12 : decode cX11_allThatCould 12 = .ok (.iaload, 1) := by decide +kernel
theorem dX11_allThatCould_13 : decode cX11_allThatCould 13 = .ok (.if_icmp .ge 28, 3) := by decide +kernel
theorem dX11_allThatCould_16 : decode cX11_allThatCould 16 = .ok (.iload_n 2, 1) := by decide +kernel
theorem dX11_allThatCould_17 : decode cX11_allThatCould 17 = .ok (.aload_n 0, 1) := by decide +kernel
theorem dX11_allThatCould_18 : decode cX11_allThatCould 18 = .ok (.iload_n 3, 1) := by decide +kernel
theorem dX11_allThatCould_19 : decode cX11_allThatCould 19 = .ok (.iload_n 1, 1) := by decide +kernel
theorem dX11_allThatCould_20 : decode cX11_allThatCould 20 = .ok (.invokevirtual 337, 3) := by decide +kernel
theorem dX11_allThatCould_23 : decode cX11_allThatCould 23 = .ok (.ifCond .eq 9, 3) := by decide +kernel
theorem dX11_allThatCould_26 : decode cX11_allThatCould 26 = .ok (.iconst 1, 1) := by decide +kernel
theorem dX11_allThatCould_27 : decode cX11_allThatCould 27 = .ok (.iload_n 3, 1) := by decide +kernel
theorem dX11_allThatCould_28 : decode cX11_allThatCould 28 = .ok (.ishl, 1) := by decide +kernel
theorem dX11_allThatCould_29 : decode cX11_allThatCould 29 = .ok (.goto 4, 3) := by decide +kernel
theorem dX11_allThatCould_32 : decode cX11_allThatCould 32 = .ok (.iconst 0, 1) := by decide +kernel
theorem dX11_allThatCould_33 : decode cX11_allThatCould 33 = .ok (.ior, 1) := by decide +kernel
theorem dX11_allThatCould_34 : decode cX11_allThatCould 34 = .ok (.istore_n 2, 1) := by decide +kernel
theorem dX11_allThatCould_35 : decode cX11_allThatCould 35 = .ok (.iinc 3 1, 3) := by decide +kernel
theorem dX11_allThatCould_38 : decode cX11_allThatCould 38 = .ok (.goto (-34), 3) := by decide +kernel
theorem dX11_allThatCould_41 : decode cX11_allThatCould 41 = .ok (.iload_n 2, 1) := by decide +kernel
theorem dX11_allThatCould_42 : decode cX11_allThatCould 42 = .ok (.ireturn, 1) := by decide +kernel
theorem dX11_top_0 : decode cX11_top 0 = .ok (.aload_n 0, 1) := by decide +kernel
theorem dX11_top_1 : decode cX11_top 1 = .ok (.iload_n 1, 1) := by decide +kernel
theorem dX11_top_2 : decode cX11_top 2 = .ok (.invokevirtual 238, 3) := by decide +kernel
theorem dX11_top_5 : decode cX11_top 5 = .ok (.ifCond .ne 9, 3) := by decide +kernel
theorem dX11_top_8 : decode cX11_top 8 = .ok (.aload_n 0, 1) := by decide +kernel
theorem dX11_top_9 : decode cX11_top 9 = .ok (.iconst 2, 1) := by decide +kernel
theorem dX11_top_10 : decode cX11_top 10 = .ok (.invokevirtual 186, 3) := by decide +kernel
theorem dX11_top_13 : decode cX11_top 13 = .ok (.ireturn, 1) := by decide +kernel
theorem dX11_top_14 : decode cX11_top 14 = .ok (.aload_n 0, 1) := by decide +kernel
theorem dX11_top_15 : decode cX11_top 15 = .ok (.aload_n 0, 1) := by decide +kernel
theorem dX11_top_16 : decode cX11_top 16 = .ok (.iload_n 1, 1) := by decide +kernel
theorem dX11_top_17 : decode cX11_top 17 = .ok (.invokevirtual 349, 3) := by decide +kernel
theorem dX11_top_20 : decode cX11_top 20 = .ok (.iload_n 1, 1) := by decide +kernel
theorem dX11_top_21 : decode cX11_top 21 = .ok (.invokevirtual 280, 3) := by decide +kernel
theorem dX11_top_24 : decode cX11_top 24 = .ok (.istore_n 2, 1) := by decide +kernel
theorem dX11_top_25 : decode cX11_top 25 = .ok (.iload_n 2, 1) := by decide +kernel
theorem dX11_top_26 : decode cX11_top 26 = .ok (.iconst (-1), 1) := by decide +kernel
theorem dX11_top_27 : decode cX11_top 27 = .ok (.if_icmp .ne 11, 3) := by decide +kernel
theorem dX11_top_30 : decode cX11_top 30 = .ok (.aload_n 0, 1) := by decide +kernel
theorem dX11_top_31 : decode cX11_top 31 = .ok (.iconst 5, 1) := by decide +kernel
theorem dX11_top_32 : decode cX11_top 32 = .ok (.invokevirtual 186, 3) := by decide +kernel
theorem dX11_top_35 : decode cX11_top 35 = .ok (.goto 8, 3) := by decide +kernel
theorem dX11_top_38 : decode cX11_top 38 = .ok (.aload_n 0, 1) := by decide +kernel
theorem dX11_top_39 : decode cX11_top 39 = .ok (.iload_n 2, 1) := by decide +kernel
theorem dX11_top_40 : decode cX11_top 40 = .ok (.invokevirtual 199, 3) := by decide +kernel
theorem dX11_top_43 : decode cX11_top 43 = .ok (.ireturn, 1) := by decide +kernel
theorem dX11_weeksWaited_0 : decode cX11_weeksWaited 0 = .ok (.iconst 1, 1) := by decide +kernel
theorem dX11_weeksWaited_1 : decode cX11_weeksWaited 1 = .ok (.sipush 1000, 3) := by decide +kernel
theorem dX11_weeksWaited_4 : decode cX11_weeksWaited 4 = .ok (.bipush 7, 2) := by decide +kernel
theorem dX11_weeksWaited_6 : decode cX11_weeksWaited 6 = .ok (.aload_n 0, 1) := by decide +kernel
theorem dX11_weeksWaited_7 : decode cX11_weeksWaited 7 = .ok (.getfield 7, 3) := by decide +kernel
theorem dX11_weeksWaited_10 : decode cX11_weeksWaited 10 = .ok (.sipush 232, 3) := by decide +kernel
theorem dX11_weeksWaited_13 : decode cX11_weeksWaited 13 = .ok (.iaload, 1) := by decide +kernel
theorem dX11_weeksWaited_14 : decode cX11_weeksWaited 14 = .ok (.imul, 1) := by decide +kernel
theorem dX11_weeksWaited_15 : decode cX11_weeksWaited 15 = .ok (.iadd, 1) := by decide +kernel
theorem dX11_weeksWaited_16 : decode cX11_weeksWaited 16 = .ok (.aload_n 0, 1) := by decide +kernel
theorem dX11_weeksWaited_17 : decode cX11_weeksWaited 17 = .ok (.iload_n 1, 1) := by decide +kernel
theorem dX11_weeksWaited_18 : decode cX11_weeksWaited 18 = .ok (.iconst 3, 1) := by decide +kernel
theorem dX11_weeksWaited_19 : decode cX11_weeksWaited 19 = .ok (.invokevirtual 205, 3) := by decide +kernel
theorem dX11_weeksWaited_22 : decode cX11_weeksWaited 22 = .ok (.isub, 1) := by decide +kernel
theorem dX11_weeksWaited_23 : decode cX11_weeksWaited 23 = .ok (.bipush 7, 2) := by decide +kernel
theorem dX11_weeksWaited_25 : decode cX11_weeksWaited 25 = .ok (.idiv, 1) := by decide +kernel
theorem dX11_weeksWaited_26 : decode cX11_weeksWaited 26 = .ok (.invokestatic 211, 3) := by decide +kernel
theorem dX11_weeksWaited_29 : decode cX11_weeksWaited 29 = .ok (.ireturn, 1) := by decide +kernel
theorem dX11_lot_0 : decode cX11_lot 0 = .ok (.iload_n 2, 1) := by decide +kernel
theorem dX11_lot_1 : decode cX11_lot 1 = .ok (.iconst 0, 1) := by decide +kernel
theorem dX11_lot_2 : decode cX11_lot 2 = .ok (.ldc_w 352, 3) := by decide +kernel
theorem dX11_lot_5 : decode cX11_lot 5 = .ok (.invokestatic 71, 3) := by decide +kernel
theorem dX11_lot_8 : decode cX11_lot 8 = .ok (.ifCond .ne 9, 3) := by decide +kernel
theorem dX11_lot_11 : decode cX11_lot 11 = .ok (.aload_n 0, 1) := by decide +kernel
theorem dX11_lot_12 : decode cX11_lot 12 = .ok (.iconst 1, 1) := by decide +kernel
theorem dX11_lot_13 : decode cX11_lot 13 = .ok (.invokevirtual 186, 3) := by decide +kernel
theorem dX11_lot_16 : decode cX11_lot 16 = .ok (.ireturn, 1) := by decide +kernel
theorem dX11_lot_17 : decode cX11_lot 17 = .ok (.aload_n 0, 1) := by decide +kernel
theorem dX11_lot_18 : decode cX11_lot 18 = .ok (.iload_n 1, 1) := by decide +kernel
theorem dX11_lot_19 : decode cX11_lot 19 = .ok (.invokevirtual 238, 3) := by decide +kernel
theorem dX11_lot_22 : decode cX11_lot 22 = .ok (.ifCond .ne 9, 3) := by decide +kernel
theorem dX11_lot_25 : decode cX11_lot 25 = .ok (.aload_n 0, 1) := by decide +kernel
theorem dX11_lot_26 : decode cX11_lot 26 = .ok (.iconst 2, 1) := by decide +kernel
theorem dX11_lot_27 : decode cX11_lot 27 = .ok (.invokevirtual 186, 3) := by decide +kernel
theorem dX11_lot_30 : decode cX11_lot 30 = .ok (.ireturn, 1) := by decide +kernel
theorem dX11_lot_31 : decode cX11_lot 31 = .ok (.aload_n 0, 1) := by decide +kernel
theorem dX11_lot_32 : decode cX11_lot 32 = .ok (.iload_n 1, 1) := by decide +kernel
theorem dX11_lot_33 : decode cX11_lot 33 = .ok (.invokevirtual 349, 3) := by decide +kernel
theorem dX11_lot_36 : decode cX11_lot 36 = .ok (.istore_n 3, 1) := by decide +kernel
theorem dX11_lot_37 : decode cX11_lot 37 = .ok (.iconst 0, 1) := by decide +kernel
theorem dX11_lot_38 : decode cX11_lot 38 = .ok (.istore 4, 2) := by decide +kernel
theorem dX11_lot_40 : decode cX11_lot 40 = .ok (.iconst 0, 1) := by decide +kernel
theorem dX11_lot_41 : decode cX11_lot 41 = .ok (.istore 5, 2) := by decide +kernel
theorem dX11_lot_43 : decode cX11_lot 43 = .ok (.iload 5, 2) := by decide +kernel
theorem dX11_lot_45 : decode cX11_lot 45 = .ok (.aload_n 0, 1) := by decide +kernel
theorem dX11_lot_46 : decode cX11_lot 46 = .ok (.getfield 7, 3) := by decide +kernel
theorem dX11_lot_49 : decode cX11_lot 49 = .ok (.sipush 231, 3) := by decide +kernel
theorem dX11_lot_52 : decode cX11_lot 52 = .ok (.iaload, 1) := by decide +kernel
theorem dX11_lot_53 : decode cX11_lot 53 = .ok (.if_icmp .ge 34, 3) := by decide +kernel
theorem dX11_lot_56 : decode cX11_lot 56 = .ok (.iload 4, 2) := by decide +kernel
theorem dX11_lot_58 : decode cX11_lot 58 = .ok (.iload_n 3, 1) := by decide +kernel
theorem dX11_lot_59 : decode cX11_lot 59 = .ok (.iload 5, 2) := by decide +kernel
theorem dX11_lot_61 : decode cX11_lot 61 = .ok (.ishr, 1) := by decide +kernel
theorem dX11_lot_62 : decode cX11_lot 62 = .ok (.iconst 1, 1) := by decide +kernel
theorem dX11_lot_63 : decode cX11_lot 63 = .ok (.iand, 1) := by decide +kernel
theorem dX11_lot_64 : decode cX11_lot 64 = .ok (.iconst 1, 1) := by decide +kernel
theorem dX11_lot_65 : decode cX11_lot 65 = .ok (.if_icmp .ne 12, 3) := by decide +kernel
theorem dX11_lot_68 : decode cX11_lot 68 = .ok (.aload_n 0, 1) := by decide +kernel
theorem dX11_lot_69 : decode cX11_lot 69 = .ok (.iload 5, 2) := by decide +kernel
theorem dX11_lot_71 : decode cX11_lot 71 = .ok (.invokevirtual 353, 3) := by decide +kernel
theorem dX11_lot_74 : decode cX11_lot 74 = .ok (.goto 4, 3) := by decide +kernel
theorem dX11_lot_77 : decode cX11_lot 77 = .ok (.iconst 0, 1) := by decide +kernel
theorem dX11_lot_78 : decode cX11_lot 78 = .ok (.iadd, 1) := by decide +kernel
theorem dX11_lot_79 : decode cX11_lot 79 = .ok (.istore 4, 2) := by decide +kernel
theorem dX11_lot_81 : decode cX11_lot 81 = .ok (.iinc 5 1, 3) := by decide +kernel
theorem dX11_lot_84 : decode cX11_lot 84 = .ok (.goto (-41), 3) := by decide +kernel
theorem dX11_lot_87 : decode cX11_lot 87 = .ok (.iload 4, 2) := by decide +kernel
theorem dX11_lot_89 : decode cX11_lot 89 = .ok (.ifCond .ne 9, 3) := by decide +kernel
theorem dX11_lot_92 : decode cX11_lot 92 = .ok (.aload_n 0, 1) := by decide +kernel
theorem dX11_lot_93 : decode cX11_lot 93 = .ok (.iconst 5, 1) := by decide +kernel
theorem dX11_lot_94 : decode cX11_lot 94 = .ok (.invokevirtual 186, 3) := by decide +kernel
theorem dX11_lot_97 : decode cX11_lot 97 = .ok (.ireturn, 1) := by decide +kernel
theorem dX11_lot_98 : decode cX11_lot 98 = .ok (.bipush 75, 2) := by decide +kernel
theorem dX11_lot_100 : decode cX11_lot 100 = .ok (.iload_n 2, 1) := by decide +kernel
theorem dX11_lot_101 : decode cX11_lot 101 = .ok (.imul, 1) := by decide +kernel
theorem dX11_lot_102 : decode cX11_lot 102 = .ok (.bipush 74, 2) := by decide +kernel
theorem dX11_lot_104 : decode cX11_lot 104 = .ok (.iadd, 1) := by decide +kernel
theorem dX11_lot_105 : decode cX11_lot 105 = .ok (.ldc_w 356, 3) := by decide +kernel
theorem dX11_lot_108 : decode cX11_lot 108 = .ok (.irem, 1) := by decide +kernel
theorem dX11_lot_109 : decode cX11_lot 109 = .ok (.iload 4, 2) := by decide +kernel
theorem dX11_lot_111 : decode cX11_lot 111 = .ok (.irem, 1) := by decide +kernel
theorem dX11_lot_112 : decode cX11_lot 112 = .ok (.istore 5, 2) := by decide +kernel
theorem dX11_lot_114 : decode cX11_lot 114 = .ok (.iconst (-1), 1) := by decide +kernel
theorem dX11_lot_115 : decode cX11_lot 115 = .ok (.istore 6, 2) := by decide +kernel
theorem dX11_lot_117 : decode cX11_lot 117 = .ok (.iload 5, 2) := by decide +kernel
theorem dX11_lot_119 : decode cX11_lot 119 = .ok (.ifCond .lt 34, 3) := by decide +kernel
theorem dX11_lot_122 : decode cX11_lot 122 = .ok (.iinc 6 1, 3) := by decide +kernel
theorem dX11_lot_125 : decode cX11_lot 125 = .ok (.iload 5, 2) := by decide +kernel
theorem dX11_lot_127 : decode cX11_lot 127 = .ok (.iload_n 3, 1) := by decide +kernel
theorem dX11_lot_128 : decode cX11_lot 128 = .ok (.iload 6, 2) := by decide +kernel
theorem dX11_lot_130 : decode cX11_lot 130 = .ok (.ishr, 1) := by decide +kernel
theorem dX11_lot_131 : decode cX11_lot 131 = .ok (.iconst 1, 1) := by decide +kernel
theorem dX11_lot_132 : decode cX11_lot 132 = .ok (.iand, 1) := by decide +kernel
theorem dX11_lot_133 : decode cX11_lot 133 = .ok (.iconst 1, 1) := by decide +kernel
theorem dX11_lot_134 : decode cX11_lot 134 = .ok (.if_icmp .ne 12, 3) := by decide +kernel
theorem dX11_lot_137 : decode cX11_lot 137 = .ok (.aload_n 0, 1) := by decide +kernel
theorem dX11_lot_138 : decode cX11_lot 138 = .ok (.iload 6, 2) := by decide +kernel
theorem dX11_lot_140 : decode cX11_lot 140 = .ok (.invokevirtual 353, 3) := by decide +kernel
theorem dX11_lot_143 : decode cX11_lot 143 = .ok (.goto 4, 3) := by decide +kernel
theorem dX11_lot_146 : decode cX11_lot 146 = .ok (.iconst 0, 1) := by decide +kernel
theorem dX11_lot_147 : decode cX11_lot 147 = .ok (.isub, 1) := by decide +kernel
theorem dX11_lot_148 : decode cX11_lot 148 = .ok (.istore 5, 2) := by decide +kernel
theorem dX11_lot_150 : decode cX11_lot 150 = .ok (.goto (-33), 3) := by decide +kernel
theorem dX11_lot_153 : decode cX11_lot 153 = .ok (.aload_n 0, 1) := by decide +kernel
theorem dX11_lot_154 : decode cX11_lot 154 = .ok (.iload 6, 2) := by decide +kernel
theorem dX11_lot_156 : decode cX11_lot 156 = .ok (.invokevirtual 199, 3) := by decide +kernel
theorem dX11_lot_159 : decode cX11_lot 159 = .ok (.ireturn, 1) := by decide +kernel
theorem dX11_fits_0 : decode cX11_fits 0 = .ok (.iload_n 2, 1) := by decide +kernel
theorem dX11_fits_1 : decode cX11_fits 1 = .ok (.iconst 0, 1) := by decide +kernel
theorem dX11_fits_2 : decode cX11_fits 2 = .ok (.iconst 2, 1) := by decide +kernel
theorem dX11_fits_3 : decode cX11_fits 3 = .ok (.invokestatic 71, 3) := by decide +kernel
theorem dX11_fits_6 : decode cX11_fits 6 = .ok (.ifCond .ne 9, 3) := by decide +kernel
theorem dX11_fits_9 : decode cX11_fits 9 = .ok (.aload_n 0, 1) := by decide +kernel
theorem dX11_fits_10 : decode cX11_fits 10 = .ok (.iconst 1, 1) := by decide +kernel
theorem dX11_fits_11 : decode cX11_fits 11 = .ok (.invokevirtual 186, 3) := by decide +kernel
theorem dX11_fits_14 : decode cX11_fits 14 = .ok (.ireturn, 1) := by decide +kernel
theorem dX11_fits_15 : decode cX11_fits 15 = .ok (.aload_n 0, 1) := by decide +kernel
theorem dX11_fits_16 : decode cX11_fits 16 = .ok (.iload_n 1, 1) := by decide +kernel
theorem dX11_fits_17 : decode cX11_fits 17 = .ok (.invokevirtual 244, 3) := by decide +kernel
theorem dX11_fits_20 : decode cX11_fits 20 = .ok (.ifCond .ne 9, 3) := by decide +kernel
theorem dX11_fits_23 : decode cX11_fits 23 = .ok (.aload_n 0, 1) := by decide +kernel
theorem dX11_fits_24 : decode cX11_fits 24 = .ok (.iconst 2, 1) := by decide +kernel
theorem dX11_fits_25 : decode cX11_fits 25 = .ok (.invokevirtual 186, 3) := by decide +kernel
theorem dX11_fits_28 : decode cX11_fits 28 = .ok (.ireturn, 1) := by decide +kernel
theorem dX11_fits_29 : decode cX11_fits 29 = .ok (.iconst 0, 1) := by decide +kernel
theorem dX11_fits_30 : decode cX11_fits 30 = .ok (.istore_n 3, 1) := by decide +kernel
theorem dX11_fits_31 : decode cX11_fits 31 = .ok (.iconst 0, 1) := by decide +kernel
theorem dX11_fits_32 : decode cX11_fits 32 = .ok (.istore 4, 2) := by decide +kernel
theorem dX11_fits_34 : decode cX11_fits 34 = .ok (.iload 4, 2) := by decide +kernel
theorem dX11_fits_36 : decode cX11_fits 36 = .ok (.aload_n 0, 1) := by decide +kernel
theorem dX11_fits_37 : decode cX11_fits 37 = .ok (.getfield 7, 3) := by decide +kernel
theorem dX11_fits_40 : decode cX11_fits 40 = .ok (.sipush 230, 3) := by decide +kernel
theorem dX11_fits_43 : decode cX11_fits 43 = .ok (.iaload, 1) := by decide +kernel
theorem dX11_fits_44 : decode cX11_fits 44 = .ok (.if_icmp .ge 61, 3) := by decide +kernel
theorem dX11_fits_47 : decode cX11_fits 47 = .ok (.iload_n 3, 1) := by decide +kernel
theorem dX11_fits_48 : decode cX11_fits 48 = .ok (.aload_n 0, 1) := by decide +kernel
theorem dX11_fits_49 : decode cX11_fits 49 = .ok (.iload_n 1, 1) := by decide +kernel
theorem dX11_fits_50 : decode cX11_fits 50 = .ok (.iload 4, 2) := by decide +kernel
theorem dX11_fits_52 : decode cX11_fits 52 = .ok (.invokevirtual 250, 3) := by decide +kernel
theorem dX11_fits_55 : decode cX11_fits 55 = .ok (.ifCond .eq 41, 3) := by decide +kernel
theorem dX11_fits_58 : decode cX11_fits 58 = .ok (.iload_n 2, 1) := by decide +kernel
theorem dX11_fits_59 : decode cX11_fits 59 = .ok (.ifCond .eq 30, 3) := by decide +kernel
theorem dX11_fits_62 : decode cX11_fits 62 = .ok (.iload_n 2, 1) := by decide +kernel
theorem dX11_fits_63 : decode cX11_fits 63 = .ok (.iconst 1, 1) := by decide +kernel
theorem dX11_fits_64 : decode cX11_fits 64 = .ok (.if_icmp .ne 15, 3) := by decide +kernel
theorem dX11_fits_67 : decode cX11_fits 67 = .ok (.aload_n 0, 1) := by decide +kernel
theorem dX11_fits_68 : decode cX11_fits 68 = .ok (.iload 4, 2) := by decide +kernel
theorem dX11_fits_70 : decode cX11_fits 70 = .ok (.invokevirtual 219, 3) := by decide +kernel
theorem dX11_fits_73 : decode cX11_fits 73 = .ok (.ifCond .eq 23, 3) := by decide +kernel
theorem dX11_fits_76 : decode cX11_fits 76 = .ok (.goto 13, 3) := by decide +kernel
theorem dX11_fits_79 : decode cX11_fits 79 = .ok (.aload_n 0, 1) := by decide +kernel
theorem dX11_fits_80 : decode cX11_fits 80 = .ok (.iload_n 1, 1) := by decide +kernel
theorem dX11_fits_81 : decode cX11_fits 81 = .ok (.iload 4, 2) := by decide +kernel
theorem dX11_fits_83 : decode cX11_fits 83 = .ok (.invokevirtual 300, 3) := by decide +kernel
theorem dX11_fits_86 : decode cX11_fits 86 = .ok (.ifCond .eq 10, 3) := by decide +kernel
theorem dX11_fits_89 : decode cX11_fits 89 = .ok (.iconst 1, 1) := by decide +kernel
theorem dX11_fits_90 : decode cX11_fits 90 = .ok (.iload 4, 2) := by decide +kernel
theorem dX11_fits_92 : decode cX11_fits 92 = .ok (.ishl, 1) := by decide +kernel
theorem dX11_fits_93 : decode cX11_fits 93 = .ok (.goto 4, 3) := by decide +kernel
theorem dX11_fits_96 : decode cX11_fits 96 = .ok (.iconst 0, 1) := by decide +kernel
theorem dX11_fits_97 : decode cX11_fits 97 = .ok (.ior, 1) := by decide +kernel
theorem dX11_fits_98 : decode cX11_fits 98 = .ok (.istore_n 3, 1) := by decide +kernel
theorem dX11_fits_99 : decode cX11_fits 99 = .ok (.iinc 4 1, 3) := by decide +kernel
theorem dX11_fits_102 : decode cX11_fits 102 = .ok (.goto (-68), 3) := by decide +kernel
theorem dX11_fits_105 : decode cX11_fits 105 = .ok (.aload_n 0, 1) := by decide +kernel
theorem dX11_fits_106 : decode cX11_fits 106 = .ok (.iload_n 3, 1) := by decide +kernel
theorem dX11_fits_107 : decode cX11_fits 107 = .ok (.invokevirtual 199, 3) := by decide +kernel
theorem dX11_fits_110 : decode cX11_fits 110 = .ok (.ireturn, 1) := by decide +kernel
theorem dX11_lackOf_0 : decode cX11_lackOf 0 = .ok (.iconst 0, 1) := by decide +kernel
theorem dX11_lackOf_1 : decode cX11_lackOf 1 = .ok (.istore_n 2, 1) := by decide +kernel
theorem dX11_lackOf_2 : decode cX11_lackOf 2 = .ok (.iconst 0, 1) := by decide +kernel
theorem dX11_lackOf_3 : decode cX11_lackOf 3 = .ok (.istore_n 3, 1) := by decide +kernel
theorem dX11_lackOf_4 : decode cX11_lackOf 4 = .ok (.iload_n 3, 1) := by decide +kernel
theorem dX11_lackOf_5 : decode cX11_lackOf 5 = .ok (.aload_n 0, 1) := by decide +kernel
theorem dX11_lackOf_6 : decode cX11_lackOf 6 = .ok (.getfield 7, 3) := by decide +kernel
theorem dX11_lackOf_9 : decode cX11_lackOf 9 = .ok (.sipush 231, 3) := by decide +kernel
theorem dX11_lackOf_12 : decode cX11_lackOf 12 = .ok (.iaload, 1) := by decide +kernel
theorem dX11_lackOf_13 : decode cX11_lackOf 13 = .ok (.if_icmp .ge 35, 3) := by decide +kernel
theorem dX11_lackOf_16 : decode cX11_lackOf 16 = .ok (.iload_n 2, 1) := by decide +kernel
theorem dX11_lackOf_17 : decode cX11_lackOf 17 = .ok (.aload_n 0, 1) := by decide +kernel
theorem dX11_lackOf_18 : decode cX11_lackOf 18 = .ok (.iload_n 3, 1) := by decide +kernel
theorem dX11_lackOf_19 : decode cX11_lackOf 19 = .ok (.invokevirtual 208, 3) := by decide +kernel
theorem dX11_lackOf_22 : decode cX11_lackOf 22 = .ok (.ifCond .eq 17, 3) := by decide +kernel
theorem dX11_lackOf_25 : decode cX11_lackOf 25 = .ok (.aload_n 0, 1) := by decide +kernel
theorem dX11_lackOf_26 : decode cX11_lackOf 26 = .ok (.iload_n 3, 1) := by decide +kernel
theorem dX11_lackOf_27 : decode cX11_lackOf 27 = .ok (.iconst 2, 1) := by decide +kernel
theorem dX11_lackOf_28 : decode cX11_lackOf 28 = .ok (.invokevirtual 205, 3) := by decide +kernel
theorem dX11_lackOf_31 : decode cX11_lackOf 31 = .ok (.iload_n 1, 1) := by decide +kernel
theorem dX11_lackOf_32 : decode cX11_lackOf 32 = .ok (.if_icmp .ne 7, 3) := by decide +kernel
theorem dX11_lackOf_35 : decode cX11_lackOf 35 = .ok (.iconst 1, 1) := by decide +kernel
theorem dX11_lackOf_36 : decode cX11_lackOf 36 = .ok (.goto 4, 3) := by decide +kernel
theorem dX11_lackOf_39 : decode cX11_lackOf 39 = .ok (.iconst 0, 1) := by decide +kernel
theorem dX11_lackOf_40 : decode cX11_lackOf 40 = .ok (.iadd, 1) := by decide +kernel
theorem dX11_lackOf_41 : decode cX11_lackOf 41 = .ok (.istore_n 2, 1) := by decide +kernel
theorem dX11_lackOf_42 : decode cX11_lackOf 42 = .ok (.iinc 3 1, 3) := by decide +kernel
theorem dX11_lackOf_45 : decode cX11_lackOf 45 = .ok (.goto (-41), 3) := by decide +kernel
theorem dX11_lackOf_48 : decode cX11_lackOf 48 = .ok (.iconst 0, 1) := by decide +kernel
theorem dX11_lackOf_49 : decode cX11_lackOf 49 = .ok (.istore_n 3, 1) := by decide +kernel
theorem dX11_lackOf_50 : decode cX11_lackOf 50 = .ok (.iload_n 3, 1) := by decide +kernel
theorem dX11_lackOf_51 : decode cX11_lackOf 51 = .ok (.aload_n 0, 1) := by decide +kernel
theorem dX11_lackOf_52 : decode cX11_lackOf 52 = .ok (.getfield 7, 3) := by decide +kernel
theorem dX11_lackOf_55 : decode cX11_lackOf 55 = .ok (.sipush 230, 3) := by decide +kernel
theorem dX11_lackOf_58 : decode cX11_lackOf 58 = .ok (.iaload, 1) := by decide +kernel
theorem dX11_lackOf_59 : decode cX11_lackOf 59 = .ok (.if_icmp .ge 35, 3) := by decide +kernel
theorem dX11_lackOf_62 : decode cX11_lackOf 62 = .ok (.iload_n 2, 1) := by decide +kernel
theorem dX11_lackOf_63 : decode cX11_lackOf 63 = .ok (.aload_n 0, 1) := by decide +kernel
theorem dX11_lackOf_64 : decode cX11_lackOf 64 = .ok (.iload_n 3, 1) := by decide +kernel
theorem dX11_lackOf_65 : decode cX11_lackOf 65 = .ok (.invokevirtual 219, 3) := by decide +kernel
theorem dX11_lackOf_68 : decode cX11_lackOf 68 = .ok (.ifCond .eq 17, 3) := by decide +kernel
theorem dX11_lackOf_71 : decode cX11_lackOf 71 = .ok (.aload_n 0, 1) := by decide +kernel
theorem dX11_lackOf_72 : decode cX11_lackOf 72 = .ok (.iload_n 3, 1) := by decide +kernel
theorem dX11_lackOf_73 : decode cX11_lackOf 73 = .ok (.iconst 1, 1) := by decide +kernel
theorem dX11_lackOf_74 : decode cX11_lackOf 74 = .ok (.invokevirtual 202, 3) := by decide +kernel
theorem dX11_lackOf_77 : decode cX11_lackOf 77 = .ok (.iload_n 1, 1) := by decide +kernel
theorem dX11_lackOf_78 : decode cX11_lackOf 78 = .ok (.if_icmp .ne 7, 3) := by decide +kernel
theorem dX11_lackOf_81 : decode cX11_lackOf 81 = .ok (.iconst 1, 1) := by decide +kernel
theorem dX11_lackOf_82 : decode cX11_lackOf 82 = .ok (.goto 4, 3) := by decide +kernel
theorem dX11_lackOf_85 : decode cX11_lackOf 85 = .ok (.iconst 0, 1) := by decide +kernel
theorem dX11_lackOf_86 : decode cX11_lackOf 86 = .ok (.isub, 1) := by decide +kernel
theorem dX11_lackOf_87 : decode cX11_lackOf 87 = .ok (.istore_n 2, 1) := by decide +kernel
theorem dX11_lackOf_88 : decode cX11_lackOf 88 = .ok (.iinc 3 1, 3) := by decide +kernel
theorem dX11_lackOf_91 : decode cX11_lackOf 91 = .ok (.goto (-41), 3) := by decide +kernel
theorem dX11_lackOf_94 : decode cX11_lackOf 94 = .ok (.iload_n 2, 1) := by decide +kernel
theorem dX11_lackOf_95 : decode cX11_lackOf 95 = .ok (.ireturn, 1) := by decide +kernel
theorem dX11_ward_0 : decode cX11_ward 0 = .ok (.aload_n 0, 1) := by decide +kernel
theorem dX11_ward_1 : decode cX11_ward 1 = .ok (.getfield 7, 3) := by decide +kernel
theorem dX11_ward_4 : decode cX11_ward 4 = .ok (.sipush 230, 3) := by decide +kernel
theorem dX11_ward_7 : decode cX11_ward 7 = .ok (.iaload, 1) := by decide +kernel
theorem dX11_ward_8 : decode cX11_ward 8 = .ok (.ifCond .ne 9, 3) := by decide +kernel
theorem dX11_ward_11 : decode cX11_ward 11 = .ok (.aload_n 0, 1) := by decide +kernel
theorem dX11_ward_12 : decode cX11_ward 12 = .ok (.iconst 5, 1) := by decide +kernel
theorem dX11_ward_13 : decode cX11_ward 13 = .ok (.invokevirtual 186, 3) := by decide +kernel
theorem dX11_ward_16 : decode cX11_ward 16 = .ok (.ireturn, 1) := by decide +kernel
theorem dX11_ward_17 : decode cX11_ward 17 = .ok (.iconst (-1), 1) := by decide +kernel
theorem dX11_ward_18 : decode cX11_ward 18 = .ok (.istore_n 2, 1) := by decide +kernel
theorem dX11_ward_19 : decode cX11_ward 19 = .ok (.iconst 0, 1) := by decide +kernel
theorem dX11_ward_20 : decode cX11_ward 20 = .ok (.istore_n 3, 1) := by decide +kernel
theorem dX11_ward_21 : decode cX11_ward 21 = .ok (.iload_n 3, 1) := by decide +kernel
theorem dX11_ward_22 : decode cX11_ward 22 = .ok (.aload_n 0, 1) := by decide +kernel
theorem dX11_ward_23 : decode cX11_ward 23 = .ok (.getfield 7, 3) := by decide +kernel
theorem dX11_ward_26 : decode cX11_ward 26 = .ok (.sipush 230, 3) := by decide +kernel
theorem dX11_ward_29 : decode cX11_ward 29 = .ok (.iaload, 1) := by decide +kernel
theorem dX11_ward_30 : decode cX11_ward 30 = .ok (.if_icmp .ge 59, 3) := by decide +kernel
theorem dX11_ward_33 : decode cX11_ward 33 = .ok (.aload_n 0, 1) := by decide +kernel
theorem dX11_ward_34 : decode cX11_ward 34 = .ok (.iload_n 3, 1) := by decide +kernel
theorem dX11_ward_35 : decode cX11_ward 35 = .ok (.iconst 1, 1) := by decide +kernel
theorem dX11_ward_36 : decode cX11_ward 36 = .ok (.invokevirtual 202, 3) := by decide +kernel
theorem dX11_ward_39 : decode cX11_ward 39 = .ok (.istore 4, 2) := by decide +kernel
theorem dX11_ward_41 : decode cX11_ward 41 = .ok (.iload_n 2, 1) := by decide +kernel
theorem dX11_ward_42 : decode cX11_ward 42 = .ok (.iconst (-1), 1) := by decide +kernel
theorem dX11_ward_43 : decode cX11_ward 43 = .ok (.if_icmp .eq 37, 3) := by decide +kernel
theorem dX11_ward_46 : decode cX11_ward 46 = .ok (.aload_n 0, 1) := by decide +kernel
theorem dX11_ward_47 : decode cX11_ward 47 = .ok (.iload 4, 2) := by decide +kernel
theorem dX11_ward_49 : decode cX11_ward 49 = .ok (.invokevirtual 357, 3) := by decide +kernel
theorem dX11_ward_52 : decode cX11_ward 52 = .ok (.aload_n 0, 1) := by decide +kernel
theorem dX11_ward_53 : decode cX11_ward 53 = .ok (.iload_n 2, 1) := by decide +kernel
theorem dX11_ward_54 : decode cX11_ward 54 = .ok (.invokevirtual 357, 3) := by decide +kernel
theorem dX11_ward_57 : decode cX11_ward 57 = .ok (.if_icmp .gt 23, 3) := by decide +kernel
theorem dX11_ward_60 : decode cX11_ward 60 = .ok (.aload_n 0, 1) := by decide +kernel
theorem dX11_ward_61 : decode cX11_ward 61 = .ok (.iload 4, 2) := by decide +kernel
theorem dX11_ward_63 : decode cX11_ward 63 = .ok (.invokevirtual 357, 3) := by decide +kernel
theorem dX11_ward_66 : decode cX11_ward 66 = .ok (.aload_n 0, 1) := by decide +kernel
theorem dX11_ward_67 : decode cX11_ward 67 = .ok (.iload_n 2, 1) := by decide +kernel
theorem dX11_ward_68 : decode cX11_ward 68 = .ok (.invokevirtual 357, 3) := by decide +kernel
theorem dX11_ward_71 : decode cX11_ward 71 = .ok (.if_icmp .ne 12, 3) := by decide +kernel
theorem dX11_ward_74 : decode cX11_ward 74 = .ok (.iload 4, 2) := by decide +kernel
theorem dX11_ward_76 : decode cX11_ward 76 = .ok (.iload_n 2, 1) := by decide +kernel
theorem dX11_ward_77 : decode cX11_ward 77 = .ok (.if_icmp .ge 6, 3) := by decide +kernel
theorem dX11_ward_80 : decode cX11_ward 80 = .ok (.iload 4, 2) := by decide +kernel
theorem dX11_ward_82 : decode cX11_ward 82 = .ok (.istore_n 2, 1) := by decide +kernel
theorem dX11_ward_83 : decode cX11_ward 83 = .ok (.iinc 3 1, 3) := by decide +kernel
theorem dX11_ward_86 : decode cX11_ward 86 = .ok (.goto (-65), 3) := by decide +kernel
theorem dX11_ward_89 : decode cX11_ward 89 = .ok (.aload_n 0, 1) := by decide +kernel
theorem dX11_ward_90 : decode cX11_ward 90 = .ok (.iload_n 1, 1) := by decide +kernel
theorem dX11_ward_91 : decode cX11_ward 91 = .ok (.ifCond .eq 11, 3) := by decide +kernel
theorem dX11_ward_94 : decode cX11_ward 94 = .ok (.aload_n 0, 1) := by decide +kernel
theorem dX11_ward_95 : decode cX11_ward 95 = .ok (.iload_n 2, 1) := by decide +kernel
theorem dX11_ward_96 : decode cX11_ward 96 = .ok (.invokevirtual 357, 3) := by decide +kernel
theorem dX11_ward_99 : decode cX11_ward 99 = .ok (.goto 4, 3) := by decide +kernel
theorem dX11_ward_102 : decode cX11_ward 102 = .ok (.iload_n 2, 1) := by decide +kernel
theorem dX11_ward_103 : decode cX11_ward 103 = .ok (.invokevirtual 199, 3) := by decide +kernel
theorem dX11_ward_106 : decode cX11_ward 106 = .ok (.ireturn, 1) := by decide +kernel
theorem dX11_isRather_0 : decode cX11_isRather 0 = .ok (.aload_n 0, 1) := by decide +kernel
theorem dX11_isRather_1 : decode cX11_isRather 1 = .ok (.iload_n 1, 1) := by decide +kernel
theorem dX11_isRather_2 : decode cX11_isRather 2 = .ok (.iload_n 2, 1) := by decide +kernel
theorem dX11_isRather_3 : decode cX11_isRather 3 = .ok (.invokevirtual 216, 3) := by decide +kernel
theorem dX11_isRather_6 : decode cX11_isRather 6 = .ok (.istore_n 3, 1) := by decide +kernel
theorem dX11_isRather_7 : decode cX11_isRather 7 = .ok (.aload_n 0, 1) := by decide +kernel
theorem dX11_isRather_8 : decode cX11_isRather 8 = .ok (.iload_n 1, 1) := by decide +kernel
theorem dX11_isRather_9 : decode cX11_isRather 9 = .ok (.aload_n 0, 1) := by decide +kernel
theorem dX11_isRather_10 : decode cX11_isRather 10 = .ok (.iload_n 1, 1) := by decide +kernel
theorem dX11_isRather_11 : decode cX11_isRather 11 = .ok (.iconst 4, 1) := by decide +kernel
theorem dX11_isRather_12 : decode cX11_isRather 12 = .ok (.invokevirtual 205, 3) := by decide +kernel
theorem dX11_isRather_15 : decode cX11_isRather 15 = .ok (.invokevirtual 216, 3) := by decide +kernel
theorem dX11_isRather_18 : decode cX11_isRather 18 = .ok (.istore 4, 2) := by decide +kernel
theorem dX11_isRather_20 : decode cX11_isRather 20 = .ok (.iload_n 3, 1) := by decide +kernel
theorem dX11_isRather_21 : decode cX11_isRather 21 = .ok (.iconst (-1), 1) := by decide +kernel
theorem dX11_isRather_22 : decode cX11_isRather 22 = .ok (.if_icmp .eq 28, 3) := by decide +kernel
theorem dX11_isRather_25 : decode cX11_isRather 25 = .ok (.aload_n 0, 1) := by decide +kernel
theorem dX11_isRather_26 : decode cX11_isRather 26 = .ok (.iload_n 1, 1) := by decide +kernel
theorem dX11_isRather_27 : decode cX11_isRather 27 = .ok (.iload_n 2, 1) := by decide +kernel
theorem dX11_isRather_28 : decode cX11_isRather 28 = .ok (.invokevirtual 250, 3) := by decide +kernel
theorem dX11_isRather_31 : decode cX11_isRather 31 = .ok (.ifCond .eq 19, 3) := by decide +kernel
theorem dX11_isRather_34 : decode cX11_isRather 34 = .ok (.iload 4, 2) := by decide +kernel
theorem dX11_isRather_36 : decode cX11_isRather 36 = .ok (.iconst (-1), 1) := by decide +kernel
theorem dX11_isRather_37 : decode cX11_isRather 37 = .ok (.if_icmp .eq 9, 3) := by decide +kernel
theorem dX11_isRather_40 : decode cX11_isRather 40 = .ok (.iload_n 3, 1) := by decide +kernel
theorem dX11_isRather_41 : decode cX11_isRather 41 = .ok (.iload 4, 2) := by decide +kernel
theorem dX11_isRather_43 : decode cX11_isRather 43 = .ok (.if_icmp .ge 7, 3) := by decide +kernel
theorem dX11_isRather_46 : decode cX11_isRather 46 = .ok (.iconst 1, 1) := by decide +kernel
theorem dX11_isRather_47 : decode cX11_isRather 47 = .ok (.goto 4, 3) := by decide +kernel
theorem dX11_isRather_50 : decode cX11_isRather 50 = .ok (.iconst 0, 1) := by decide +kernel
theorem dX11_isRather_51 : decode cX11_isRather 51 = .ok (.ireturn, 1) := by decide +kernel
theorem dX11_envy_0 : decode cX11_envy 0 = .ok (.iload_n 1, 1) := by decide +kernel
theorem dX11_envy_1 : decode cX11_envy 1 = .ok (.iconst 0, 1) := by decide +kernel
theorem dX11_envy_2 : decode cX11_envy 2 = .ok (.iconst 2, 1) := by decide +kernel
theorem dX11_envy_3 : decode cX11_envy 3 = .ok (.invokestatic 71, 3) := by decide +kernel
theorem dX11_envy_6 : decode cX11_envy 6 = .ok (.ifCond .ne 9, 3) := by decide +kernel
theorem dX11_envy_9 : decode cX11_envy 9 = .ok (.aload_n 0, 1) := by decide +kernel
theorem dX11_envy_10 : decode cX11_envy 10 = .ok (.iconst 1, 1) := by decide +kernel
theorem dX11_envy_11 : decode cX11_envy 11 = .ok (.invokevirtual 186, 3) := by decide +kernel
theorem dX11_envy_14 : decode cX11_envy 14 = .ok (.ireturn, 1) := by decide +kernel
theorem dX11_envy_15 : decode cX11_envy 15 = .ok (.iconst 0, 1) := by decide +kernel
theorem dX11_envy_16 : decode cX11_envy 16 = .ok (.istore_n 2, 1) := by decide +kernel
theorem dX11_envy_17 : decode cX11_envy 17 = .ok (.iconst (-1), 1) := by decide +kernel
theorem dX11_envy_18 : decode cX11_envy 18 = .ok (.istore_n 3, 1) := by decide +kernel
theorem dX11_envy_19 : decode cX11_envy 19 = .ok (.iconst 0, 1) := by decide +kernel
theorem dX11_envy_20 : decode cX11_envy 20 = .ok (.istore 4, 2) := by decide +kernel
theorem dX11_envy_22 : decode cX11_envy 22 = .ok (.iload 4, 2) := by decide +kernel
theorem dX11_envy_24 : decode cX11_envy 24 = .ok (.aload_n 0, 1) := by decide +kernel
theorem dX11_envy_25 : decode cX11_envy 25 = .ok (.getfield 7, 3) := by decide +kernel
theorem dX11_envy_28 : decode cX11_envy 28 = .ok (.sipush 231, 3) := by decide +kernel
theorem dX11_envy_31 : decode cX11_envy 31 = .ok (.iaload, 1) := by decide +kernel
theorem dX11_envy_32 : decode cX11_envy 32 = .ok (.if_icmp .ge 111, 3) := by decide +kernel
theorem dX11_envy_35 : decode cX11_envy 35 = .ok (.iload 4, 2) := by decide +kernel
theorem dX11_envy_37 : decode cX11_envy 37 = .ok (.iconst 1, 1) := by decide +kernel
theorem dX11_envy_38 : decode cX11_envy 38 = .ok (.iadd, 1) := by decide +kernel
theorem dX11_envy_39 : decode cX11_envy 39 = .ok (.istore 5, 2) := by decide +kernel
theorem dX11_envy_41 : decode cX11_envy 41 = .ok (.iload 5, 2) := by decide +kernel
theorem dX11_envy_43 : decode cX11_envy 43 = .ok (.aload_n 0, 1) := by decide +kernel
theorem dX11_envy_44 : decode cX11_envy 44 = .ok (.getfield 7, 3) := by decide +kernel
theorem dX11_envy_47 : decode cX11_envy 47 = .ok (.sipush 231, 3) := by decide +kernel
theorem dX11_envy_50 : decode cX11_envy 50 = .ok (.iaload, 1) := by decide +kernel
theorem dX11_envy_51 : decode cX11_envy 51 = .ok (.if_icmp .ge 86, 3) := by decide +kernel
theorem dX11_envy_54 : decode cX11_envy 54 = .ok (.aload_n 0, 1) := by decide +kernel
theorem dX11_envy_55 : decode cX11_envy 55 = .ok (.iload 4, 2) := by decide +kernel
theorem dX11_envy_57 : decode cX11_envy 57 = .ok (.iconst 4, 1) := by decide +kernel
theorem dX11_envy_58 : decode cX11_envy 58 = .ok (.invokevirtual 205, 3) := by decide +kernel
theorem dX11_envy_61 : decode cX11_envy 61 = .ok (.iconst (-1), 1) := by decide +kernel
theorem dX11_envy_62 : decode cX11_envy 62 = .ok (.if_icmp .eq 69, 3) := by decide +kernel
theorem dX11_envy_65 : decode cX11_envy 65 = .ok (.aload_n 0, 1) := by decide +kernel
theorem dX11_envy_66 : decode cX11_envy 66 = .ok (.iload 5, 2) := by decide +kernel
theorem dX11_envy_68 : decode cX11_envy 68 = .ok (.iconst 4, 1) := by decide +kernel
theorem dX11_envy_69 : decode cX11_envy 69 = .ok (.invokevirtual 205, 3) := by decide +kernel
theorem dX11_envy_72 : decode cX11_envy 72 = .ok (.iconst (-1), 1) := by decide +kernel
theorem dX11_envy_73 : decode cX11_envy 73 = .ok (.if_icmp .eq 58, 3) := by decide +kernel
theorem dX11_envy_76 : decode cX11_envy 76 = .ok (.aload_n 0, 1) := by decide +kernel
theorem dX11_envy_77 : decode cX11_envy 77 = .ok (.iload 4, 2) := by decide +kernel
theorem dX11_envy_79 : decode cX11_envy 79 = .ok (.aload_n 0, 1) := by decide +kernel
theorem dX11_envy_80 : decode cX11_envy 80 = .ok (.iload 5, 2) := by decide +kernel
theorem dX11_envy_82 : decode cX11_envy 82 = .ok (.iconst 4, 1) := by decide +kernel
theorem dX11_envy_83 : decode cX11_envy 83 = .ok (.invokevirtual 205, 3) := by decide +kernel
theorem dX11_envy_86 : decode cX11_envy 86 = .ok (.invokevirtual 360, 3) := by decide +kernel
theorem dX11_envy_89 : decode cX11_envy 89 = .ok (.ifCond .eq 42, 3) := by decide +kernel
theorem dX11_envy_92 : decode cX11_envy 92 = .ok (.aload_n 0, 1) := by decide +kernel
theorem dX11_envy_93 : decode cX11_envy 93 = .ok (.iload 5, 2) := by decide +kernel
theorem dX11_envy_95 : decode cX11_envy 95 = .ok (.aload_n 0, 1) := by decide +kernel
theorem dX11_envy_96 : decode cX11_envy 96 = .ok (.iload 4, 2) := by decide +kernel
theorem dX11_envy_98 : decode cX11_envy 98 = .ok (.iconst 4, 1) := by decide +kernel
theorem dX11_envy_99 : decode cX11_envy 99 = .ok (.invokevirtual 205, 3) := by decide +kernel
theorem dX11_envy_102 : decode cX11_envy 102 = .ok (.invokevirtual 360, 3) := by decide +kernel
theorem dX11_envy_105 : decode cX11_envy 105 = .ok (.ifCond .ne 6, 3) := by decide +kernel
theorem dX11_envy_108 : decode cX11_envy 108 = .ok (.goto 23, 3) := by decide +kernel
theorem dX11_envy_111 : decode cX11_envy 111 = .ok (.iload_n 2, 1) := by decide +kernel
theorem dX11_envy_112 : decode cX11_envy 112 = .ok (.ifCond .ne 14, 3) := by decide +kernel
theorem dX11_envy_115 : decode cX11_envy 115 = .ok (.bipush 8, 2) := by decide +kernel
theorem dX11_envy_117 : decode cX11_envy 117 = .ok (.iload 4, 2) := by decide +kernel
theorem dX11_envy_119 : decode cX11_envy 119 = .ok (.imul, 1) := by decide +kernel
theorem dX11_envy_120 : decode cX11_envy 120 = .ok (.iload 5, 2) := by decide +kernel
theorem dX11_envy_122 : decode cX11_envy 122 = .ok (.iadd, 1) := by decide +kernel
theorem dX11_envy_123 : decode cX11_envy 123 = .ok (.goto 4, 3) := by decide +kernel
theorem dX11_envy_126 : decode cX11_envy 126 = .ok (.iload_n 3, 1) := by decide +kernel
theorem dX11_envy_127 : decode cX11_envy 127 = .ok (.istore_n 3, 1) := by decide +kernel
theorem dX11_envy_128 : decode cX11_envy 128 = .ok (.iinc 2 1, 3) := by decide +kernel
theorem dX11_envy_131 : decode cX11_envy 131 = .ok (.iinc 5 1, 3) := by decide +kernel
theorem dX11_envy_134 : decode cX11_envy 134 = .ok (.goto (-93), 3) := by decide +kernel
theorem dX11_envy_137 : decode cX11_envy 137 = .ok (.iinc 4 1, 3) := by decide +kernel
theorem dX11_envy_140 : decode cX11_envy 140 = .ok (.goto (-118), 3) := by decide +kernel
theorem dX11_envy_143 : decode cX11_envy 143 = .ok (.iload_n 1, 1) := by decide +kernel
theorem dX11_envy_144 : decode cX11_envy 144 = .ok (.ifCond .ne 9, 3) := by decide +kernel
theorem dX11_envy_147 : decode cX11_envy 147 = .ok (.aload_n 0, 1) := by decide +kernel
theorem dX11_envy_148 : decode cX11_envy 148 = .ok (.iload_n 2, 1) := by decide +kernel
theorem dX11_envy_149 : decode cX11_envy 149 = .ok (.invokevirtual 199, 3) := by decide +kernel
theorem dX11_envy_152 : decode cX11_envy 152 = .ok (.ireturn, 1) := by decide +kernel
theorem dX11_envy_153 : decode cX11_envy 153 = .ok (.iload_n 2, 1) := by decide +kernel
theorem dX11_envy_154 : decode cX11_envy 154 = .ok (.ifCond .ne 11, 3) := by decide +kernel
theorem dX11_envy_157 : decode cX11_envy 157 = .ok (.aload_n 0, 1) := by decide +kernel
theorem dX11_envy_158 : decode cX11_envy 158 = .ok (.iconst 5, 1) := by decide +kernel
theorem dX11_envy_159 : decode cX11_envy 159 = .ok (.invokevirtual 186, 3) := by decide +kernel
theorem dX11_envy_162 : decode cX11_envy 162 = .ok (.goto 23, 3) := by decide +kernel
theorem dX11_envy_165 : decode cX11_envy 165 = .ok (.aload_n 0, 1) := by decide +kernel
theorem dX11_envy_166 : decode cX11_envy 166 = .ok (.iload_n 1, 1) := by decide +kernel
theorem dX11_envy_167 : decode cX11_envy 167 = .ok (.iconst 1, 1) := by decide +kernel
theorem dX11_envy_168 : decode cX11_envy 168 = .ok (.if_icmp .ne 10, 3) := by decide +kernel
theorem dX11_envy_171 : decode cX11_envy 171 = .ok (.iload_n 3, 1) := by decide +kernel
theorem dX11_envy_172 : decode cX11_envy 172 = .ok (.bipush 8, 2) := by decide +kernel
theorem dX11_envy_174 : decode cX11_envy 174 = .ok (.idiv, 1) := by decide +kernel
theorem dX11_envy_175 : decode cX11_envy 175 = .ok (.goto 7, 3) := by decide +kernel
theorem dX11_envy_178 : decode cX11_envy 178 = .ok (.iload_n 3, 1) := by decide +kernel
theorem dX11_envy_179 : decode cX11_envy 179 = .ok (.bipush 8, 2) := by decide +kernel
theorem dX11_envy_181 : decode cX11_envy 181 = .ok (.irem, 1) := by decide +kernel
theorem dX11_envy_182 : decode cX11_envy 182 = .ok (.invokevirtual 199, 3) := by decide +kernel
theorem dX11_envy_185 : decode cX11_envy 185 = .ok (.ireturn, 1) := by decide +kernel
theorem dX11_letsAhead_0 : decode cX11_letsAhead 0 = .ok (.aload_n 0, 1) := by decide +kernel
theorem dX11_letsAhead_1 : decode cX11_letsAhead 1 = .ok (.getfield 7, 3) := by decide +kernel
theorem dX11_letsAhead_4 : decode cX11_letsAhead 4 = .ok (.aload_n 0, 1) := by decide +kernel
theorem dX11_letsAhead_5 : decode cX11_letsAhead 5 = .ok (.getfield 16, 3) := by decide +kernel
theorem dX11_letsAhead_8 : decode cX11_letsAhead 8 = .ok (.invokestatic 192, 3) := by decide +kernel
theorem dX11_letsAhead_11 : decode cX11_letsAhead 11 = .ok (.aload_n 0, 1) := by decide +kernel
theorem dX11_letsAhead_12 : decode cX11_letsAhead 12 = .ok (.getfield 7, 3) := by decide +kernel
theorem dX11_letsAhead_15 : decode cX11_letsAhead 15 = .ok (.sipush 233, 3) := by decide +kernel
theorem dX11_letsAhead_18 : decode cX11_letsAhead 18 = .ok (.iaload, 1) := by decide +kernel
theorem dX11_letsAhead_19 : decode cX11_letsAhead 19 = .ok (.istore_n 2, 1) := by decide +kernel
theorem dX11_letsAhead_20 : decode cX11_letsAhead 20 = .ok (.iconst 0, 1) := by decide +kernel
theorem dX11_letsAhead_21 : decode cX11_letsAhead 21 = .ok (.istore_n 3, 1) := by decide +kernel
theorem dX11_letsAhead_22 : decode cX11_letsAhead 22 = .ok (.iload_n 3, 1) := by decide +kernel
theorem dX11_letsAhead_23 : decode cX11_letsAhead 23 = .ok (.iload_n 1, 1) := by decide +kernel
theorem dX11_letsAhead_24 : decode cX11_letsAhead 24 = .ok (.if_icmp .ge 13, 3) := by decide +kernel
theorem dX11_letsAhead_27 : decode cX11_letsAhead 27 = .ok (.aload_n 0, 1) := by decide +kernel
theorem dX11_letsAhead_28 : decode cX11_letsAhead 28 = .ok (.invokevirtual 331, 3) := by decide +kernel
theorem dX11_letsAhead_31 : decode cX11_letsAhead 31 = .ok (.iinc 3 1, 3) := by decide +kernel
theorem dX11_letsAhead_34 : decode cX11_letsAhead 34 = .ok (.goto (-12), 3) := by decide +kernel
theorem dX11_letsAhead_37 : decode cX11_letsAhead 37 = .ok (.aload_n 0, 1) := by decide +kernel
theorem dX11_letsAhead_38 : decode cX11_letsAhead 38 = .ok (.getfield 7, 3) := by decide +kernel
theorem dX11_letsAhead_41 : decode cX11_letsAhead 41 = .ok (.sipush 233, 3) := by decide +kernel
theorem dX11_letsAhead_44 : decode cX11_letsAhead 44 = .ok (.iaload, 1) := by decide +kernel
theorem dX11_letsAhead_45 : decode cX11_letsAhead 45 = .ok (.iload_n 2, 1) := by decide +kernel
theorem dX11_letsAhead_46 : decode cX11_letsAhead 46 = .ok (.isub, 1) := by decide +kernel
theorem dX11_letsAhead_47 : decode cX11_letsAhead 47 = .ok (.istore_n 3, 1) := by decide +kernel
theorem dX11_letsAhead_48 : decode cX11_letsAhead 48 = .ok (.aload_n 0, 1) := by decide +kernel
theorem dX11_letsAhead_49 : decode cX11_letsAhead 49 = .ok (.getfield 16, 3) := by decide +kernel
theorem dX11_letsAhead_52 : decode cX11_letsAhead 52 = .ok (.aload_n 0, 1) := by decide +kernel
theorem dX11_letsAhead_53 : decode cX11_letsAhead 53 = .ok (.getfield 7, 3) := by decide +kernel
theorem dX11_letsAhead_56 : decode cX11_letsAhead 56 = .ok (.invokestatic 192, 3) := by decide +kernel
theorem dX11_letsAhead_59 : decode cX11_letsAhead 59 = .ok (.iload_n 3, 1) := by decide +kernel
theorem dX11_letsAhead_60 : decode cX11_letsAhead 60 = .ok (.ireturn, 1) := by decide +kernel
theorem dX11_lever_0 : decode cX11_lever 0 = .ok (.iload_n 1, 1) := by decide +kernel
theorem dX11_lever_1 : decode cX11_lever 1 = .ok (.iconst 1, 1) := by decide +kernel
theorem dX11_lever_2 : decode cX11_lever 2 = .ok (.bipush 30, 2) := by decide +kernel
theorem dX11_lever_4 : decode cX11_lever 4 = .ok (.invokestatic 71, 3) := by decide +kernel
theorem dX11_lever_7 : decode cX11_lever 7 = .ok (.ifCond .eq 12, 3) := by decide +kernel
theorem dX11_lever_10 : decode cX11_lever 10 = .ok (.iload_n 2, 1) := by decide +kernel
theorem dX11_lever_11 : decode cX11_lever 11 = .ok (.iconst 0, 1) := by decide +kernel
theorem dX11_lever_12 : decode cX11_lever 12 = .ok (.iconst 2, 1) := by decide +kernel
theorem dX11_lever_13 : decode cX11_lever 13 = .ok (.invokestatic 71, 3) := by decide +kernel
theorem dX11_lever_16 : decode cX11_lever 16 = .ok (.ifCond .ne 9, 3) := by decide +kernel
theorem dX11_lever_19 : decode cX11_lever 19 = .ok (.aload_n 0, 1) := by decide +kernel
theorem dX11_lever_20 : decode cX11_lever 20 = .ok (.iconst 1, 1) := by decide +kernel
theorem dX11_lever_21 : decode cX11_lever 21 = .ok (.invokevirtual 186, 3) := by decide +kernel
theorem dX11_lever_24 : decode cX11_lever 24 = .ok (.ireturn, 1) := by decide +kernel
theorem dX11_lever_25 : decode cX11_lever 25 = .ok (.iconst (-1), 1) := by decide +kernel
theorem dX11_lever_26 : decode cX11_lever 26 = .ok (.istore_n 3, 1) := by decide +kernel
theorem dX11_lever_27 : decode cX11_lever 27 = .ok (.iconst 0, 1) := by decide +kernel
theorem dX11_lever_28 : decode cX11_lever 28 = .ok (.istore 4, 2) := by decide +kernel
theorem dX11_lever_30 : decode cX11_lever 30 = .ok (.iconst 0, 1) := by decide +kernel
theorem dX11_lever_31 : decode cX11_lever 31 = .ok (.istore 5, 2) := by decide +kernel
theorem dX11_lever_33 : decode cX11_lever 33 = .ok (.iconst 0, 1) := by decide +kernel
theorem dX11_lever_34 : decode cX11_lever 34 = .ok (.istore 6, 2) := by decide +kernel
theorem dX11_lever_36 : decode cX11_lever 36 = .ok (.iload 6, 2) := by decide +kernel
theorem dX11_lever_38 : decode cX11_lever 38 = .ok (.bipush 12, 2) := by decide +kernel
theorem dX11_lever_40 : decode cX11_lever 40 = .ok (.if_icmp .ge 125, 3) := by decide +kernel
theorem dX11_lever_43 : decode cX11_lever 43 = .ok (.aload_n 0, 1) := by decide +kernel
theorem dX11_lever_44 : decode cX11_lever 44 = .ok (.getfield 7, 3) := by decide +kernel
theorem dX11_lever_47 : decode cX11_lever 47 = .ok (.sipush 224, 3) := by decide +kernel
theorem dX11_lever_50 : decode cX11_lever 50 = .ok (.iload 6, 2) := by decide +kernel
theorem dX11_lever_52 : decode cX11_lever 52 = .ok (.iconst 2, 1) := by decide +kernel
theorem dX11_lever_53 : decode cX11_lever 53 = .ok (.idiv, 1) := by decide +kernel
theorem dX11_lever_54 : decode cX11_lever 54 = .ok (.iadd, 1) := by decide +kernel
theorem dX11_lever_55 : decode cX11_lever 55 = .ok (.iaload, 1) := by decide +kernel
theorem dX11_lever_56 : decode cX11_lever 56 = .ok (.istore 7, 2) := by decide +kernel
theorem dX11_lever_58 : decode cX11_lever 58 = .ok (.iload 7, 2) := by decide +kernel
theorem dX11_lever_60 : decode cX11_lever 60 = .ok (.iload 6, 2) := by decide +kernel
theorem dX11_lever_62 : decode cX11_lever 62 = .ok (.iconst 2, 1) := by decide +kernel
theorem dX11_lever_63 : decode cX11_lever 63 = .ok (.irem, 1) := by decide +kernel
theorem dX11_lever_64 : decode cX11_lever 64 = .ok (.ifCond .ne 7, 3) := by decide +kernel
theorem dX11_lever_67 : decode cX11_lever 67 = .ok (.iconst (-1), 1) := by decide +kernel
theorem dX11_lever_68 : decode cX11_lever 68 = .ok (.goto 4, 3) := by decide +kernel
theorem dX11_lever_71 : decode cX11_lever 71 = .ok (.iconst 1, 1) := by decide +kernel
theorem dX11_lever_72 : decode cX11_lever 72 = .ok (.iadd, 1) := by decide +kernel
theorem dX11_lever_73 : decode cX11_lever 73 = .ok (.istore 8, 2) := by decide +kernel
theorem dX11_lever_75 : decode cX11_lever 75 = .ok (.iload 8, 2) := by decide +kernel
theorem dX11_lever_77 : decode cX11_lever 77 = .ok (.iload 6, 2) := by decide +kernel
theorem dX11_lever_79 : decode cX11_lever 79 = .ok (.iconst 2, 1) := by decide +kernel
theorem dX11_lever_80 : decode cX11_lever 80 = .ok (.idiv, 1) := by decide +kernel
theorem dX11_lever_81 : decode cX11_lever 81 = .ok (.invokestatic 171, 3) := by decide +kernel
theorem dX11_lever_84 : decode cX11_lever 84 = .ok (.iload 6, 2) := by decide +kernel
theorem dX11_lever_86 : decode cX11_lever 86 = .ok (.iconst 2, 1) := by decide +kernel
theorem dX11_lever_87 : decode cX11_lever 87 = .ok (.idiv, 1) := by decide +kernel
theorem dX11_lever_88 : decode cX11_lever 88 = .ok (.invokestatic 174, 3) := by decide +kernel
theorem dX11_lever_91 : decode cX11_lever 91 = .ok (.invokestatic 71, 3) := by decide +kernel
theorem dX11_lever_94 : decode cX11_lever 94 = .ok (.ifCond .ne 6, 3) := by decide +kernel
theorem dX11_lever_97 : decode cX11_lever 97 = .ok (.goto 62, 3) := by decide +kernel
theorem dX11_lever_100 : decode cX11_lever 100 = .ok (.aload_n 0, 1) := by decide +kernel
theorem dX11_lever_101 : decode cX11_lever 101 = .ok (.getfield 7, 3) := by decide +kernel
theorem dX11_lever_104 : decode cX11_lever 104 = .ok (.sipush 224, 3) := by decide +kernel
theorem dX11_lever_107 : decode cX11_lever 107 = .ok (.iload 6, 2) := by decide +kernel
theorem dX11_lever_109 : decode cX11_lever 109 = .ok (.iconst 2, 1) := by decide +kernel
theorem dX11_lever_110 : decode cX11_lever 110 = .ok (.idiv, 1) := by decide +kernel
theorem dX11_lever_111 : decode cX11_lever 111 = .ok (.iadd, 1) := by decide +kernel
theorem dX11_lever_112 : decode cX11_lever 112 = .ok (.iload 8, 2) := by decide +kernel
theorem dX11_lever_114 : decode cX11_lever 114 = .ok (.iastore, 1) := by decide +kernel
theorem dX11_lever_115 : decode cX11_lever 115 = .ok (.aload_n 0, 1) := by decide +kernel
theorem dX11_lever_116 : decode cX11_lever 116 = .ok (.iload_n 1, 1) := by decide +kernel
theorem dX11_lever_117 : decode cX11_lever 117 = .ok (.invokevirtual 363, 3) := by decide +kernel
theorem dX11_lever_120 : decode cX11_lever 120 = .ok (.istore 9, 2) := by decide +kernel
theorem dX11_lever_122 : decode cX11_lever 122 = .ok (.aload_n 0, 1) := by decide +kernel
theorem dX11_lever_123 : decode cX11_lever 123 = .ok (.getfield 7, 3) := by decide +kernel
theorem dX11_lever_126 : decode cX11_lever 126 = .ok (.sipush 224, 3) := by decide +kernel
theorem dX11_lever_129 : decode cX11_lever 129 = .ok (.iload 6, 2) := by decide +kernel
theorem dX11_lever_131 : decode cX11_lever 131 = .ok (.iconst 2, 1) := by decide +kernel
theorem dX11_lever_132 : decode cX11_lever 132 = .ok (.idiv, 1) := by decide +kernel
theorem dX11_lever_133 : decode cX11_lever 133 = .ok (.iadd, 1) := by decide +kernel
theorem dX11_lever_134 : decode cX11_lever 134 = .ok (.iload 7, 2) := by decide +kernel
theorem dX11_lever_136 : decode cX11_lever 136 = .ok (.iastore, 1) := by decide +kernel
theorem dX11_lever_137 : decode cX11_lever 137 = .ok (.iload 9, 2) := by decide +kernel
theorem dX11_lever_139 : decode cX11_lever 139 = .ok (.iload_n 3, 1) := by decide +kernel
theorem dX11_lever_140 : decode cX11_lever 140 = .ok (.if_icmp .gt 6, 3) := by decide +kernel
theorem dX11_lever_143 : decode cX11_lever 143 = .ok (.goto 16, 3) := by decide +kernel
theorem dX11_lever_146 : decode cX11_lever 146 = .ok (.iload 9, 2) := by decide +kernel
theorem dX11_lever_148 : decode cX11_lever 148 = .ok (.istore_n 3, 1) := by decide +kernel
theorem dX11_lever_149 : decode cX11_lever 149 = .ok (.iload 6, 2) := by decide +kernel
theorem dX11_lever_151 : decode cX11_lever 151 = .ok (.iconst 2, 1) := by decide +kernel
theorem dX11_lever_152 : decode cX11_lever 152 = .ok (.idiv, 1) := by decide +kernel
theorem dX11_lever_153 : decode cX11_lever 153 = .ok (.istore 4, 2) := by decide +kernel
theorem dX11_lever_155 : decode cX11_lever 155 = .ok (.iload 8, 2) := by decide +kernel
theorem dX11_lever_157 : decode cX11_lever 157 = .ok (.istore 5, 2) := by decide +kernel
theorem dX11_lever_159 : decode cX11_lever 159 = .ok (.iinc 6 1, 3) := by decide +kernel
theorem dX11_lever_162 : decode cX11_lever 162 = .ok (.goto (-126), 3) := by decide +kernel
theorem dX11_lever_165 : decode cX11_lever 165 = .ok (.aload_n 0, 1) := by decide +kernel
theorem dX11_lever_166 : decode cX11_lever 166 = .ok (.iload_n 2, 1) := by decide +kernel
theorem dX11_lever_167 : decode cX11_lever 167 = .ok (.ifCond .ne 7, 3) := by decide +kernel
theorem dX11_lever_170 : decode cX11_lever 170 = .ok (.iload_n 3, 1) := by decide +kernel
theorem dX11_lever_171 : decode cX11_lever 171 = .ok (.goto 15, 3) := by decide +kernel
theorem dX11_lever_174 : decode cX11_lever 174 = .ok (.iload_n 2, 1) := by decide +kernel
theorem dX11_lever_175 : decode cX11_lever 175 = .ok (.iconst 1, 1) := by decide +kernel
theorem dX11_lever_176 : decode cX11_lever 176 = .ok (.if_icmp .ne 8, 3) := by decide +kernel
theorem dX11_lever_179 : decode cX11_lever 179 = .ok (.iload 4, 2) := by decide +kernel
theorem dX11_lever_181 : decode cX11_lever 181 = .ok (.goto 5, 3) := by decide +kernel
theorem dX11_lever_184 : decode cX11_lever 184 = .ok (.iload 5, 2) := by decide +kernel
theorem dX11_lever_186 : decode cX11_lever 186 = .ok (.invokevirtual 199, 3) := by decide +kernel
theorem dX11_lever_189 : decode cX11_lever 189 = .ok (.ireturn, 1) := by decide +kernel
theorem dX11_looksAt_0 : decode cX11_looksAt 0 = .ok (.iconst 0, 1) := by decide +kernel
theorem dX11_looksAt_1 : decode cX11_looksAt 1 = .ok (.istore_n 3, 1) := by decide +kernel
theorem dX11_looksAt_2 : decode cX11_looksAt 2 = .ok (.iload_n 3, 1) := by decide +kernel
theorem dX11_looksAt_3 : decode cX11_looksAt 3 = .ok (.aload_n 0, 1) := by decide +kernel
theorem dX11_looksAt_4 : decode cX11_looksAt 4 = .ok (.iload_n 1, 1) := by decide +kernel
theorem dX11_looksAt_5 : decode cX11_looksAt 5 = .ok (.bipush 11, 2) := by decide +kernel
theorem dX11_looksAt_7 : decode cX11_looksAt 7 = .ok (.invokevirtual 205, 3) := by decide +kernel
theorem dX11_looksAt_10 : decode cX11_looksAt 10 = .ok (.if_icmp .ge 58, 3) := by decide +kernel
theorem dX11_looksAt_13 : decode cX11_looksAt 13 = .ok (.aload_n 0, 1) := by decide +kernel
theorem dX11_looksAt_14 : decode cX11_looksAt 14 = .ok (.iload_n 1, 1) := by decide +kernel
theorem dX11_looksAt_15 : decode cX11_looksAt 15 = .ok (.bipush 12, 2) := by decide +kernel
theorem dX11_looksAt_17 : decode cX11_looksAt 17 = .ok (.iload_n 3, 1) := by decide +kernel
theorem dX11_looksAt_18 : decode cX11_looksAt 18 = .ok (.iadd, 1) := by decide +kernel
theorem dX11_looksAt_19 : decode cX11_looksAt 19 = .ok (.invokevirtual 205, 3) := by decide +kernel
theorem dX11_looksAt_22 : decode cX11_looksAt 22 = .ok (.istore 4, 2) := by decide +kernel
theorem dX11_looksAt_24 : decode cX11_looksAt 24 = .ok (.aload_n 0, 1) := by decide +kernel
theorem dX11_looksAt_25 : decode cX11_looksAt 25 = .ok (.iload 4, 2) := by decide +kernel
theorem dX11_looksAt_27 : decode cX11_looksAt 27 = .ok (.iconst 2, 1) := by decide +kernel
theorem dX11_looksAt_28 : decode cX11_looksAt 28 = .ok (.invokevirtual 202, 3) := by decide +kernel
theorem dX11_looksAt_31 : decode cX11_looksAt 31 = .ok (.istore 5, 2) := by decide +kernel
theorem dX11_looksAt_33 : decode cX11_looksAt 33 = .ok (.iload 5, 2) := by decide +kernel
theorem dX11_looksAt_35 : decode cX11_looksAt 35 = .ok (.iconst (-1), 1) := by decide +kernel
theorem dX11_looksAt_36 : decode cX11_looksAt 36 = .ok (.if_icmp .eq 26, 3) := by decide +kernel
theorem dX11_looksAt_39 : decode cX11_looksAt 39 = .ok (.iload_n 2, 1) := by decide +kernel
theorem dX11_looksAt_40 : decode cX11_looksAt 40 = .ok (.iload 5, 2) := by decide +kernel
theorem dX11_looksAt_42 : decode cX11_looksAt 42 = .ok (.ishr, 1) := by decide +kernel
theorem dX11_looksAt_43 : decode cX11_looksAt 43 = .ok (.iconst 1, 1) := by decide +kernel
theorem dX11_looksAt_44 : decode cX11_looksAt 44 = .ok (.iand, 1) := by decide +kernel
theorem dX11_looksAt_45 : decode cX11_looksAt 45 = .ok (.iconst 1, 1) := by decide +kernel
theorem dX11_looksAt_46 : decode cX11_looksAt 46 = .ok (.if_icmp .ne 16, 3) := by decide +kernel
theorem dX11_looksAt_49 : decode cX11_looksAt 49 = .ok (.aload_n 0, 1) := by decide +kernel
theorem dX11_looksAt_50 : decode cX11_looksAt 50 = .ok (.iload_n 1, 1) := by decide +kernel
theorem dX11_looksAt_51 : decode cX11_looksAt 51 = .ok (.iload 4, 2) := by decide +kernel
theorem dX11_looksAt_53 : decode cX11_looksAt 53 = .ok (.invokevirtual 250, 3) := by decide +kernel
theorem dX11_looksAt_56 : decode cX11_looksAt 56 = .ok (.ifCond .eq 6, 3) := by decide +kernel
theorem dX11_looksAt_59 : decode cX11_looksAt 59 = .ok (.iload 4, 2) := by decide +kernel
theorem dX11_looksAt_61 : decode cX11_looksAt 61 = .ok (.ireturn, 1) := by decide +kernel
theorem dX11_looksAt_62 : decode cX11_looksAt 62 = .ok (.iinc 3 1, 3) := by decide +kernel
theorem dX11_looksAt_65 : decode cX11_looksAt 65 = .ok (.goto (-63), 3) := by decide +kernel
theorem dX11_looksAt_68 : decode cX11_looksAt 68 = .ok (.aload_n 0, 1) := by decide +kernel
theorem dX11_looksAt_69 : decode cX11_looksAt 69 = .ok (.iload_n 1, 1) := by decide +kernel
theorem dX11_looksAt_70 : decode cX11_looksAt 70 = .ok (.iconst 4, 1) := by decide +kernel
theorem dX11_looksAt_71 : decode cX11_looksAt 71 = .ok (.invokevirtual 205, 3) := by decide +kernel
theorem dX11_looksAt_74 : decode cX11_looksAt 74 = .ok (.ireturn, 1) := by decide +kernel
theorem dX11_laysTrades_0 : decode cX11_laysTrades 0 = .ok (.iconst 0, 1) := by decide +kernel
theorem dX11_laysTrades_1 : decode cX11_laysTrades 1 = .ok (.istore_n 1, 1) := by decide +kernel
theorem dX11_laysTrades_2 : decode cX11_laysTrades 2 = .ok (.aload_n 0, 1) := by decide +kernel
theorem dX11_laysTrades_3 : decode cX11_laysTrades 3 = .ok (.iconst 0, 1) := by decide +kernel
theorem dX11_laysTrades_4 : decode cX11_laysTrades 4 = .ok (.putfield 366, 3) := by decide +kernel
theorem dX11_laysTrades_7 : decode cX11_laysTrades 7 = .ok (.aload_n 0, 1) := by decide +kernel
theorem dX11_laysTrades_8 : decode cX11_laysTrades 8 = .ok (.iconst 0, 1) := by decide +kernel
theorem dX11_laysTrades_9 : decode cX11_laysTrades 9 = .ok (.putfield 369, 3) := by decide +kernel
theorem dX11_laysTrades_12 : decode cX11_laysTrades 12 = .ok (.iconst 0, 1) := by decide +kernel
theorem dX11_laysTrades_13 : decode cX11_laysTrades 13 = .ok (.istore_n 2, 1) := by decide +kernel
theorem dX11_laysTrades_14 : decode cX11_laysTrades 14 = .ok (.iload_n 2, 1) := by decide +kernel
theorem dX11_laysTrades_15 : decode cX11_laysTrades 15 = .ok (.aload_n 0, 1) := by decide +kernel
theorem dX11_laysTrades_16 : decode cX11_laysTrades 16 = .ok (.getfield 7, 3) := by decide +kernel
theorem dX11_laysTrades_19 : decode cX11_laysTrades 19 = .ok (.sipush 231, 3) := by decide +kernel
theorem dX11_laysTrades_22 : decode cX11_laysTrades 22 = .ok (.iaload, 1) := by decide +kernel
theorem dX11_laysTrades_23 : decode cX11_laysTrades 23 = .ok (.if_icmp .ge 29, 3) := by decide +kernel
theorem dX11_laysTrades_26 : decode cX11_laysTrades 26 = .ok (.iload_n 1, 1) := by decide +kernel
theorem dX11_laysTrades_27 : decode cX11_laysTrades 27 = .ok (.aload_n 0, 1) := by decide +kernel
theorem dX11_laysTrades_28 : decode cX11_laysTrades 28 = .ok (.iload_n 2, 1) := by decide +kernel
theorem dX11_laysTrades_29 : decode cX11_laysTrades 29 = .ok (.iconst 4, 1) := by decide +kernel
theorem dX11_laysTrades_30 : decode cX11_laysTrades 30 = .ok (.invokevirtual 205, 3) := by decide +kernel
theorem dX11_laysTrades_33 : decode cX11_laysTrades 33 = .ok (.iconst (-1), 1) := by decide +kernel
theorem dX11_laysTrades_34 : decode cX11_laysTrades 34 = .ok (.if_icmp .ne 7, 3) := by decide +kernel
theorem dX11_laysTrades_37 : decode cX11_laysTrades 37 = .ok (.iconst 0, 1) := by decide +kernel
theorem dX11_laysTrades_38 : decode cX11_laysTrades 38 = .ok (.goto 6, 3) := by decide +kernel
theorem dX11_laysTrades_41 : decode cX11_laysTrades 41 = .ok (.iconst 1, 1) := by decide +kernel
theorem dX11_laysTrades_42 : decode cX11_laysTrades 42 = .ok (.iload_n 2, 1) := by decide +kernel
theorem dX11_laysTrades_43 : decode cX11_laysTrades 43 = .ok (.ishl, 1) := by decide +kernel
theorem dX11_laysTrades_44 : decode cX11_laysTrades 44 = .ok (.ior, 1) := by decide +kernel
theorem dX11_laysTrades_45 : decode cX11_laysTrades 45 = .ok (.istore_n 1, 1) := by decide +kernel
theorem dX11_laysTrades_46 : decode cX11_laysTrades 46 = .ok (.iinc 2 1, 3) := by decide +kernel
theorem dX11_laysTrades_49 : decode cX11_laysTrades 49 = .ok (.goto (-35), 3) := by decide +kernel
theorem dX11_laysTrades_52 : decode cX11_laysTrades 52 = .ok (.iload_n 1, 1) := by decide +kernel
theorem dX11_laysTrades_53 : decode cX11_laysTrades 53 = .ok (.ifCond .eq 123, 3) := by decide +kernel
theorem dX11_laysTrades_56 : decode cX11_laysTrades 56 = .ok (.iload_n 1, 1) := by decide +kernel
theorem dX11_laysTrades_57 : decode cX11_laysTrades 57 = .ok (.invokestatic 372, 3) := by decide +kernel
theorem dX11_laysTrades_60 : decode cX11_laysTrades 60 = .ok (.istore_n 2, 1) := by decide +kernel
theorem dX11_laysTrades_61 : decode cX11_laysTrades 61 = .ok (.iconst 0, 1) := by decide +kernel
theorem dX11_laysTrades_62 : decode cX11_laysTrades 62 = .ok (.istore_n 3, 1) := by decide +kernel
theorem dX11_laysTrades_63 : decode cX11_laysTrades 63 = .ok (.iload_n 3, 1) := by decide +kernel
theorem dX11_laysTrades_64 : decode cX11_laysTrades 64 = .ok (.bipush 8, 2) := by decide +kernel
theorem dX11_laysTrades_66 : decode cX11_laysTrades 66 = .ok (.if_icmp .ge 21, 3) := by decide +kernel
theorem dX11_laysTrades_69 : decode cX11_laysTrades 69 = .ok (.aload_n 0, 1) := by decide +kernel
theorem dX11_laysTrades_70 : decode cX11_laysTrades 70 = .ok (.aload_n 0, 1) := by decide +kernel
theorem dX11_laysTrades_71 : decode cX11_laysTrades 71 = .ok (.iload_n 2, 1) := by decide +kernel
theorem dX11_laysTrades_72 : decode cX11_laysTrades 72 = .ok (.iload_n 1, 1) := by decide +kernel
theorem dX11_laysTrades_73 : decode cX11_laysTrades 73 = .ok (.invokevirtual 377, 3) := by decide +kernel
theorem dX11_laysTrades_76 : decode cX11_laysTrades 76 = .ok (.iconst 2, 1) := by decide +kernel
theorem dX11_laysTrades_77 : decode cX11_laysTrades 77 = .ok (.invokevirtual 202, 3) := by decide +kernel
theorem dX11_laysTrades_80 : decode cX11_laysTrades 80 = .ok (.istore_n 2, 1) := by decide +kernel
theorem dX11_laysTrades_81 : decode cX11_laysTrades 81 = .ok (.iinc 3 1, 3) := by decide +kernel
theorem dX11_laysTrades_84 : decode cX11_laysTrades 84 = .ok (.goto (-21), 3) := by decide +kernel
theorem dX11_laysTrades_87 : decode cX11_laysTrades 87 = .ok (.iconst 0, 1) := by decide +kernel
theorem dX11_laysTrades_88 : decode cX11_laysTrades 88 = .ok (.istore_n 3, 1) := by decide +kernel
theorem dX11_laysTrades_89 : decode cX11_laysTrades 89 = .ok (.iload_n 3, 1) := by decide +kernel
theorem dX11_laysTrades_90 : decode cX11_laysTrades 90 = .ok (.iload_n 2, 1) := by decide +kernel
theorem dX11_laysTrades_91 : decode cX11_laysTrades 91 = .ok (.ishr, 1) := by decide +kernel
theorem dX11_laysTrades_92 : decode cX11_laysTrades 92 = .ok (.iconst 1, 1) := by decide +kernel
theorem dX11_laysTrades_93 : decode cX11_laysTrades 93 = .ok (.iand, 1) := by decide +kernel
theorem dX11_laysTrades_94 : decode cX11_laysTrades 94 = .ok (.ifCond .ne 36, 3) := by decide +kernel
theorem dX11_laysTrades_97 : decode cX11_laysTrades 97 = .ok (.iload_n 3, 1) := by decide +kernel
theorem dX11_laysTrades_98 : decode cX11_laysTrades 98 = .ok (.iconst 1, 1) := by decide +kernel
theorem dX11_laysTrades_99 : decode cX11_laysTrades 99 = .ok (.iload_n 2, 1) := by decide +kernel
theorem dX11_laysTrades_100 : decode cX11_laysTrades 100 = .ok (.ishl, 1) := by decide +kernel
theorem dX11_laysTrades_101 : decode cX11_laysTrades 101 = .ok (.ior, 1) := by decide +kernel
theorem dX11_laysTrades_102 : decode cX11_laysTrades 102 = .ok (.istore_n 3, 1) := by decide +kernel
theorem dX11_laysTrades_103 : decode cX11_laysTrades 103 = .ok (.aload_n 0, 1) := by decide +kernel
theorem dX11_laysTrades_104 : decode cX11_laysTrades 104 = .ok (.getfield 42, 3) := by decide +kernel
theorem dX11_laysTrades_107 : decode cX11_laysTrades 107 = .ok (.iload_n 2, 1) := by decide +kernel
theorem dX11_laysTrades_108 : decode cX11_laysTrades 108 = .ok (.aload_n 0, 1) := by decide +kernel
theorem dX11_laysTrades_109 : decode cX11_laysTrades 109 = .ok (.iload_n 2, 1) := by decide +kernel
theorem dX11_laysTrades_110 : decode cX11_laysTrades 110 = .ok (.iload_n 1, 1) := by decide +kernel
theorem dX11_laysTrades_111 : decode cX11_laysTrades 111 = .ok (.invokevirtual 377, 3) := by decide +kernel
theorem dX11_laysTrades_114 : decode cX11_laysTrades 114 = .ok (.iastore, 1) := by decide +kernel
theorem dX11_laysTrades_115 : decode cX11_laysTrades 115 = .ok (.aload_n 0, 1) := by decide +kernel
theorem dX11_laysTrades_116 : decode cX11_laysTrades 116 = .ok (.aload_n 0, 1) := by decide +kernel
theorem dX11_laysTrades_117 : decode cX11_laysTrades 117 = .ok (.getfield 42, 3) := by decide +kernel
theorem dX11_laysTrades_120 : decode cX11_laysTrades 120 = .ok (.iload_n 2, 1) := by decide +kernel
theorem dX11_laysTrades_121 : decode cX11_laysTrades 121 = .ok (.iaload, 1) := by decide +kernel
theorem dX11_laysTrades_122 : decode cX11_laysTrades 122 = .ok (.iconst 2, 1) := by decide +kernel
theorem dX11_laysTrades_123 : decode cX11_laysTrades 123 = .ok (.invokevirtual 202, 3) := by decide +kernel
theorem dX11_laysTrades_126 : decode cX11_laysTrades 126 = .ok (.istore_n 2, 1) := by decide +kernel
theorem dX11_laysTrades_127 : decode cX11_laysTrades 127 = .ok (.goto (-38), 3) := by decide +kernel
theorem dX11_laysTrades_130 : decode cX11_laysTrades 130 = .ok (.aload_n 0, 1) := by decide +kernel
theorem dX11_laysTrades_131 : decode cX11_laysTrades 131 = .ok (.dup, 1) := by decide +kernel
theorem dX11_laysTrades_132 : decode cX11_laysTrades 132 = .ok (.getfield 366, 3) := by decide +kernel
theorem dX11_laysTrades_135 : decode cX11_laysTrades 135 = .ok (.iload_n 3, 1) := by decide +kernel
theorem dX11_laysTrades_136 : decode cX11_laysTrades 136 = .ok (.invokestatic 222, 3) := by decide +kernel
theorem dX11_laysTrades_139 : decode cX11_laysTrades 139 = .ok (.iconst 1, 1) := by decide +kernel
theorem dX11_laysTrades_140 : decode cX11_laysTrades 140 = .ok (.if_icmp .le 7, 3) := by decide +kernel
theorem dX11_laysTrades_143 : decode cX11_laysTrades 143 = .ok (.iconst 1, 1) := by decide +kernel
theorem dX11_laysTrades_144 : decode cX11_laysTrades 144 = .ok (.goto 4, 3) := by decide +kernel
theorem dX11_laysTrades_147 : decode cX11_laysTrades 147 = .ok (.iconst 0, 1) := by decide +kernel
theorem dX11_laysTrades_148 : decode cX11_laysTrades 148 = .ok (.iadd, 1) := by decide +kernel
theorem dX11_laysTrades_149 : decode cX11_laysTrades 149 = .ok (.putfield 366, 3) := by decide +kernel
theorem dX11_laysTrades_152 : decode cX11_laysTrades 152 = .ok (.aload_n 0, 1) := by decide +kernel
theorem dX11_laysTrades_153 : decode cX11_laysTrades 153 = .ok (.aload_n 0, 1) := by decide +kernel
theorem dX11_laysTrades_154 : decode cX11_laysTrades 154 = .ok (.getfield 369, 3) := by decide +kernel
theorem dX11_laysTrades_157 : decode cX11_laysTrades 157 = .ok (.iload_n 3, 1) := by decide +kernel
theorem dX11_laysTrades_158 : decode cX11_laysTrades 158 = .ok (.invokestatic 222, 3) := by decide +kernel
theorem dX11_laysTrades_161 : decode cX11_laysTrades 161 = .ok (.invokestatic 211, 3) := by decide +kernel
theorem dX11_laysTrades_164 : decode cX11_laysTrades 164 = .ok (.putfield 369, 3) := by decide +kernel
theorem dX11_laysTrades_167 : decode cX11_laysTrades 167 = .ok (.iload_n 1, 1) := by decide +kernel
theorem dX11_laysTrades_168 : decode cX11_laysTrades 168 = .ok (.iload_n 3, 1) := by decide +kernel
theorem dX11_laysTrades_169 : decode cX11_laysTrades 169 = .ok (.iconst (-1), 1) := by decide +kernel
theorem dX11_laysTrades_170 : decode cX11_laysTrades 170 = .ok (.ixor, 1) := by decide +kernel
theorem dX11_laysTrades_171 : decode cX11_laysTrades 171 = .ok (.iand, 1) := by decide +kernel
theorem dX11_laysTrades_172 : decode cX11_laysTrades 172 = .ok (.istore_n 1, 1) := by decide +kernel
theorem dX11_laysTrades_173 : decode cX11_laysTrades 173 = .ok (.goto (-121), 3) := by decide +kernel
theorem dX11_laysTrades_176 : decode cX11_laysTrades 176 = .ok (.return_, 1) := by decide +kernel
theorem dX11_trade_0 : decode cX11_trade 0 = .ok (.aload_n 0, 1) := by decide +kernel
theorem dX11_trade_1 : decode cX11_trade 1 = .ok (.iload_n 1, 1) := by decide +kernel
theorem dX11_trade_2 : decode cX11_trade 2 = .ok (.invokevirtual 244, 3) := by decide +kernel
theorem dX11_trade_5 : decode cX11_trade 5 = .ok (.ifCond .ne 9, 3) := by decide +kernel
theorem dX11_trade_8 : decode cX11_trade 8 = .ok (.aload_n 0, 1) := by decide +kernel
theorem dX11_trade_9 : decode cX11_trade 9 = .ok (.iconst 2, 1) := by decide +kernel
theorem dX11_trade_10 : decode cX11_trade 10 = .ok (.invokevirtual 186, 3) := by decide +kernel
theorem dX11_trade_13 : decode cX11_trade 13 = .ok (.ireturn, 1) := by decide +kernel
theorem dX11_trade_14 : decode cX11_trade 14 = .ok (.aload_n 0, 1) := by decide +kernel
theorem dX11_trade_15 : decode cX11_trade 15 = .ok (.iload_n 1, 1) := by decide +kernel
theorem dX11_trade_16 : decode cX11_trade 16 = .ok (.iconst 4, 1) := by decide +kernel
theorem dX11_trade_17 : decode cX11_trade 17 = .ok (.invokevirtual 205, 3) := by decide +kernel
theorem dX11_trade_20 : decode cX11_trade 20 = .ok (.iconst (-1), 1) := by decide +kernel
theorem dX11_trade_21 : decode cX11_trade 21 = .ok (.if_icmp .ne 9, 3) := by decide +kernel
theorem dX11_trade_24 : decode cX11_trade 24 = .ok (.aload_n 0, 1) := by decide +kernel
theorem dX11_trade_25 : decode cX11_trade 25 = .ok (.iconst 5, 1) := by decide +kernel
theorem dX11_trade_26 : decode cX11_trade 26 = .ok (.invokevirtual 186, 3) := by decide +kernel
theorem dX11_trade_29 : decode cX11_trade 29 = .ok (.ireturn, 1) := by decide +kernel
theorem dX11_trade_30 : decode cX11_trade 30 = .ok (.aload_n 0, 1) := by decide +kernel
theorem dX11_trade_31 : decode cX11_trade 31 = .ok (.invokevirtual 380, 3) := by decide +kernel
theorem dX11_trade_34 : decode cX11_trade 34 = .ok (.aload_n 0, 1) := by decide +kernel
theorem dX11_trade_35 : decode cX11_trade 35 = .ok (.aload_n 0, 1) := by decide +kernel
theorem dX11_trade_36 : decode cX11_trade 36 = .ok (.getfield 42, 3) := by decide +kernel
theorem dX11_trade_39 : decode cX11_trade 39 = .ok (.iload_n 1, 1) := by decide +kernel
theorem dX11_trade_40 : decode cX11_trade 40 = .ok (.iaload, 1) := by decide +kernel
theorem dX11_trade_41 : decode cX11_trade 41 = .ok (.invokevirtual 199, 3) := by decide +kernel
theorem dX11_trade_44 : decode cX11_trade 44 = .ok (.ireturn, 1) := by decide +kernel
theorem dX11_trades_0 : decode cX11_trades 0 = .ok (.iload_n 1, 1) := by decide +kernel
theorem dX11_trades_1 : decode cX11_trades 1 = .ok (.iconst 0, 1) := by decide +kernel
theorem dX11_trades_2 : decode cX11_trades 2 = .ok (.iconst 2, 1) := by decide +kernel
theorem dX11_trades_3 : decode cX11_trades 3 = .ok (.invokestatic 71, 3) := by decide +kernel
theorem dX11_trades_6 : decode cX11_trades 6 = .ok (.ifCond .ne 9, 3) := by decide +kernel
theorem dX11_trades_9 : decode cX11_trades 9 = .ok (.aload_n 0, 1) := by decide +kernel
theorem dX11_trades_10 : decode cX11_trades 10 = .ok (.iconst 1, 1) := by decide +kernel
theorem dX11_trades_11 : decode cX11_trades 11 = .ok (.invokevirtual 186, 3) := by decide +kernel
theorem dX11_trades_14 : decode cX11_trades 14 = .ok (.ireturn, 1) := by decide +kernel
theorem dX11_trades_15 : decode cX11_trades 15 = .ok (.aload_n 0, 1) := by decide +kernel
theorem dX11_trades_16 : decode cX11_trades 16 = .ok (.invokevirtual 380, 3) := by decide +kernel
theorem dX11_trades_19 : decode cX11_trades 19 = .ok (.iload_n 1, 1) := by decide +kernel
theorem dX11_trades_20 : decode cX11_trades 20 = .ok (.ifCond .le 24, 3) := by decide +kernel
theorem dX11_trades_23 : decode cX11_trades 23 = .ok (.aload_n 0, 1) := by decide +kernel
theorem dX11_trades_24 : decode cX11_trades 24 = .ok (.iload_n 1, 1) := by decide +kernel
theorem dX11_trades_25 : decode cX11_trades 25 = .ok (.iconst 1, 1) := by decide +kernel
theorem dX11_trades_26 : decode cX11_trades 26 = .ok (.if_icmp .ne 10, 3) := by decide +kernel
theorem dX11_trades_29 : decode cX11_trades 29 = .ok (.aload_n 0, 1) := by decide +kernel
theorem dX11_trades_30 : decode cX11_trades 30 = .ok (.getfield 366, 3) := by decide +kernel
theorem dX11_trades_33 : decode cX11_trades 33 = .ok (.goto 7, 3) := by decide +kernel
theorem dX11_trades_36 : decode cX11_trades 36 = .ok (.aload_n 0, 1) := by decide +kernel
theorem dX11_trades_37 : decode cX11_trades 37 = .ok (.getfield 369, 3) := by decide +kernel
theorem dX11_trades_40 : decode cX11_trades 40 = .ok (.invokevirtual 199, 3) := by decide +kernel
theorem dX11_trades_43 : decode cX11_trades 43 = .ok (.ireturn, 1) := by decide +kernel
theorem dX11_trades_44 : decode cX11_trades 44 = .ok (.iconst 0, 1) := by decide +kernel
theorem dX11_trades_45 : decode cX11_trades 45 = .ok (.istore_n 2, 1) := by decide +kernel
theorem dX11_trades_46 : decode cX11_trades 46 = .ok (.iconst 0, 1) := by decide +kernel
theorem dX11_trades_47 : decode cX11_trades 47 = .ok (.istore_n 3, 1) := by decide +kernel
theorem dX11_trades_48 : decode cX11_trades 48 = .ok (.iload_n 3, 1) := by decide +kernel
theorem dX11_trades_49 : decode cX11_trades 49 = .ok (.aload_n 0, 1) := by decide +kernel
theorem dX11_trades_50 : decode cX11_trades 50 = .ok (.getfield 7, 3) := by decide +kernel
theorem dX11_trades_53 : decode cX11_trades 53 = .ok (.sipush 231, 3) := by decide +kernel
theorem dX11_trades_56 : decode cX11_trades 56 = .ok (.iaload, 1) := by decide +kernel
theorem dX11_trades_57 : decode cX11_trades 57 = .ok (.if_icmp .ge 42, 3) := by decide +kernel
theorem dX11_trades_60 : decode cX11_trades 60 = .ok (.iload_n 2, 1) := by decide +kernel
theorem dX11_trades_61 : decode cX11_trades 61 = .ok (.aload_n 0, 1) := by decide +kernel
theorem dX11_trades_62 : decode cX11_trades 62 = .ok (.iload_n 3, 1) := by decide +kernel
theorem dX11_trades_63 : decode cX11_trades 63 = .ok (.iconst 4, 1) := by decide +kernel
theorem dX11_trades_64 : decode cX11_trades 64 = .ok (.invokevirtual 205, 3) := by decide +kernel
theorem dX11_trades_67 : decode cX11_trades 67 = .ok (.iconst (-1), 1) := by decide +kernel
theorem dX11_trades_68 : decode cX11_trades 68 = .ok (.if_icmp .eq 22, 3) := by decide +kernel
theorem dX11_trades_71 : decode cX11_trades 71 = .ok (.aload_n 0, 1) := by decide +kernel
theorem dX11_trades_72 : decode cX11_trades 72 = .ok (.getfield 42, 3) := by decide +kernel
theorem dX11_trades_75 : decode cX11_trades 75 = .ok (.iload_n 3, 1) := by decide +kernel
theorem dX11_trades_76 : decode cX11_trades 76 = .ok (.iaload, 1) := by decide +kernel
theorem dX11_trades_77 : decode cX11_trades 77 = .ok (.aload_n 0, 1) := by decide +kernel
theorem dX11_trades_78 : decode cX11_trades 78 = .ok (.iload_n 3, 1) := by decide +kernel
theorem dX11_trades_79 : decode cX11_trades 79 = .ok (.iconst 4, 1) := by decide +kernel
theorem dX11_trades_80 : decode cX11_trades 80 = .ok (.invokevirtual 205, 3) := by decide +kernel
theorem dX11_trades_83 : decode cX11_trades 83 = .ok (.if_icmp .eq 7, 3) := by decide +kernel
theorem dX11_trades_86 : decode cX11_trades 86 = .ok (.iconst 1, 1) := by decide +kernel
theorem dX11_trades_87 : decode cX11_trades 87 = .ok (.goto 4, 3) := by decide +kernel
theorem dX11_trades_90 : decode cX11_trades 90 = .ok (.iconst 0, 1) := by decide +kernel
theorem dX11_trades_91 : decode cX11_trades 91 = .ok (.iadd, 1) := by decide +kernel
theorem dX11_trades_92 : decode cX11_trades 92 = .ok (.istore_n 2, 1) := by decide +kernel
theorem dX11_trades_93 : decode cX11_trades 93 = .ok (.iinc 3 1, 3) := by decide +kernel
theorem dX11_trades_96 : decode cX11_trades 96 = .ok (.goto (-48), 3) := by decide +kernel
theorem dX11_trades_99 : decode cX11_trades 99 = .ok (.aload_n 0, 1) := by decide +kernel
theorem dX11_trades_100 : decode cX11_trades 100 = .ok (.iload_n 2, 1) := by decide +kernel
theorem dX11_trades_101 : decode cX11_trades 101 = .ok (.invokevirtual 199, 3) := by decide +kernel
theorem dX11_trades_104 : decode cX11_trades 104 = .ok (.ireturn, 1) := by decide +kernel
theorem dX11_movesOn_0 : decode cX11_movesOn 0 = .ok (.iconst 0, 1) := by decide +kernel
theorem dX11_movesOn_1 : decode cX11_movesOn 1 = .ok (.istore 4, 2) := by decide +kernel
theorem dX11_movesOn_3 : decode cX11_movesOn 3 = .ok (.iload 4, 2) := by decide +kernel
theorem dX11_movesOn_5 : decode cX11_movesOn 5 = .ok (.aload_n 0, 1) := by decide +kernel
theorem dX11_movesOn_6 : decode cX11_movesOn 6 = .ok (.getfield 7, 3) := by decide +kernel
theorem dX11_movesOn_9 : decode cX11_movesOn 9 = .ok (.sipush 231, 3) := by decide +kernel
theorem dX11_movesOn_12 : decode cX11_movesOn 12 = .ok (.iaload, 1) := by decide +kernel
theorem dX11_movesOn_13 : decode cX11_movesOn 13 = .ok (.if_icmp .ge 138, 3) := by decide +kernel
theorem dX11_movesOn_16 : decode cX11_movesOn 16 = .ok (.iload_n 3, 1) := by decide +kernel
theorem dX11_movesOn_17 : decode cX11_movesOn 17 = .ok (.iload 4, 2) := by decide +kernel
theorem dX11_movesOn_19 : decode cX11_movesOn 19 = .ok (.ishr, 1) := by decide +kernel
theorem dX11_movesOn_20 : decode cX11_movesOn 20 = .ok (.iconst 1, 1) := by decide +kernel
theorem dX11_movesOn_21 : decode cX11_movesOn 21 = .ok (.iand, 1) := by decide +kernel
theorem dX11_movesOn_22 : decode cX11_movesOn 22 = .ok (.iconst 1, 1) := by decide +kernel
theorem dX11_movesOn_23 : decode cX11_movesOn 23 = .ok (.if_icmp .eq 122, 3) := by decide +kernel
theorem dX11_movesOn_26 : decode cX11_movesOn 26 = .ok (.aload_n 0, 1) := by decide +kernel
theorem dX11_movesOn_27 : decode cX11_movesOn 27 = .ok (.iload 4, 2) := by decide +kernel
theorem dX11_movesOn_29 : decode cX11_movesOn 29 = .ok (.iload_n 1, 1) := by decide +kernel
theorem dX11_movesOn_30 : decode cX11_movesOn 30 = .ok (.invokevirtual 337, 3) := by decide +kernel
theorem dX11_movesOn_33 : decode cX11_movesOn 33 = .ok (.ifCond .ne 6, 3) := by decide +kernel
theorem dX11_movesOn_36 : decode cX11_movesOn 36 = .ok (.goto 109, 3) := by decide +kernel
theorem dX11_movesOn_39 : decode cX11_movesOn 39 = .ok (.aload_n 0, 1) := by decide +kernel
theorem dX11_movesOn_40 : decode cX11_movesOn 40 = .ok (.getfield 45, 3) := by decide +kernel
theorem dX11_movesOn_43 : decode cX11_movesOn 43 = .ok (.iload_n 2, 1) := by decide +kernel
theorem dX11_movesOn_44 : decode cX11_movesOn 44 = .ok (.iload 4, 2) := by decide +kernel
theorem dX11_movesOn_46 : decode cX11_movesOn 46 = .ok (.iastore, 1) := by decide +kernel
theorem dX11_movesOn_47 : decode cX11_movesOn 47 = .ok (.aload_n 0, 1) := by decide +kernel
theorem dX11_movesOn_48 : decode cX11_movesOn 48 = .ok (.getfield 48, 3) := by decide +kernel
theorem dX11_movesOn_51 : decode cX11_movesOn 51 = .ok (.iload_n 2, 1) := by decide +kernel
theorem dX11_movesOn_52 : decode cX11_movesOn 52 = .ok (.iload_n 1, 1) := by decide +kernel
theorem dX11_movesOn_53 : decode cX11_movesOn 53 = .ok (.iastore, 1) := by decide +kernel
theorem dX11_movesOn_54 : decode cX11_movesOn 54 = .ok (.iload_n 2, 1) := by decide +kernel
theorem dX11_movesOn_55 : decode cX11_movesOn 55 = .ok (.iconst 1, 1) := by decide +kernel
theorem dX11_movesOn_56 : decode cX11_movesOn 56 = .ok (.iadd, 1) := by decide +kernel
theorem dX11_movesOn_57 : decode cX11_movesOn 57 = .ok (.aload_n 0, 1) := by decide +kernel
theorem dX11_movesOn_58 : decode cX11_movesOn 58 = .ok (.getfield 383, 3) := by decide +kernel
theorem dX11_movesOn_61 : decode cX11_movesOn 61 = .ok (.if_icmp .le 53, 3) := by decide +kernel
theorem dX11_movesOn_64 : decode cX11_movesOn 64 = .ok (.aload_n 0, 1) := by decide +kernel
theorem dX11_movesOn_65 : decode cX11_movesOn 65 = .ok (.iload_n 2, 1) := by decide +kernel
theorem dX11_movesOn_66 : decode cX11_movesOn 66 = .ok (.iconst 1, 1) := by decide +kernel
theorem dX11_movesOn_67 : decode cX11_movesOn 67 = .ok (.iadd, 1) := by decide +kernel
theorem dX11_movesOn_68 : decode cX11_movesOn 68 = .ok (.putfield 383, 3) := by decide +kernel
theorem dX11_movesOn_71 : decode cX11_movesOn 71 = .ok (.iconst 0, 1) := by decide +kernel
theorem dX11_movesOn_72 : decode cX11_movesOn 72 = .ok (.istore 5, 2) := by decide +kernel
theorem dX11_movesOn_74 : decode cX11_movesOn 74 = .ok (.iload 5, 2) := by decide +kernel
theorem dX11_movesOn_76 : decode cX11_movesOn 76 = .ok (.iload_n 2, 1) := by decide +kernel
theorem dX11_movesOn_77 : decode cX11_movesOn 77 = .ok (.if_icmp .gt 37, 3) := by decide +kernel
theorem dX11_movesOn_80 : decode cX11_movesOn 80 = .ok (.aload_n 0, 1) := by decide +kernel
theorem dX11_movesOn_81 : decode cX11_movesOn 81 = .ok (.getfield 51, 3) := by decide +kernel
theorem dX11_movesOn_84 : decode cX11_movesOn 84 = .ok (.iload 5, 2) := by decide +kernel
theorem dX11_movesOn_86 : decode cX11_movesOn 86 = .ok (.aload_n 0, 1) := by decide +kernel
theorem dX11_movesOn_87 : decode cX11_movesOn 87 = .ok (.getfield 45, 3) := by decide +kernel
theorem dX11_movesOn_90 : decode cX11_movesOn 90 = .ok (.iload 5, 2) := by decide +kernel
theorem dX11_movesOn_92 : decode cX11_movesOn 92 = .ok (.iaload, 1) := by decide +kernel
theorem dX11_movesOn_93 : decode cX11_movesOn 93 = .ok (.iastore, 1) := by decide +kernel
theorem dX11_movesOn_94 : decode cX11_movesOn 94 = .ok (.aload_n 0, 1) := by decide +kernel
theorem dX11_movesOn_95 : decode cX11_movesOn 95 = .ok (.getfield 54, 3) := by decide +kernel
theorem dX11_movesOn_98 : decode cX11_movesOn 98 = .ok (.iload 5, 2) := by decide +kernel
theorem dX11_movesOn_100 : decode cX11_movesOn 100 = .ok (.aload_n 0, 1) := by decide +kernel
theorem dX11_movesOn_101 : decode cX11_movesOn 101 = .ok (.getfield 48, 3) := by decide +kernel
theorem dX11_movesOn_104 : decode cX11_movesOn 104 = .ok (.iload 5, 2) := by decide +kernel
theorem dX11_movesOn_106 : decode cX11_movesOn 106 = .ok (.iaload, 1) := by decide +kernel
theorem dX11_movesOn_107 : decode cX11_movesOn 107 = .ok (.iastore, 1) := by decide +kernel
theorem dX11_movesOn_108 : decode cX11_movesOn 108 = .ok (.iinc 5 1, 3) := by decide +kernel
theorem dX11_movesOn_111 : decode cX11_movesOn 111 = .ok (.goto (-37), 3) := by decide +kernel
theorem dX11_movesOn_114 : decode cX11_movesOn 114 = .ok (.aload_n 0, 1) := by decide +kernel
theorem dX11_movesOn_115 : decode cX11_movesOn 115 = .ok (.iload 4, 2) := by decide +kernel
theorem dX11_movesOn_117 : decode cX11_movesOn 117 = .ok (.iconst 4, 1) := by decide +kernel
theorem dX11_movesOn_118 : decode cX11_movesOn 118 = .ok (.invokevirtual 205, 3) := by decide +kernel
theorem dX11_movesOn_121 : decode cX11_movesOn 121 = .ok (.iconst (-1), 1) := by decide +kernel
theorem dX11_movesOn_122 : decode cX11_movesOn 122 = .ok (.if_icmp .eq 23, 3) := by decide +kernel
theorem dX11_movesOn_125 : decode cX11_movesOn 125 = .ok (.aload_n 0, 1) := by decide +kernel
theorem dX11_movesOn_126 : decode cX11_movesOn 126 = .ok (.aload_n 0, 1) := by decide +kernel
theorem dX11_movesOn_127 : decode cX11_movesOn 127 = .ok (.iload 4, 2) := by decide +kernel
theorem dX11_movesOn_129 : decode cX11_movesOn 129 = .ok (.iconst 4, 1) := by decide +kernel
theorem dX11_movesOn_130 : decode cX11_movesOn 130 = .ok (.invokevirtual 205, 3) := by decide +kernel
theorem dX11_movesOn_133 : decode cX11_movesOn 133 = .ok (.iload_n 2, 1) := by decide +kernel
theorem dX11_movesOn_134 : decode cX11_movesOn 134 = .ok (.iconst 1, 1) := by decide +kernel
theorem dX11_movesOn_135 : decode cX11_movesOn 135 = .ok (.iadd, 1) := by decide +kernel
theorem dX11_movesOn_136 : decode cX11_movesOn 136 = .ok (.iload_n 3, 1) := by decide +kernel
theorem dX11_movesOn_137 : decode cX11_movesOn 137 = .ok (.iconst 1, 1) := by decide +kernel
theorem dX11_movesOn_138 : decode cX11_movesOn 138 = .ok (.iload 4, 2) := by decide +kernel
theorem dX11_movesOn_140 : decode cX11_movesOn 140 = .ok (.ishl, 1) := by decide +kernel
theorem dX11_movesOn_141 : decode cX11_movesOn 141 = .ok (.ior, 1) := by decide +kernel
theorem dX11_movesOn_142 : decode cX11_movesOn 142 = .ok (.invokevirtual 386, 3) := by decide +kernel
theorem dX11_movesOn_145 : decode cX11_movesOn 145 = .ok (.iinc 4 1, 3) := by decide +kernel
theorem dX11_movesOn_148 : decode cX11_movesOn 148 = .ok (.goto (-145), 3) := by decide +kernel
theorem dX11_movesOn_151 : decode cX11_movesOn 151 = .ok (.return_, 1) := by decide +kernel
theorem dX11_longest_0 : decode cX11_longest 0 = .ok (.iload_n 1, 1) := by decide +kernel
theorem dX11_longest_1 : decode cX11_longest 1 = .ok (.iconst (-1), 1) := by decide +kernel
theorem dX11_longest_2 : decode cX11_longest 2 = .ok (.if_icmp .ge 9, 3) := by decide +kernel
theorem dX11_longest_5 : decode cX11_longest 5 = .ok (.aload_n 0, 1) := by decide +kernel
theorem dX11_longest_6 : decode cX11_longest 6 = .ok (.iconst 1, 1) := by decide +kernel
theorem dX11_longest_7 : decode cX11_longest 7 = .ok (.invokevirtual 186, 3) := by decide +kernel
theorem dX11_longest_10 : decode cX11_longest 10 = .ok (.ireturn, 1) := by decide +kernel
theorem dX11_longest_11 : decode cX11_longest 11 = .ok (.aload_n 0, 1) := by decide +kernel
theorem dX11_longest_12 : decode cX11_longest 12 = .ok (.iconst 0, 1) := by decide +kernel
theorem dX11_longest_13 : decode cX11_longest 13 = .ok (.putfield 383, 3) := by decide +kernel
theorem dX11_longest_16 : decode cX11_longest 16 = .ok (.iconst 0, 1) := by decide +kernel
theorem dX11_longest_17 : decode cX11_longest 17 = .ok (.istore_n 3, 1) := by decide +kernel
theorem dX11_longest_18 : decode cX11_longest 18 = .ok (.iload_n 3, 1) := by decide +kernel
theorem dX11_longest_19 : decode cX11_longest 19 = .ok (.aload_n 0, 1) := by decide +kernel
theorem dX11_longest_20 : decode cX11_longest 20 = .ok (.getfield 7, 3) := by decide +kernel
theorem dX11_longest_23 : decode cX11_longest 23 = .ok (.sipush 230, 3) := by decide +kernel
theorem dX11_longest_26 : decode cX11_longest 26 = .ok (.iaload, 1) := by decide +kernel
theorem dX11_longest_27 : decode cX11_longest 27 = .ok (.if_icmp .ge 24, 3) := by decide +kernel
theorem dX11_longest_30 : decode cX11_longest 30 = .ok (.aload_n 0, 1) := by decide +kernel
theorem dX11_longest_31 : decode cX11_longest 31 = .ok (.iload_n 3, 1) := by decide +kernel
theorem dX11_longest_32 : decode cX11_longest 32 = .ok (.invokevirtual 219, 3) := by decide +kernel
theorem dX11_longest_35 : decode cX11_longest 35 = .ok (.ifCond .eq 10, 3) := by decide +kernel
theorem dX11_longest_38 : decode cX11_longest 38 = .ok (.aload_n 0, 1) := by decide +kernel
theorem dX11_longest_39 : decode cX11_longest 39 = .ok (.iload_n 3, 1) := by decide +kernel
theorem dX11_longest_40 : decode cX11_longest 40 = .ok (.iconst 0, 1) := by decide +kernel
theorem dX11_longest_41 : decode cX11_longest 41 = .ok (.iconst 0, 1) := by decide +kernel
theorem dX11_longest_42 : decode cX11_longest 42 = .ok (.invokevirtual 386, 3) := by decide +kernel
theorem dX11_longest_45 : decode cX11_longest 45 = .ok (.iinc 3 1, 3) := by decide +kernel
theorem dX11_longest_48 : decode cX11_longest 48 = .ok (.goto (-30), 3) := by decide +kernel
theorem dX11_longest_51 : decode cX11_longest 51 = .ok (.iload_n 1, 1) := by decide +kernel
theorem dX11_longest_52 : decode cX11_longest 52 = .ok (.iconst (-1), 1) := by decide +kernel
theorem dX11_longest_53 : decode cX11_longest 53 = .ok (.if_icmp .ne 12, 3) := by decide +kernel
theorem dX11_longest_56 : decode cX11_longest 56 = .ok (.aload_n 0, 1) := by decide +kernel
theorem dX11_longest_57 : decode cX11_longest 57 = .ok (.aload_n 0, 1) := by decide +kernel
theorem dX11_longest_58 : decode cX11_longest 58 = .ok (.getfield 383, 3) := by decide +kernel
theorem dX11_longest_61 : decode cX11_longest 61 = .ok (.invokevirtual 199, 3) := by decide +kernel
theorem dX11_longest_64 : decode cX11_longest 64 = .ok (.ireturn, 1) := by decide +kernel
theorem dX11_longest_65 : decode cX11_longest 65 = .ok (.iload_n 1, 1) := by decide +kernel
theorem dX11_longest_66 : decode cX11_longest 66 = .ok (.aload_n 0, 1) := by decide +kernel
theorem dX11_longest_67 : decode cX11_longest 67 = .ok (.getfield 383, 3) := by decide +kernel
theorem dX11_longest_70 : decode cX11_longest 70 = .ok (.if_icmp .ge 29, 3) := by decide +kernel
theorem dX11_longest_73 : decode cX11_longest 73 = .ok (.aload_n 0, 1) := by decide +kernel
theorem dX11_longest_74 : decode cX11_longest 74 = .ok (.iload_n 2, 1) := by decide +kernel
theorem dX11_longest_75 : decode cX11_longest 75 = .ok (.ifCond .eq 12, 3) := by decide +kernel
theorem dX11_longest_78 : decode cX11_longest 78 = .ok (.aload_n 0, 1) := by decide +kernel
theorem dX11_longest_79 : decode cX11_longest 79 = .ok (.getfield 54, 3) := by decide +kernel
theorem dX11_longest_82 : decode cX11_longest 82 = .ok (.iload_n 1, 1) := by decide +kernel
theorem dX11_longest_83 : decode cX11_longest 83 = .ok (.iaload, 1) := by decide +kernel
theorem dX11_longest_84 : decode cX11_longest 84 = .ok (.goto 9, 3) := by decide +kernel
theorem dX11_longest_87 : decode cX11_longest 87 = .ok (.aload_n 0, 1) := by decide +kernel
theorem dX11_longest_88 : decode cX11_longest 88 = .ok (.getfield 51, 3) := by decide +kernel
theorem dX11_longest_91 : decode cX11_longest 91 = .ok (.iload_n 1, 1) := by decide +kernel
theorem dX11_longest_92 : decode cX11_longest 92 = .ok (.iaload, 1) := by decide +kernel
theorem dX11_longest_93 : decode cX11_longest 93 = .ok (.invokevirtual 199, 3) := by decide +kernel
theorem dX11_longest_96 : decode cX11_longest 96 = .ok (.goto 8, 3) := by decide +kernel
theorem dX11_longest_99 : decode cX11_longest 99 = .ok (.aload_n 0, 1) := by decide +kernel
theorem dX11_longest_100 : decode cX11_longest 100 = .ok (.iconst 5, 1) := by decide +kernel
theorem dX11_longest_101 : decode cX11_longest 101 = .ok (.invokevirtual 186, 3) := by decide +kernel
theorem dX11_longest_104 : decode cX11_longest 104 = .ok (.ireturn, 1) := by decide +kernel
theorem dX11_keeps_0 : decode cX11_keeps 0 = .ok (.aload_n 0, 1) := by decide +kernel
theorem dX11_keeps_1 : decode cX11_keeps 1 = .ok (.getfield 196, 3) := by decide +kernel
theorem dX11_keeps_4 : decode cX11_keeps 4 = .ok (.bipush 12, 2) := by decide +kernel
theorem dX11_keeps_6 : decode cX11_keeps 6 = .ok (.if_icmp .ne 46, 3) := by decide +kernel
theorem dX11_keeps_9 : decode cX11_keeps 9 = .ok (.sipush 390, 3) := by decide +kernel
theorem dX11_keeps_12 : decode cX11_keeps 12 = .ok (.istore_n 1, 1) := by decide +kernel
theorem dX11_keeps_13 : decode cX11_keeps 13 = .ok (.iload_n 1, 1) := by decide +kernel
theorem dX11_keeps_14 : decode cX11_keeps 14 = .ok (.sipush 4680, 3) := by decide +kernel
theorem dX11_keeps_17 : decode cX11_keeps 17 = .ok (.if_icmp .ge 25, 3) := by decide +kernel
theorem dX11_keeps_20 : decode cX11_keeps 20 = .ok (.aload_n 0, 1) := by decide +kernel
theorem dX11_keeps_21 : decode cX11_keeps 21 = .ok (.getfield 19, 3) := by decide +kernel
theorem dX11_keeps_24 : decode cX11_keeps 24 = .ok (.iload_n 1, 1) := by decide +kernel
theorem dX11_keeps_25 : decode cX11_keeps 25 = .ok (.sipush 390, 3) := by decide +kernel
theorem dX11_keeps_28 : decode cX11_keeps 28 = .ok (.isub, 1) := by decide +kernel
theorem dX11_keeps_29 : decode cX11_keeps 29 = .ok (.aload_n 0, 1) := by decide +kernel
theorem dX11_keeps_30 : decode cX11_keeps 30 = .ok (.getfield 19, 3) := by decide +kernel
theorem dX11_keeps_33 : decode cX11_keeps 33 = .ok (.iload_n 1, 1) := by decide +kernel
theorem dX11_keeps_34 : decode cX11_keeps 34 = .ok (.iaload, 1) := by decide +kernel
theorem dX11_keeps_35 : decode cX11_keeps 35 = .ok (.iastore, 1) := by decide +kernel
theorem dX11_keeps_36 : decode cX11_keeps 36 = .ok (.iinc 1 1, 3) := by decide +kernel
theorem dX11_keeps_39 : decode cX11_keeps 39 = .ok (.goto (-26), 3) := by decide +kernel
theorem dX11_keeps_42 : decode cX11_keeps 42 = .ok (.aload_n 0, 1) := by decide +kernel
theorem dX11_keeps_43 : decode cX11_keeps 43 = .ok (.dup, 1) := by decide +kernel
theorem dX11_keeps_44 : decode cX11_keeps 44 = .ok (.getfield 196, 3) := by decide +kernel
theorem dX11_keeps_47 : decode cX11_keeps 47 = .ok (.iconst 1, 1) := by decide +kernel
theorem dX11_keeps_48 : decode cX11_keeps 48 = .ok (.isub, 1) := by decide +kernel
theorem dX11_keeps_49 : decode cX11_keeps 49 = .ok (.putfield 196, 3) := by decide +kernel
theorem dX11_keeps_52 : decode cX11_keeps 52 = .ok (.iconst 0, 1) := by decide +kernel
theorem dX11_keeps_53 : decode cX11_keeps 53 = .ok (.istore_n 1, 1) := by decide +kernel
theorem dX11_keeps_54 : decode cX11_keeps 54 = .ok (.iload_n 1, 1) := by decide +kernel
theorem dX11_keeps_55 : decode cX11_keeps 55 = .ok (.sipush 390, 3) := by decide +kernel
theorem dX11_keeps_58 : decode cX11_keeps 58 = .ok (.if_icmp .ge 30, 3) := by decide +kernel
theorem dX11_keeps_61 : decode cX11_keeps 61 = .ok (.aload_n 0, 1) := by decide +kernel
theorem dX11_keeps_62 : decode cX11_keeps 62 = .ok (.getfield 19, 3) := by decide +kernel
theorem dX11_keeps_65 : decode cX11_keeps 65 = .ok (.sipush 390, 3) := by decide +kernel
theorem dX11_keeps_68 : decode cX11_keeps 68 = .ok (.aload_n 0, 1) := by decide +kernel
theorem dX11_keeps_69 : decode cX11_keeps 69 = .ok (.getfield 196, 3) := by decide +kernel
theorem dX11_keeps_72 : decode cX11_keeps 72 = .ok (.imul, 1) := by decide +kernel
theorem dX11_keeps_73 : decode cX11_keeps 73 = .ok (.iload_n 1, 1) := by decide +kernel
theorem dX11_keeps_74 : decode cX11_keeps 74 = .ok (.iadd, 1) := by decide +kernel
theorem dX11_keeps_75 : decode cX11_keeps 75 = .ok (.aload_n 0, 1) := by decide +kernel
theorem dX11_keeps_76 : decode cX11_keeps 76 = .ok (.getfield 7, 3) := by decide +kernel
theorem dX11_keeps_79 : decode cX11_keeps 79 = .ok (.iload_n 1, 1) := by decide +kernel
theorem dX11_keeps_80 : decode cX11_keeps 80 = .ok (.iaload, 1) := by decide +kernel
theorem dX11_keeps_81 : decode cX11_keeps 81 = .ok (.iastore, 1) := by decide +kernel
theorem dX11_keeps_82 : decode cX11_keeps 82 = .ok (.iinc 1 1, 3) := by decide +kernel
theorem dX11_keeps_85 : decode cX11_keeps 85 = .ok (.goto (-31), 3) := by decide +kernel
theorem dX11_keeps_88 : decode cX11_keeps 88 = .ok (.aload_n 0, 1) := by decide +kernel
theorem dX11_keeps_89 : decode cX11_keeps 89 = .ok (.dup, 1) := by decide +kernel
theorem dX11_keeps_90 : decode cX11_keeps 90 = .ok (.getfield 196, 3) := by decide +kernel
theorem dX11_keeps_93 : decode cX11_keeps 93 = .ok (.iconst 1, 1) := by decide +kernel
theorem dX11_keeps_94 : decode cX11_keeps 94 = .ok (.iadd, 1) := by decide +kernel
theorem dX11_keeps_95 : decode cX11_keeps 95 = .ok (.putfield 196, 3) := by decide +kernel
theorem dX11_keeps_98 : decode cX11_keeps 98 = .ok (.return_, 1) := by decide +kernel
theorem dX11_undo_0 : decode cX11_undo 0 = .ok (.aload_n 0, 1) := by decide +kernel
theorem dX11_undo_1 : decode cX11_undo 1 = .ok (.getfield 196, 3) := by decide +kernel
theorem dX11_undo_4 : decode cX11_undo 4 = .ok (.ifCond .ne 9, 3) := by decide +kernel
theorem dX11_undo_7 : decode cX11_undo 7 = .ok (.aload_n 0, 1) := by decide +kernel
theorem dX11_undo_8 : decode cX11_undo 8 = .ok (.iconst 5, 1) := by decide +kernel
theorem dX11_undo_9 : decode cX11_undo 9 = .ok (.invokevirtual 186, 3) := by decide +kernel
theorem dX11_undo_12 : decode cX11_undo 12 = .ok (.ireturn, 1) := by decide +kernel
theorem dX11_undo_13 : decode cX11_undo 13 = .ok (.aload_n 0, 1) := by decide +kernel
theorem dX11_undo_14 : decode cX11_undo 14 = .ok (.dup, 1) := by decide +kernel
theorem dX11_undo_15 : decode cX11_undo 15 = .ok (.getfield 196, 3) := by decide +kernel
theorem dX11_undo_18 : decode cX11_undo 18 = .ok (.iconst 1, 1) := by decide +kernel
theorem dX11_undo_19 : decode cX11_undo 19 = .ok (.isub, 1) := by decide +kernel
theorem dX11_undo_20 : decode cX11_undo 20 = .ok (.putfield 196, 3) := by decide +kernel
theorem dX11_undo_23 : decode cX11_undo 23 = .ok (.iconst 0, 1) := by decide +kernel
theorem dX11_undo_24 : decode cX11_undo 24 = .ok (.istore_n 1, 1) := by decide +kernel
theorem dX11_undo_25 : decode cX11_undo 25 = .ok (.iload_n 1, 1) := by decide +kernel
theorem dX11_undo_26 : decode cX11_undo 26 = .ok (.sipush 390, 3) := by decide +kernel
theorem dX11_undo_29 : decode cX11_undo 29 = .ok (.if_icmp .ge 30, 3) := by decide +kernel
theorem dX11_undo_32 : decode cX11_undo 32 = .ok (.aload_n 0, 1) := by decide +kernel
theorem dX11_undo_33 : decode cX11_undo 33 = .ok (.getfield 7, 3) := by decide +kernel
theorem dX11_undo_36 : decode cX11_undo 36 = .ok (.iload_n 1, 1) := by decide +kernel
theorem dX11_undo_37 : decode cX11_undo 37 = .ok (.aload_n 0, 1) := by decide +kernel
theorem dX11_undo_38 : decode cX11_undo 38 = .ok (.getfield 19, 3) := by decide +kernel
theorem dX11_undo_41 : decode cX11_undo 41 = .ok (.sipush 390, 3) := by decide +kernel
theorem dX11_undo_44 : decode cX11_undo 44 = .ok (.aload_n 0, 1) := by decide +kernel
theorem dX11_undo_45 : decode cX11_undo 45 = .ok (.getfield 196, 3) := by decide +kernel
theorem dX11_undo_48 : decode cX11_undo 48 = .ok (.imul, 1) := by decide +kernel
theorem dX11_undo_49 : decode cX11_undo 49 = .ok (.iload_n 1, 1) := by decide +kernel
theorem dX11_undo_50 : decode cX11_undo 50 = .ok (.iadd, 1) := by decide +kernel
theorem dX11_undo_51 : decode cX11_undo 51 = .ok (.iaload, 1) := by decide +kernel
theorem dX11_undo_52 : decode cX11_undo 52 = .ok (.iastore, 1) := by decide +kernel
theorem dX11_undo_53 : decode cX11_undo 53 = .ok (.iinc 1 1, 3) := by decide +kernel
theorem dX11_undo_56 : decode cX11_undo 56 = .ok (.goto (-31), 3) := by decide +kernel
theorem dX11_undo_59 : decode cX11_undo 59 = .ok (.aload_n 0, 1) := by decide +kernel
theorem dX11_undo_60 : decode cX11_undo 60 = .ok (.aload_n 0, 1) := by decide +kernel
theorem dX11_undo_61 : decode cX11_undo 61 = .ok (.getfield 196, 3) := by decide +kernel
theorem dX11_undo_64 : decode cX11_undo 64 = .ok (.invokevirtual 199, 3) := by decide +kernel
theorem dX11_undo_67 : decode cX11_undo 67 = .ok (.ireturn, 1) := by decide +kernel
theorem dX11_bid_0 : decode cX11_bid 0 = .ok (.aload_n 0, 1) := by decide +kernel
theorem dX11_bid_1 : decode cX11_bid 1 = .ok (.iload_n 1, 1) := by decide +kernel
theorem dX11_bid_2 : decode cX11_bid 2 = .ok (.iload_n 2, 1) := by decide +kernel
theorem dX11_bid_3 : decode cX11_bid 3 = .ok (.invokevirtual 253, 3) := by decide +kernel
theorem dX11_bid_6 : decode cX11_bid 6 = .ok (.ifCond .ne 9, 3) := by decide +kernel
theorem dX11_bid_9 : decode cX11_bid 9 = .ok (.aload_n 0, 1) := by decide +kernel
theorem dX11_bid_10 : decode cX11_bid 10 = .ok (.iconst 2, 1) := by decide +kernel
theorem dX11_bid_11 : decode cX11_bid 11 = .ok (.invokevirtual 186, 3) := by decide +kernel
theorem dX11_bid_14 : decode cX11_bid 14 = .ok (.ireturn, 1) := by decide +kernel
theorem dX11_bid_15 : decode cX11_bid 15 = .ok (.aload_n 0, 1) := by decide +kernel
theorem dX11_bid_16 : decode cX11_bid 16 = .ok (.iload_n 1, 1) := by decide +kernel
theorem dX11_bid_17 : decode cX11_bid 17 = .ok (.iload_n 2, 1) := by decide +kernel
theorem dX11_bid_18 : decode cX11_bid 18 = .ok (.invokevirtual 256, 3) := by decide +kernel
theorem dX11_bid_21 : decode cX11_bid 21 = .ok (.ifCond .eq 10, 3) := by decide +kernel
theorem dX11_bid_24 : decode cX11_bid 24 = .ok (.aload_n 0, 1) := by decide +kernel
theorem dX11_bid_25 : decode cX11_bid 25 = .ok (.bipush 7, 2) := by decide +kernel
theorem dX11_bid_27 : decode cX11_bid 27 = .ok (.invokevirtual 186, 3) := by decide +kernel
theorem dX11_bid_30 : decode cX11_bid 30 = .ok (.ireturn, 1) := by decide +kernel
theorem dX11_bid_31 : decode cX11_bid 31 = .ok (.aload_n 0, 1) := by decide +kernel
theorem dX11_bid_32 : decode cX11_bid 32 = .ok (.invokevirtual 389, 3) := by decide +kernel
theorem dX11_bid_35 : decode cX11_bid 35 = .ok (.aload_n 0, 1) := by decide +kernel
theorem dX11_bid_36 : decode cX11_bid 36 = .ok (.iload_n 1, 1) := by decide +kernel
theorem dX11_bid_37 : decode cX11_bid 37 = .ok (.bipush 10, 2) := by decide +kernel
theorem dX11_bid_39 : decode cX11_bid 39 = .ok (.aload_n 0, 1) := by decide +kernel
theorem dX11_bid_40 : decode cX11_bid 40 = .ok (.iload_n 1, 1) := by decide +kernel
theorem dX11_bid_41 : decode cX11_bid 41 = .ok (.bipush 10, 2) := by decide +kernel
theorem dX11_bid_43 : decode cX11_bid 43 = .ok (.invokevirtual 205, 3) := by decide +kernel
theorem dX11_bid_46 : decode cX11_bid 46 = .ok (.iconst 1, 1) := by decide +kernel
theorem dX11_bid_47 : decode cX11_bid 47 = .ok (.iload_n 2, 1) := by decide +kernel
theorem dX11_bid_48 : decode cX11_bid 48 = .ok (.ishl, 1) := by decide +kernel
theorem dX11_bid_49 : decode cX11_bid 49 = .ok (.ior, 1) := by decide +kernel
theorem dX11_bid_50 : decode cX11_bid 50 = .ok (.invokevirtual 289, 3) := by decide +kernel
theorem dX11_bid_53 : decode cX11_bid 53 = .ok (.aload_n 0, 1) := by decide +kernel
theorem dX11_bid_54 : decode cX11_bid 54 = .ok (.aload_n 0, 1) := by decide +kernel
theorem dX11_bid_55 : decode cX11_bid 55 = .ok (.iload_n 1, 1) := by decide +kernel
theorem dX11_bid_56 : decode cX11_bid 56 = .ok (.bipush 10, 2) := by decide +kernel
theorem dX11_bid_58 : decode cX11_bid 58 = .ok (.invokevirtual 205, 3) := by decide +kernel
theorem dX11_bid_61 : decode cX11_bid 61 = .ok (.invokestatic 222, 3) := by decide +kernel
theorem dX11_bid_64 : decode cX11_bid 64 = .ok (.invokevirtual 199, 3) := by decide +kernel
theorem dX11_bid_67 : decode cX11_bid 67 = .ok (.ireturn, 1) := by decide +kernel
theorem dX11_unbid_0 : decode cX11_unbid 0 = .ok (.aload_n 0, 1) := by decide +kernel
theorem dX11_unbid_1 : decode cX11_unbid 1 = .ok (.iload_n 1, 1) := by decide +kernel
theorem dX11_unbid_2 : decode cX11_unbid 2 = .ok (.iload_n 2, 1) := by decide +kernel
theorem dX11_unbid_3 : decode cX11_unbid 3 = .ok (.invokevirtual 253, 3) := by decide +kernel
theorem dX11_unbid_6 : decode cX11_unbid 6 = .ok (.ifCond .ne 9, 3) := by decide +kernel
theorem dX11_unbid_9 : decode cX11_unbid 9 = .ok (.aload_n 0, 1) := by decide +kernel
theorem dX11_unbid_10 : decode cX11_unbid 10 = .ok (.iconst 2, 1) := by decide +kernel
theorem dX11_unbid_11 : decode cX11_unbid 11 = .ok (.invokevirtual 186, 3) := by decide +kernel
theorem dX11_unbid_14 : decode cX11_unbid 14 = .ok (.ireturn, 1) := by decide +kernel
theorem dX11_unbid_15 : decode cX11_unbid 15 = .ok (.aload_n 0, 1) := by decide +kernel
theorem dX11_unbid_16 : decode cX11_unbid 16 = .ok (.iload_n 1, 1) := by decide +kernel
theorem dX11_unbid_17 : decode cX11_unbid 17 = .ok (.iload_n 2, 1) := by decide +kernel
theorem dX11_unbid_18 : decode cX11_unbid 18 = .ok (.invokevirtual 234, 3) := by decide +kernel
theorem dX11_unbid_21 : decode cX11_unbid 21 = .ok (.ifCond .ne 9, 3) := by decide +kernel
theorem dX11_unbid_24 : decode cX11_unbid 24 = .ok (.aload_n 0, 1) := by decide +kernel
theorem dX11_unbid_25 : decode cX11_unbid 25 = .ok (.iconst 5, 1) := by decide +kernel
theorem dX11_unbid_26 : decode cX11_unbid 26 = .ok (.invokevirtual 186, 3) := by decide +kernel
theorem dX11_unbid_29 : decode cX11_unbid 29 = .ok (.ireturn, 1) := by decide +kernel
theorem dX11_unbid_30 : decode cX11_unbid 30 = .ok (.aload_n 0, 1) := by decide +kernel
theorem dX11_unbid_31 : decode cX11_unbid 31 = .ok (.invokevirtual 389, 3) := by decide +kernel
theorem dX11_unbid_34 : decode cX11_unbid 34 = .ok (.aload_n 0, 1) := by decide +kernel
theorem dX11_unbid_35 : decode cX11_unbid 35 = .ok (.iload_n 1, 1) := by decide +kernel
theorem dX11_unbid_36 : decode cX11_unbid 36 = .ok (.bipush 10, 2) := by decide +kernel
theorem dX11_unbid_38 : decode cX11_unbid 38 = .ok (.aload_n 0, 1) := by decide +kernel
theorem dX11_unbid_39 : decode cX11_unbid 39 = .ok (.iload_n 1, 1) := by decide +kernel
theorem dX11_unbid_40 : decode cX11_unbid 40 = .ok (.bipush 10, 2) := by decide +kernel
theorem dX11_unbid_42 : decode cX11_unbid 42 = .ok (.invokevirtual 205, 3) := by decide +kernel
theorem dX11_unbid_45 : decode cX11_unbid 45 = .ok (.iconst 1, 1) := by decide +kernel
theorem dX11_unbid_46 : decode cX11_unbid 46 = .ok (.iload_n 2, 1) := by decide +kernel
theorem dX11_unbid_47 : decode cX11_unbid 47 = .ok (.ishl, 1) := by decide +kernel
theorem dX11_unbid_48 : decode cX11_unbid 48 = .ok (.iconst (-1), 1) := by decide +kernel
theorem dX11_unbid_49 : decode cX11_unbid 49 = .ok (.ixor, 1) := by decide +kernel
theorem dX11_unbid_50 : decode cX11_unbid 50 = .ok (.iand, 1) := by decide +kernel
theorem dX11_unbid_51 : decode cX11_unbid 51 = .ok (.invokevirtual 289, 3) := by decide +kernel
theorem dX11_unbid_54 : decode cX11_unbid 54 = .ok (.aload_n 0, 1) := by decide +kernel
theorem dX11_unbid_55 : decode cX11_unbid 55 = .ok (.aload_n 0, 1) := by decide +kernel
theorem dX11_unbid_56 : decode cX11_unbid 56 = .ok (.iload_n 1, 1) := by decide +kernel
theorem dX11_unbid_57 : decode cX11_unbid 57 = .ok (.bipush 10, 2) := by decide +kernel
theorem dX11_unbid_59 : decode cX11_unbid 59 = .ok (.invokevirtual 205, 3) := by decide +kernel
theorem dX11_unbid_62 : decode cX11_unbid 62 = .ok (.invokestatic 222, 3) := by decide +kernel
theorem dX11_unbid_65 : decode cX11_unbid 65 = .ok (.invokevirtual 199, 3) := by decide +kernel
theorem dX11_unbid_68 : decode cX11_unbid 68 = .ok (.ireturn, 1) := by decide +kernel
theorem dX11_auto_0 : decode cX11_auto 0 = .ok (.aload_n 0, 1) := by decide +kernel
theorem dX11_auto_1 : decode cX11_auto 1 = .ok (.getfield 7, 3) := by decide +kernel
theorem dX11_auto_4 : decode cX11_auto 4 = .ok (.aload_n 0, 1) := by decide +kernel
theorem dX11_auto_5 : decode cX11_auto 5 = .ok (.getfield 16, 3) := by decide +kernel
theorem dX11_auto_8 : decode cX11_auto 8 = .ok (.invokestatic 192, 3) := by decide +kernel
theorem dX11_auto_11 : decode cX11_auto 11 = .ok (.aload_n 0, 1) := by decide +kernel
theorem dX11_auto_12 : decode cX11_auto 12 = .ok (.invokevirtual 325, 3) := by decide +kernel
theorem dX11_auto_15 : decode cX11_auto 15 = .ok (.istore_n 1, 1) := by decide +kernel
theorem dX11_auto_16 : decode cX11_auto 16 = .ok (.aload_n 0, 1) := by decide +kernel
theorem dX11_auto_17 : decode cX11_auto 17 = .ok (.getfield 16, 3) := by decide +kernel
theorem dX11_auto_20 : decode cX11_auto 20 = .ok (.aload_n 0, 1) := by decide +kernel
theorem dX11_auto_21 : decode cX11_auto 21 = .ok (.getfield 7, 3) := by decide +kernel
theorem dX11_auto_24 : decode cX11_auto 24 = .ok (.invokestatic 192, 3) := by decide +kernel
theorem dX11_auto_27 : decode cX11_auto 27 = .ok (.iload_n 1, 1) := by decide +kernel
theorem dX11_auto_28 : decode cX11_auto 28 = .ok (.ifCond .ne 9, 3) := by decide +kernel
theorem dX11_auto_31 : decode cX11_auto 31 = .ok (.aload_n 0, 1) := by decide +kernel
theorem dX11_auto_32 : decode cX11_auto 32 = .ok (.iconst 4, 1) := by decide +kernel
theorem dX11_auto_33 : decode cX11_auto 33 = .ok (.invokevirtual 186, 3) := by decide +kernel
theorem dX11_auto_36 : decode cX11_auto 36 = .ok (.ireturn, 1) := by decide +kernel
theorem dX11_auto_37 : decode cX11_auto 37 = .ok (.aload_n 0, 1) := by decide +kernel
theorem dX11_auto_38 : decode cX11_auto 38 = .ok (.invokevirtual 389, 3) := by decide +kernel
theorem dX11_auto_41 : decode cX11_auto 41 = .ok (.aload_n 0, 1) := by decide +kernel
theorem dX11_auto_42 : decode cX11_auto 42 = .ok (.aload_n 0, 1) := by decide +kernel
theorem dX11_auto_43 : decode cX11_auto 43 = .ok (.invokevirtual 325, 3) := by decide +kernel
theorem dX11_auto_46 : decode cX11_auto 46 = .ok (.invokevirtual 199, 3) := by decide +kernel
theorem dX11_auto_49 : decode cX11_auto 49 = .ok (.ireturn, 1) := by decide +kernel
theorem dX11_week_0 : decode cX11_week 0 = .ok (.aload_n 0, 1) := by decide +kernel
theorem dX11_week_1 : decode cX11_week 1 = .ok (.getfield 7, 3) := by decide +kernel
theorem dX11_week_4 : decode cX11_week 4 = .ok (.sipush 232, 3) := by decide +kernel
theorem dX11_week_7 : decode cX11_week 7 = .ok (.iaload, 1) := by decide +kernel
theorem dX11_week_8 : decode cX11_week 8 = .ok (.sipush 999, 3) := by decide +kernel
theorem dX11_week_11 : decode cX11_week 11 = .ok (.if_icmp .ne 9, 3) := by decide +kernel
theorem dX11_week_14 : decode cX11_week 14 = .ok (.aload_n 0, 1) := by decide +kernel
theorem dX11_week_15 : decode cX11_week 15 = .ok (.iconst 3, 1) := by decide +kernel
theorem dX11_week_16 : decode cX11_week 16 = .ok (.invokevirtual 186, 3) := by decide +kernel
theorem dX11_week_19 : decode cX11_week 19 = .ok (.ireturn, 1) := by decide +kernel
theorem dX11_week_20 : decode cX11_week 20 = .ok (.aload_n 0, 1) := by decide +kernel
theorem dX11_week_21 : decode cX11_week 21 = .ok (.invokevirtual 389, 3) := by decide +kernel
theorem dX11_week_24 : decode cX11_week 24 = .ok (.aload_n 0, 1) := by decide +kernel
theorem dX11_week_25 : decode cX11_week 25 = .ok (.aload_n 0, 1) := by decide +kernel
theorem dX11_week_26 : decode cX11_week 26 = .ok (.invokevirtual 328, 3) := by decide +kernel
theorem dX11_week_29 : decode cX11_week 29 = .ok (.invokevirtual 199, 3) := by decide +kernel
theorem dX11_week_32 : decode cX11_week 32 = .ok (.ireturn, 1) := by decide +kernel
theorem dX11_wish_0 : decode cX11_wish 0 = .ok (.aload_n 0, 1) := by decide +kernel
theorem dX11_wish_1 : decode cX11_wish 1 = .ok (.iload_n 1, 1) := by decide +kernel
theorem dX11_wish_2 : decode cX11_wish 2 = .ok (.iload_n 2, 1) := by decide +kernel
theorem dX11_wish_3 : decode cX11_wish 3 = .ok (.invokevirtual 253, 3) := by decide +kernel
theorem dX11_wish_6 : decode cX11_wish 6 = .ok (.ifCond .ne 9, 3) := by decide +kernel
theorem dX11_wish_9 : decode cX11_wish 9 = .ok (.aload_n 0, 1) := by decide +kernel
theorem dX11_wish_10 : decode cX11_wish 10 = .ok (.iconst 2, 1) := by decide +kernel
theorem dX11_wish_11 : decode cX11_wish 11 = .ok (.invokevirtual 186, 3) := by decide +kernel
theorem dX11_wish_14 : decode cX11_wish 14 = .ok (.ireturn, 1) := by decide +kernel
theorem dX11_wish_15 : decode cX11_wish 15 = .ok (.aload_n 0, 1) := by decide +kernel
theorem dX11_wish_16 : decode cX11_wish 16 = .ok (.iload_n 1, 1) := by decide +kernel
theorem dX11_wish_17 : decode cX11_wish 17 = .ok (.iload_n 2, 1) := by decide +kernel
theorem dX11_wish_18 : decode cX11_wish 18 = .ok (.invokevirtual 216, 3) := by decide +kernel
theorem dX11_wish_21 : decode cX11_wish 21 = .ok (.iconst (-1), 1) := by decide +kernel
theorem dX11_wish_22 : decode cX11_wish 22 = .ok (.if_icmp .eq 9, 3) := by decide +kernel
theorem dX11_wish_25 : decode cX11_wish 25 = .ok (.aload_n 0, 1) := by decide +kernel
theorem dX11_wish_26 : decode cX11_wish 26 = .ok (.iconst 4, 1) := by decide +kernel
theorem dX11_wish_27 : decode cX11_wish 27 = .ok (.invokevirtual 186, 3) := by decide +kernel
theorem dX11_wish_30 : decode cX11_wish 30 = .ok (.ireturn, 1) := by decide +kernel
theorem dX11_wish_31 : decode cX11_wish 31 = .ok (.aload_n 0, 1) := by decide +kernel
theorem dX11_wish_32 : decode cX11_wish 32 = .ok (.iload_n 1, 1) := by decide +kernel
theorem dX11_wish_33 : decode cX11_wish 33 = .ok (.bipush 11, 2) := by decide +kernel
theorem dX11_wish_35 : decode cX11_wish 35 = .ok (.invokevirtual 205, 3) := by decide +kernel
theorem dX11_wish_38 : decode cX11_wish 38 = .ok (.istore_n 3, 1) := by decide +kernel
theorem dX11_wish_39 : decode cX11_wish 39 = .ok (.iload_n 3, 1) := by decide +kernel
theorem dX11_wish_40 : decode cX11_wish 40 = .ok (.bipush 6, 2) := by decide +kernel
theorem dX11_wish_42 : decode cX11_wish 42 = .ok (.if_icmp .ne 9, 3) := by decide +kernel
theorem dX11_wish_45 : decode cX11_wish 45 = .ok (.aload_n 0, 1) := by decide +kernel
theorem dX11_wish_46 : decode cX11_wish 46 = .ok (.iconst 3, 1) := by decide +kernel
theorem dX11_wish_47 : decode cX11_wish 47 = .ok (.invokevirtual 186, 3) := by decide +kernel
theorem dX11_wish_50 : decode cX11_wish 50 = .ok (.ireturn, 1) := by decide +kernel
theorem dX11_wish_51 : decode cX11_wish 51 = .ok (.aload_n 0, 1) := by decide +kernel
theorem dX11_wish_52 : decode cX11_wish 52 = .ok (.invokevirtual 389, 3) := by decide +kernel
theorem dX11_wish_55 : decode cX11_wish 55 = .ok (.aload_n 0, 1) := by decide +kernel
theorem dX11_wish_56 : decode cX11_wish 56 = .ok (.iload_n 1, 1) := by decide +kernel
theorem dX11_wish_57 : decode cX11_wish 57 = .ok (.bipush 12, 2) := by decide +kernel
theorem dX11_wish_59 : decode cX11_wish 59 = .ok (.iload_n 3, 1) := by decide +kernel
theorem dX11_wish_60 : decode cX11_wish 60 = .ok (.iadd, 1) := by decide +kernel
theorem dX11_wish_61 : decode cX11_wish 61 = .ok (.iload_n 2, 1) := by decide +kernel
theorem dX11_wish_62 : decode cX11_wish 62 = .ok (.invokevirtual 289, 3) := by decide +kernel
theorem dX11_wish_65 : decode cX11_wish 65 = .ok (.aload_n 0, 1) := by decide +kernel
theorem dX11_wish_66 : decode cX11_wish 66 = .ok (.iload_n 1, 1) := by decide +kernel
theorem dX11_wish_67 : decode cX11_wish 67 = .ok (.bipush 11, 2) := by decide +kernel
theorem dX11_wish_69 : decode cX11_wish 69 = .ok (.iload_n 3, 1) := by decide +kernel
theorem dX11_wish_70 : decode cX11_wish 70 = .ok (.iconst 1, 1) := by decide +kernel
theorem dX11_wish_71 : decode cX11_wish 71 = .ok (.iadd, 1) := by decide +kernel
theorem dX11_wish_72 : decode cX11_wish 72 = .ok (.invokevirtual 289, 3) := by decide +kernel
theorem dX11_wish_75 : decode cX11_wish 75 = .ok (.aload_n 0, 1) := by decide +kernel
theorem dX11_wish_76 : decode cX11_wish 76 = .ok (.iload_n 3, 1) := by decide +kernel
theorem dX11_wish_77 : decode cX11_wish 77 = .ok (.iconst 1, 1) := by decide +kernel
theorem dX11_wish_78 : decode cX11_wish 78 = .ok (.iadd, 1) := by decide +kernel
theorem dX11_wish_79 : decode cX11_wish 79 = .ok (.invokevirtual 199, 3) := by decide +kernel
theorem dX11_wish_82 : decode cX11_wish 82 = .ok (.ireturn, 1) := by decide +kernel
theorem dX11_unwish_0 : decode cX11_unwish 0 = .ok (.aload_n 0, 1) := by decide +kernel
theorem dX11_unwish_1 : decode cX11_unwish 1 = .ok (.iload_n 1, 1) := by decide +kernel
theorem dX11_unwish_2 : decode cX11_unwish 2 = .ok (.iload_n 2, 1) := by decide +kernel
theorem dX11_unwish_3 : decode cX11_unwish 3 = .ok (.invokevirtual 253, 3) := by decide +kernel
theorem dX11_unwish_6 : decode cX11_unwish 6 = .ok (.ifCond .ne 9, 3) := by decide +kernel
theorem dX11_unwish_9 : decode cX11_unwish 9 = .ok (.aload_n 0, 1) := by decide +kernel
theorem dX11_unwish_10 : decode cX11_unwish 10 = .ok (.iconst 2, 1) := by decide +kernel
theorem dX11_unwish_11 : decode cX11_unwish 11 = .ok (.invokevirtual 186, 3) := by decide +kernel
theorem dX11_unwish_14 : decode cX11_unwish 14 = .ok (.ireturn, 1) := by decide +kernel
theorem dX11_unwish_15 : decode cX11_unwish 15 = .ok (.aload_n 0, 1) := by decide +kernel
theorem dX11_unwish_16 : decode cX11_unwish 16 = .ok (.iload_n 1, 1) := by decide +kernel
theorem dX11_unwish_17 : decode cX11_unwish 17 = .ok (.iload_n 2, 1) := by decide +kernel
theorem dX11_unwish_18 : decode cX11_unwish 18 = .ok (.invokevirtual 216, 3) := by decide +kernel
theorem dX11_unwish_21 : decode cX11_unwish 21 = .ok (.istore_n 3, 1) := by decide +kernel
theorem dX11_unwish_22 : decode cX11_unwish 22 = .ok (.iload_n 3, 1) := by decide +kernel
theorem dX11_unwish_23 : decode cX11_unwish 23 = .ok (.iconst (-1), 1) := by decide +kernel
theorem dX11_unwish_24 : decode cX11_unwish 24 = .ok (.if_icmp .ne 9, 3) := by decide +kernel
theorem dX11_unwish_27 : decode cX11_unwish 27 = .ok (.aload_n 0, 1) := by decide +kernel
theorem dX11_unwish_28 : decode cX11_unwish 28 = .ok (.iconst 5, 1) := by decide +kernel
theorem dX11_unwish_29 : decode cX11_unwish 29 = .ok (.invokevirtual 186, 3) := by decide +kernel
theorem dX11_unwish_32 : decode cX11_unwish 32 = .ok (.ireturn, 1) := by decide +kernel
theorem dX11_unwish_33 : decode cX11_unwish 33 = .ok (.aload_n 0, 1) := by decide +kernel
theorem dX11_unwish_34 : decode cX11_unwish 34 = .ok (.invokevirtual 389, 3) := by decide +kernel
theorem dX11_unwish_37 : decode cX11_unwish 37 = .ok (.aload_n 0, 1) := by decide +kernel
theorem dX11_unwish_38 : decode cX11_unwish 38 = .ok (.iload_n 1, 1) := by decide +kernel
theorem dX11_unwish_39 : decode cX11_unwish 39 = .ok (.bipush 11, 2) := by decide +kernel
theorem dX11_unwish_41 : decode cX11_unwish 41 = .ok (.invokevirtual 205, 3) := by decide +kernel
theorem dX11_unwish_44 : decode cX11_unwish 44 = .ok (.iconst 1, 1) := by decide +kernel
theorem dX11_unwish_45 : decode cX11_unwish 45 = .ok (.isub, 1) := by decide +kernel
theorem dX11_unwish_46 : decode cX11_unwish 46 = .ok (.istore 4, 2) := by decide +kernel
theorem dX11_unwish_48 : decode cX11_unwish 48 = .ok (.iload_n 3, 1) := by decide +kernel
theorem dX11_unwish_49 : decode cX11_unwish 49 = .ok (.istore 5, 2) := by decide +kernel
theorem dX11_unwish_51 : decode cX11_unwish 51 = .ok (.iload 5, 2) := by decide +kernel
theorem dX11_unwish_53 : decode cX11_unwish 53 = .ok (.iload 4, 2) := by decide +kernel
theorem dX11_unwish_55 : decode cX11_unwish 55 = .ok (.if_icmp .ge 31, 3) := by decide +kernel
theorem dX11_unwish_58 : decode cX11_unwish 58 = .ok (.aload_n 0, 1) := by decide +kernel
theorem dX11_unwish_59 : decode cX11_unwish 59 = .ok (.iload_n 1, 1) := by decide +kernel
theorem dX11_unwish_60 : decode cX11_unwish 60 = .ok (.bipush 12, 2) := by decide +kernel
theorem dX11_unwish_62 : decode cX11_unwish 62 = .ok (.iload 5, 2) := by decide +kernel
theorem dX11_unwish_64 : decode cX11_unwish 64 = .ok (.iadd, 1) := by decide +kernel
theorem dX11_unwish_65 : decode cX11_unwish 65 = .ok (.aload_n 0, 1) := by decide +kernel
theorem dX11_unwish_66 : decode cX11_unwish 66 = .ok (.iload_n 1, 1) := by decide +kernel
theorem dX11_unwish_67 : decode cX11_unwish 67 = .ok (.bipush 12, 2) := by decide +kernel
theorem dX11_unwish_69 : decode cX11_unwish 69 = .ok (.iload 5, 2) := by decide +kernel
theorem dX11_unwish_71 : decode cX11_unwish 71 = .ok (.iadd, 1) := by decide +kernel
theorem dX11_unwish_72 : decode cX11_unwish 72 = .ok (.iconst 1, 1) := by decide +kernel
theorem dX11_unwish_73 : decode cX11_unwish 73 = .ok (.iadd, 1) := by decide +kernel
theorem dX11_unwish_74 : decode cX11_unwish 74 = .ok (.invokevirtual 205, 3) := by decide +kernel
theorem dX11_unwish_77 : decode cX11_unwish 77 = .ok (.invokevirtual 289, 3) := by decide +kernel
theorem dX11_unwish_80 : decode cX11_unwish 80 = .ok (.iinc 5 1, 3) := by decide +kernel
theorem dX11_unwish_83 : decode cX11_unwish 83 = .ok (.goto (-32), 3) := by decide +kernel
theorem dX11_unwish_86 : decode cX11_unwish 86 = .ok (.aload_n 0, 1) := by decide +kernel
theorem dX11_unwish_87 : decode cX11_unwish 87 = .ok (.iload_n 1, 1) := by decide +kernel
theorem dX11_unwish_88 : decode cX11_unwish 88 = .ok (.bipush 11, 2) := by decide +kernel
theorem dX11_unwish_90 : decode cX11_unwish 90 = .ok (.iload 4, 2) := by decide +kernel
theorem dX11_unwish_92 : decode cX11_unwish 92 = .ok (.invokevirtual 289, 3) := by decide +kernel
theorem dX11_unwish_95 : decode cX11_unwish 95 = .ok (.aload_n 0, 1) := by decide +kernel
theorem dX11_unwish_96 : decode cX11_unwish 96 = .ok (.iload 4, 2) := by decide +kernel
theorem dX11_unwish_98 : decode cX11_unwish 98 = .ok (.invokevirtual 199, 3) := by decide +kernel
theorem dX11_unwish_101 : decode cX11_unwish 101 = .ok (.ireturn, 1) := by decide +kernel
theorem dX11_leave_0 : decode cX11_leave 0 = .ok (.aload_n 0, 1) := by decide +kernel
theorem dX11_leave_1 : decode cX11_leave 1 = .ok (.iload_n 1, 1) := by decide +kernel
theorem dX11_leave_2 : decode cX11_leave 2 = .ok (.invokevirtual 244, 3) := by decide +kernel
theorem dX11_leave_5 : decode cX11_leave 5 = .ok (.ifCond .ne 9, 3) := by decide +kernel
theorem dX11_leave_8 : decode cX11_leave 8 = .ok (.aload_n 0, 1) := by decide +kernel
theorem dX11_leave_9 : decode cX11_leave 9 = .ok (.iconst 2, 1) := by decide +kernel
theorem dX11_leave_10 : decode cX11_leave 10 = .ok (.invokevirtual 186, 3) := by decide +kernel
theorem dX11_leave_13 : decode cX11_leave 13 = .ok (.ireturn, 1) := by decide +kernel
theorem dX11_leave_14 : decode cX11_leave 14 = .ok (.aload_n 0, 1) := by decide +kernel
theorem dX11_leave_15 : decode cX11_leave 15 = .ok (.iload_n 1, 1) := by decide +kernel
theorem dX11_leave_16 : decode cX11_leave 16 = .ok (.invokevirtual 208, 3) := by decide +kernel
theorem dX11_leave_19 : decode cX11_leave 19 = .ok (.ifCond .ne 9, 3) := by decide +kernel
theorem dX11_leave_22 : decode cX11_leave 22 = .ok (.aload_n 0, 1) := by decide +kernel
theorem dX11_leave_23 : decode cX11_leave 23 = .ok (.iconst 4, 1) := by decide +kernel
theorem dX11_leave_24 : decode cX11_leave 24 = .ok (.invokevirtual 186, 3) := by decide +kernel
theorem dX11_leave_27 : decode cX11_leave 27 = .ok (.ireturn, 1) := by decide +kernel
theorem dX11_leave_28 : decode cX11_leave 28 = .ok (.aload_n 0, 1) := by decide +kernel
theorem dX11_leave_29 : decode cX11_leave 29 = .ok (.invokevirtual 389, 3) := by decide +kernel
theorem dX11_leave_32 : decode cX11_leave 32 = .ok (.aload_n 0, 1) := by decide +kernel
theorem dX11_leave_33 : decode cX11_leave 33 = .ok (.iload_n 1, 1) := by decide +kernel
theorem dX11_leave_34 : decode cX11_leave 34 = .ok (.bipush 10, 2) := by decide +kernel
theorem dX11_leave_36 : decode cX11_leave 36 = .ok (.iconst 0, 1) := by decide +kernel
theorem dX11_leave_37 : decode cX11_leave 37 = .ok (.invokevirtual 289, 3) := by decide +kernel
theorem dX11_leave_40 : decode cX11_leave 40 = .ok (.aload_n 0, 1) := by decide +kernel
theorem dX11_leave_41 : decode cX11_leave 41 = .ok (.iload_n 1, 1) := by decide +kernel
theorem dX11_leave_42 : decode cX11_leave 42 = .ok (.bipush 8, 2) := by decide +kernel
theorem dX11_leave_44 : decode cX11_leave 44 = .ok (.iconst 1, 1) := by decide +kernel
theorem dX11_leave_45 : decode cX11_leave 45 = .ok (.invokevirtual 289, 3) := by decide +kernel
theorem dX11_leave_48 : decode cX11_leave 48 = .ok (.aload_n 0, 1) := by decide +kernel
theorem dX11_leave_49 : decode cX11_leave 49 = .ok (.iload_n 1, 1) := by decide +kernel
theorem dX11_leave_50 : decode cX11_leave 50 = .ok (.iconst 4, 1) := by decide +kernel
theorem dX11_leave_51 : decode cX11_leave 51 = .ok (.invokevirtual 205, 3) := by decide +kernel
theorem dX11_leave_54 : decode cX11_leave 54 = .ok (.iconst (-1), 1) := by decide +kernel
theorem dX11_leave_55 : decode cX11_leave 55 = .ok (.if_icmp .eq 14, 3) := by decide +kernel
theorem dX11_leave_58 : decode cX11_leave 58 = .ok (.aload_n 0, 1) := by decide +kernel
theorem dX11_leave_59 : decode cX11_leave 59 = .ok (.aload_n 0, 1) := by decide +kernel
theorem dX11_leave_60 : decode cX11_leave 60 = .ok (.iload_n 1, 1) := by decide +kernel
theorem dX11_leave_61 : decode cX11_leave 61 = .ok (.iconst 4, 1) := by decide +kernel
theorem dX11_leave_62 : decode cX11_leave 62 = .ok (.invokevirtual 205, 3) := by decide +kernel
theorem dX11_leave_65 : decode cX11_leave 65 = .ok (.iconst 0, 1) := by decide +kernel
theorem dX11_leave_66 : decode cX11_leave 66 = .ok (.invokevirtual 296, 3) := by decide +kernel
theorem dX11_leave_69 : decode cX11_leave 69 = .ok (.aload_n 0, 1) := by decide +kernel
theorem dX11_leave_70 : decode cX11_leave 70 = .ok (.iload_n 1, 1) := by decide +kernel
theorem dX11_leave_71 : decode cX11_leave 71 = .ok (.iconst 4, 1) := by decide +kernel
theorem dX11_leave_72 : decode cX11_leave 72 = .ok (.iconst (-1), 1) := by decide +kernel
theorem dX11_leave_73 : decode cX11_leave 73 = .ok (.invokevirtual 289, 3) := by decide +kernel
theorem dX11_leave_76 : decode cX11_leave 76 = .ok (.aload_n 0, 1) := by decide +kernel
theorem dX11_leave_77 : decode cX11_leave 77 = .ok (.aload_n 0, 1) := by decide +kernel
theorem dX11_leave_78 : decode cX11_leave 78 = .ok (.invokevirtual 231, 3) := by decide +kernel
theorem dX11_leave_81 : decode cX11_leave 81 = .ok (.invokevirtual 199, 3) := by decide +kernel
theorem dX11_leave_84 : decode cX11_leave 84 = .ok (.ireturn, 1) := by decide +kernel
theorem dX11_dropsBid_0 : decode cX11_dropsBid 0 = .ok (.aload_n 0, 1) := by decide +kernel
theorem dX11_dropsBid_1 : decode cX11_dropsBid 1 = .ok (.iload_n 1, 1) := by decide +kernel
theorem dX11_dropsBid_2 : decode cX11_dropsBid 2 = .ok (.bipush 10, 2) := by decide +kernel
theorem dX11_dropsBid_4 : decode cX11_dropsBid 4 = .ok (.aload_n 0, 1) := by decide +kernel
theorem dX11_dropsBid_5 : decode cX11_dropsBid 5 = .ok (.iload_n 1, 1) := by decide +kernel
theorem dX11_dropsBid_6 : decode cX11_dropsBid 6 = .ok (.bipush 10, 2) := by decide +kernel
theorem dX11_dropsBid_8 : decode cX11_dropsBid 8 = .ok (.invokevirtual 205, 3) := by decide +kernel
theorem dX11_dropsBid_11 : decode cX11_dropsBid 11 = .ok (.iconst 1, 1) := by decide +kernel
theorem dX11_dropsBid_12 : decode cX11_dropsBid 12 = .ok (.iload_n 2, 1) := by decide +kernel
theorem dX11_dropsBid_13 : decode cX11_dropsBid 13 = .ok (.ishl, 1) := by decide +kernel
theorem dX11_dropsBid_14 : decode cX11_dropsBid 14 = .ok (.iconst (-1), 1) := by decide +kernel
theorem dX11_dropsBid_15 : decode cX11_dropsBid 15 = .ok (.ixor, 1) := by decide +kernel
theorem dX11_dropsBid_16 : decode cX11_dropsBid 16 = .ok (.iand, 1) := by decide +kernel
theorem dX11_dropsBid_17 : decode cX11_dropsBid 17 = .ok (.invokevirtual 289, 3) := by decide +kernel
theorem dX11_dropsBid_20 : decode cX11_dropsBid 20 = .ok (.return_, 1) := by decide +kernel
theorem dX11_shut_0 : decode cX11_shut 0 = .ok (.aload_n 0, 1) := by decide +kernel
theorem dX11_shut_1 : decode cX11_shut 1 = .ok (.iload_n 1, 1) := by decide +kernel
theorem dX11_shut_2 : decode cX11_shut 2 = .ok (.invokevirtual 238, 3) := by decide +kernel
theorem dX11_shut_5 : decode cX11_shut 5 = .ok (.ifCond .ne 9, 3) := by decide +kernel
theorem dX11_shut_8 : decode cX11_shut 8 = .ok (.aload_n 0, 1) := by decide +kernel
theorem dX11_shut_9 : decode cX11_shut 9 = .ok (.iconst 2, 1) := by decide +kernel
theorem dX11_shut_10 : decode cX11_shut 10 = .ok (.invokevirtual 186, 3) := by decide +kernel
theorem dX11_shut_13 : decode cX11_shut 13 = .ok (.ireturn, 1) := by decide +kernel
theorem dX11_shut_14 : decode cX11_shut 14 = .ok (.aload_n 0, 1) := by decide +kernel
theorem dX11_shut_15 : decode cX11_shut 15 = .ok (.iload_n 1, 1) := by decide +kernel
theorem dX11_shut_16 : decode cX11_shut 16 = .ok (.bipush 6, 2) := by decide +kernel
theorem dX11_shut_18 : decode cX11_shut 18 = .ok (.invokevirtual 202, 3) := by decide +kernel
theorem dX11_shut_21 : decode cX11_shut 21 = .ok (.iconst 1, 1) := by decide +kernel
theorem dX11_shut_22 : decode cX11_shut 22 = .ok (.if_icmp .ne 7, 3) := by decide +kernel
theorem dX11_shut_25 : decode cX11_shut 25 = .ok (.iconst 1, 1) := by decide +kernel
theorem dX11_shut_26 : decode cX11_shut 26 = .ok (.goto 4, 3) := by decide +kernel
theorem dX11_shut_29 : decode cX11_shut 29 = .ok (.iconst 0, 1) := by decide +kernel
theorem dX11_shut_30 : decode cX11_shut 30 = .ok (.iload_n 2, 1) := by decide +kernel
theorem dX11_shut_31 : decode cX11_shut 31 = .ok (.if_icmp .ne 9, 3) := by decide +kernel
theorem dX11_shut_34 : decode cX11_shut 34 = .ok (.aload_n 0, 1) := by decide +kernel
theorem dX11_shut_35 : decode cX11_shut 35 = .ok (.iconst 4, 1) := by decide +kernel
theorem dX11_shut_36 : decode cX11_shut 36 = .ok (.invokevirtual 186, 3) := by decide +kernel
theorem dX11_shut_39 : decode cX11_shut 39 = .ok (.ireturn, 1) := by decide +kernel
theorem dX11_shut_40 : decode cX11_shut 40 = .ok (.aload_n 0, 1) := by decide +kernel
theorem dX11_shut_41 : decode cX11_shut 41 = .ok (.invokevirtual 389, 3) := by decide +kernel
theorem dX11_shut_44 : decode cX11_shut 44 = .ok (.aload_n 0, 1) := by decide +kernel
theorem dX11_shut_45 : decode cX11_shut 45 = .ok (.iload_n 1, 1) := by decide +kernel
theorem dX11_shut_46 : decode cX11_shut 46 = .ok (.bipush 6, 2) := by decide +kernel
theorem dX11_shut_48 : decode cX11_shut 48 = .ok (.iload_n 2, 1) := by decide +kernel
theorem dX11_shut_49 : decode cX11_shut 49 = .ok (.ifCond .eq 7, 3) := by decide +kernel
theorem dX11_shut_52 : decode cX11_shut 52 = .ok (.iconst 1, 1) := by decide +kernel
theorem dX11_shut_53 : decode cX11_shut 53 = .ok (.goto 4, 3) := by decide +kernel
theorem dX11_shut_56 : decode cX11_shut 56 = .ok (.iconst 0, 1) := by decide +kernel
theorem dX11_shut_57 : decode cX11_shut 57 = .ok (.invokevirtual 293, 3) := by decide +kernel
theorem dX11_shut_60 : decode cX11_shut 60 = .ok (.iconst 0, 1) := by decide +kernel
theorem dX11_shut_61 : decode cX11_shut 61 = .ok (.istore_n 3, 1) := by decide +kernel
theorem dX11_shut_62 : decode cX11_shut 62 = .ok (.iload_n 3, 1) := by decide +kernel
theorem dX11_shut_63 : decode cX11_shut 63 = .ok (.aload_n 0, 1) := by decide +kernel
theorem dX11_shut_64 : decode cX11_shut 64 = .ok (.getfield 7, 3) := by decide +kernel
theorem dX11_shut_67 : decode cX11_shut 67 = .ok (.sipush 231, 3) := by decide +kernel
theorem dX11_shut_70 : decode cX11_shut 70 = .ok (.iaload, 1) := by decide +kernel
theorem dX11_shut_71 : decode cX11_shut 71 = .ok (.if_icmp .ge 15, 3) := by decide +kernel
theorem dX11_shut_74 : decode cX11_shut 74 = .ok (.aload_n 0, 1) := by decide +kernel
theorem dX11_shut_75 : decode cX11_shut 75 = .ok (.iload_n 3, 1) := by decide +kernel
theorem dX11_shut_76 : decode cX11_shut 76 = .ok (.iload_n 1, 1) := by decide +kernel
theorem dX11_shut_77 : decode cX11_shut 77 = .ok (.invokevirtual 392, 3) := by decide +kernel
theorem dX11_shut_80 : decode cX11_shut 80 = .ok (.iinc 3 1, 3) := by decide +kernel
theorem dX11_shut_83 : decode cX11_shut 83 = .ok (.goto (-21), 3) := by decide +kernel
theorem dX11_shut_86 : decode cX11_shut 86 = .ok (.aload_n 0, 1) := by decide +kernel
theorem dX11_shut_87 : decode cX11_shut 87 = .ok (.aload_n 0, 1) := by decide +kernel
theorem dX11_shut_88 : decode cX11_shut 88 = .ok (.invokevirtual 228, 3) := by decide +kernel
theorem dX11_shut_91 : decode cX11_shut 91 = .ok (.invokevirtual 199, 3) := by decide +kernel
theorem dX11_shut_94 : decode cX11_shut 94 = .ok (.ireturn, 1) := by decide +kernel
theorem dX11_need_0 : decode cX11_need 0 = .ok (.iload_n 2, 1) := by decide +kernel
theorem dX11_need_1 : decode cX11_need 1 = .ok (.iconst 1, 1) := by decide +kernel
theorem dX11_need_2 : decode cX11_need 2 = .ok (.iconst 4, 1) := by decide +kernel
theorem dX11_need_3 : decode cX11_need 3 = .ok (.invokestatic 71, 3) := by decide +kernel
theorem dX11_need_6 : decode cX11_need 6 = .ok (.ifCond .ne 9, 3) := by decide +kernel
theorem dX11_need_9 : decode cX11_need 9 = .ok (.aload_n 0, 1) := by decide +kernel
theorem dX11_need_10 : decode cX11_need 10 = .ok (.iconst 1, 1) := by decide +kernel
theorem dX11_need_11 : decode cX11_need 11 = .ok (.invokevirtual 186, 3) := by decide +kernel
theorem dX11_need_14 : decode cX11_need 14 = .ok (.ireturn, 1) := by decide +kernel
theorem dX11_need_15 : decode cX11_need 15 = .ok (.aload_n 0, 1) := by decide +kernel
theorem dX11_need_16 : decode cX11_need 16 = .ok (.iload_n 1, 1) := by decide +kernel
theorem dX11_need_17 : decode cX11_need 17 = .ok (.invokevirtual 244, 3) := by decide +kernel
theorem dX11_need_20 : decode cX11_need 20 = .ok (.ifCond .ne 9, 3) := by decide +kernel
theorem dX11_need_23 : decode cX11_need 23 = .ok (.aload_n 0, 1) := by decide +kernel
theorem dX11_need_24 : decode cX11_need 24 = .ok (.iconst 2, 1) := by decide +kernel
theorem dX11_need_25 : decode cX11_need 25 = .ok (.invokevirtual 186, 3) := by decide +kernel
theorem dX11_need_28 : decode cX11_need 28 = .ok (.ireturn, 1) := by decide +kernel
theorem dX11_need_29 : decode cX11_need 29 = .ok (.aload_n 0, 1) := by decide +kernel
theorem dX11_need_30 : decode cX11_need 30 = .ok (.iload_n 1, 1) := by decide +kernel
theorem dX11_need_31 : decode cX11_need 31 = .ok (.iconst 1, 1) := by decide +kernel
theorem dX11_need_32 : decode cX11_need 32 = .ok (.invokevirtual 205, 3) := by decide +kernel
theorem dX11_need_35 : decode cX11_need 35 = .ok (.istore_n 3, 1) := by decide +kernel
theorem dX11_need_36 : decode cX11_need 36 = .ok (.iload_n 3, 1) := by decide +kernel
theorem dX11_need_37 : decode cX11_need 37 = .ok (.iload_n 2, 1) := by decide +kernel
theorem dX11_need_38 : decode cX11_need 38 = .ok (.if_icmp .ne 9, 3) := by decide +kernel
theorem dX11_need_41 : decode cX11_need 41 = .ok (.aload_n 0, 1) := by decide +kernel
theorem dX11_need_42 : decode cX11_need 42 = .ok (.iconst 4, 1) := by decide +kernel
theorem dX11_need_43 : decode cX11_need 43 = .ok (.invokevirtual 186, 3) := by decide +kernel
theorem dX11_need_46 : decode cX11_need 46 = .ok (.ireturn, 1) := by decide +kernel
theorem dX11_need_47 : decode cX11_need 47 = .ok (.aload_n 0, 1) := by decide +kernel
theorem dX11_need_48 : decode cX11_need 48 = .ok (.invokevirtual 389, 3) := by decide +kernel
theorem dX11_need_51 : decode cX11_need 51 = .ok (.aload_n 0, 1) := by decide +kernel
theorem dX11_need_52 : decode cX11_need 52 = .ok (.iload_n 1, 1) := by decide +kernel
theorem dX11_need_53 : decode cX11_need 53 = .ok (.iconst 1, 1) := by decide +kernel
theorem dX11_need_54 : decode cX11_need 54 = .ok (.iload_n 2, 1) := by decide +kernel
theorem dX11_need_55 : decode cX11_need 55 = .ok (.invokevirtual 289, 3) := by decide +kernel
theorem dX11_need_58 : decode cX11_need 58 = .ok (.iconst 0, 1) := by decide +kernel
theorem dX11_need_59 : decode cX11_need 59 = .ok (.istore 4, 2) := by decide +kernel
theorem dX11_need_61 : decode cX11_need 61 = .ok (.iload 4, 2) := by decide +kernel
theorem dX11_need_63 : decode cX11_need 63 = .ok (.aload_n 0, 1) := by decide +kernel
theorem dX11_need_64 : decode cX11_need 64 = .ok (.getfield 7, 3) := by decide +kernel
theorem dX11_need_67 : decode cX11_need 67 = .ok (.sipush 230, 3) := by decide +kernel
theorem dX11_need_70 : decode cX11_need 70 = .ok (.iaload, 1) := by decide +kernel
theorem dX11_need_71 : decode cX11_need 71 = .ok (.if_icmp .ge 26, 3) := by decide +kernel
theorem dX11_need_74 : decode cX11_need 74 = .ok (.aload_n 0, 1) := by decide +kernel
theorem dX11_need_75 : decode cX11_need 75 = .ok (.iload_n 1, 1) := by decide +kernel
theorem dX11_need_76 : decode cX11_need 76 = .ok (.iload 4, 2) := by decide +kernel
theorem dX11_need_78 : decode cX11_need 78 = .ok (.invokevirtual 250, 3) := by decide +kernel
theorem dX11_need_81 : decode cX11_need 81 = .ok (.ifCond .ne 10, 3) := by decide +kernel
theorem dX11_need_84 : decode cX11_need 84 = .ok (.aload_n 0, 1) := by decide +kernel
theorem dX11_need_85 : decode cX11_need 85 = .ok (.iload_n 1, 1) := by decide +kernel
theorem dX11_need_86 : decode cX11_need 86 = .ok (.iload 4, 2) := by decide +kernel
theorem dX11_need_88 : decode cX11_need 88 = .ok (.invokevirtual 392, 3) := by decide +kernel
theorem dX11_need_91 : decode cX11_need 91 = .ok (.iinc 4 1, 3) := by decide +kernel
theorem dX11_need_94 : decode cX11_need 94 = .ok (.goto (-33), 3) := by decide +kernel
theorem dX11_need_97 : decode cX11_need 97 = .ok (.aload_n 0, 1) := by decide +kernel
theorem dX11_need_98 : decode cX11_need 98 = .ok (.iload_n 3, 1) := by decide +kernel
theorem dX11_need_99 : decode cX11_need 99 = .ok (.invokevirtual 199, 3) := by decide +kernel
theorem dX11_need_102 : decode cX11_need 102 = .ok (.ireturn, 1) := by decide +kernel
theorem dX11_rules_0 : decode cX11_rules 0 = .ok (.iload_n 1, 1) := by decide +kernel
theorem dX11_rules_1 : decode cX11_rules 1 = .ok (.iconst 0, 1) := by decide +kernel
theorem dX11_rules_2 : decode cX11_rules 2 = .ok (.iconst 5, 1) := by decide +kernel
theorem dX11_rules_3 : decode cX11_rules 3 = .ok (.invokestatic 71, 3) := by decide +kernel
theorem dX11_rules_6 : decode cX11_rules 6 = .ok (.ifCond .eq 18, 3) := by decide +kernel
theorem dX11_rules_9 : decode cX11_rules 9 = .ok (.iload_n 2, 1) := by decide +kernel
theorem dX11_rules_10 : decode cX11_rules 10 = .ok (.iload_n 1, 1) := by decide +kernel
theorem dX11_rules_11 : decode cX11_rules 11 = .ok (.invokestatic 171, 3) := by decide +kernel
theorem dX11_rules_14 : decode cX11_rules 14 = .ok (.iload_n 1, 1) := by decide +kernel
theorem dX11_rules_15 : decode cX11_rules 15 = .ok (.invokestatic 174, 3) := by decide +kernel
theorem dX11_rules_18 : decode cX11_rules 18 = .ok (.invokestatic 71, 3) := by decide +kernel
theorem dX11_rules_21 : decode cX11_rules 21 = .ok (.ifCond .ne 9, 3) := by decide +kernel
theorem dX11_rules_24 : decode cX11_rules 24 = .ok (.aload_n 0, 1) := by decide +kernel
theorem dX11_rules_25 : decode cX11_rules 25 = .ok (.iconst 1, 1) := by decide +kernel
theorem dX11_rules_26 : decode cX11_rules 26 = .ok (.invokevirtual 186, 3) := by decide +kernel
theorem dX11_rules_29 : decode cX11_rules 29 = .ok (.ireturn, 1) := by decide +kernel
theorem dX11_rules_30 : decode cX11_rules 30 = .ok (.aload_n 0, 1) := by decide +kernel
theorem dX11_rules_31 : decode cX11_rules 31 = .ok (.getfield 7, 3) := by decide +kernel
theorem dX11_rules_34 : decode cX11_rules 34 = .ok (.sipush 224, 3) := by decide +kernel
theorem dX11_rules_37 : decode cX11_rules 37 = .ok (.iload_n 1, 1) := by decide +kernel
theorem dX11_rules_38 : decode cX11_rules 38 = .ok (.iadd, 1) := by decide +kernel
theorem dX11_rules_39 : decode cX11_rules 39 = .ok (.iaload, 1) := by decide +kernel
theorem dX11_rules_40 : decode cX11_rules 40 = .ok (.istore_n 3, 1) := by decide +kernel
theorem dX11_rules_41 : decode cX11_rules 41 = .ok (.iload_n 3, 1) := by decide +kernel
theorem dX11_rules_42 : decode cX11_rules 42 = .ok (.iload_n 2, 1) := by decide +kernel
theorem dX11_rules_43 : decode cX11_rules 43 = .ok (.if_icmp .ne 9, 3) := by decide +kernel
theorem dX11_rules_46 : decode cX11_rules 46 = .ok (.aload_n 0, 1) := by decide +kernel
theorem dX11_rules_47 : decode cX11_rules 47 = .ok (.iconst 4, 1) := by decide +kernel
theorem dX11_rules_48 : decode cX11_rules 48 = .ok (.invokevirtual 186, 3) := by decide +kernel
theorem dX11_rules_51 : decode cX11_rules 51 = .ok (.ireturn, 1) := by decide +kernel
theorem dX11_rules_52 : decode cX11_rules 52 = .ok (.aload_n 0, 1) := by decide +kernel
theorem dX11_rules_53 : decode cX11_rules 53 = .ok (.invokevirtual 389, 3) := by decide +kernel
theorem dX11_rules_56 : decode cX11_rules 56 = .ok (.aload_n 0, 1) := by decide +kernel
theorem dX11_rules_57 : decode cX11_rules 57 = .ok (.getfield 7, 3) := by decide +kernel
theorem dX11_rules_60 : decode cX11_rules 60 = .ok (.sipush 224, 3) := by decide +kernel
theorem dX11_rules_63 : decode cX11_rules 63 = .ok (.iload_n 1, 1) := by decide +kernel
theorem dX11_rules_64 : decode cX11_rules 64 = .ok (.iadd, 1) := by decide +kernel
theorem dX11_rules_65 : decode cX11_rules 65 = .ok (.iload_n 2, 1) := by decide +kernel
theorem dX11_rules_66 : decode cX11_rules 66 = .ok (.iastore, 1) := by decide +kernel
theorem dX11_rules_67 : decode cX11_rules 67 = .ok (.aload_n 0, 1) := by decide +kernel
theorem dX11_rules_68 : decode cX11_rules 68 = .ok (.iload_n 3, 1) := by decide +kernel
theorem dX11_rules_69 : decode cX11_rules 69 = .ok (.invokevirtual 199, 3) := by decide +kernel
theorem dX11_rules_72 : decode cX11_rules 72 = .ok (.ireturn, 1) := by decide +kernel
theorem dX11_prints_0 : decode cX11_prints 0 = .ok (.aload_n 0, 1) := by decide +kernel
theorem dX11_prints_1 : decode cX11_prints 1 = .ok (.getfield 57, 3) := by decide +kernel
theorem dX11_prints_4 : decode cX11_prints 4 = .ok (.aload_n 0, 1) := by decide +kernel
theorem dX11_prints_5 : decode cX11_prints 5 = .ok (.getfield 395, 3) := by decide +kernel
theorem dX11_prints_8 : decode cX11_prints 8 = .ok (.iload_n 1, 1) := by decide +kernel
theorem dX11_prints_9 : decode cX11_prints 9 = .ok (.i2b, 1) := by decide +kernel
theorem dX11_prints_10 : decode cX11_prints 10 = .ok (.bastore, 1) := by decide +kernel
theorem dX11_prints_11 : decode cX11_prints 11 = .ok (.aload_n 0, 1) := by decide +kernel
theorem dX11_prints_12 : decode cX11_prints 12 = .ok (.dup, 1) := by decide +kernel
theorem dX11_prints_13 : decode cX11_prints 13 = .ok (.getfield 395, 3) := by decide +kernel
theorem dX11_prints_16 : decode cX11_prints 16 = .ok (.iconst 1, 1) := by decide +kernel
theorem dX11_prints_17 : decode cX11_prints 17 = .ok (.iadd, 1) := by decide +kernel
theorem dX11_prints_18 : decode cX11_prints 18 = .ok (.putfield 395, 3) := by decide +kernel
theorem dX11_prints_21 : decode cX11_prints 21 = .ok (.return_, 1) := by decide +kernel
theorem dX11_printsWord_0 : decode cX11_printsWord 0 = .ok (.bipush 40, 2) := by decide +kernel
theorem dX11_printsWord_2 : decode cX11_printsWord 2 = .ok (.istore_n 3, 1) := by decide +kernel
theorem dX11_printsWord_3 : decode cX11_printsWord 3 = .ok (.iload_n 3, 1) := by decide +kernel
theorem dX11_printsWord_4 : decode cX11_printsWord 4 = .ok (.ifCond .lt 36, 3) := by decide +kernel
theorem dX11_printsWord_7 : decode cX11_printsWord 7 = .ok (.lload_n 1, 1) := by decide +kernel
theorem dX11_printsWord_8 : decode cX11_printsWord 8 = .ok (.iload_n 3, 1) := by decide +kernel
theorem dX11_printsWord_9 : decode cX11_printsWord 9 = .ok (.lshr, 1) := by decide +kernel
theorem dX11_printsWord_10 : decode cX11_printsWord 10 = .ok (.ldc2_w 398, 3) := by decide +kernel
theorem dX11_printsWord_13 : decode cX11_printsWord 13 = .ok (.land, 1) := by decide +kernel
theorem dX11_printsWord_14 : decode cX11_printsWord 14 = .ok (.lconst 0, 1) := by decide +kernel
theorem dX11_printsWord_15 : decode cX11_printsWord 15 = .ok (.lcmp, 1) := by decide +kernel
theorem dX11_printsWord_16 : decode cX11_printsWord 16 = .ok (.ifCond .eq 18, 3) := by decide +kernel
theorem dX11_printsWord_19 : decode cX11_printsWord 19 = .ok (.aload_n 0, 1) := by decide +kernel
theorem dX11_printsWord_20 : decode cX11_printsWord 20 = .ok (.lload_n 1, 1) := by decide +kernel
theorem dX11_printsWord_21 : decode cX11_printsWord 21 = .ok (.iload_n 3, 1) := by decide +kernel
theorem dX11_printsWord_22 : decode cX11_printsWord 22 = .ok (.lshr, 1) := by decide +kernel
theorem dX11_printsWord_23 : decode cX11_printsWord 23 = .ok (.ldc2_w 398, 3) := by decide +kernel
theorem dX11_printsWord_26 : decode cX11_printsWord 26 = .ok (.land, 1) := by decide +kernel
theorem dX11_printsWord_27 : decode cX11_printsWord 27 = .ok (.l2i, 1) := by decide +kernel
theorem dX11_printsWord_28 : decode cX11_printsWord 28 = .ok (.bipush 96, 2) := by decide +kernel
theorem dX11_printsWord_30 : decode cX11_printsWord 30 = .ok (.iadd, 1) := by decide +kernel
theorem dX11_printsWord_31 : decode cX11_printsWord 31 = .ok (.invokevirtual 400, 3) := by decide +kernel
theorem dX11_printsWord_34 : decode cX11_printsWord 34 = .ok (.iinc 3 (-5), 3) := by decide +kernel
theorem dX11_printsWord_37 : decode cX11_printsWord 37 = .ok (.goto (-34), 3) := by decide +kernel
theorem dX11_printsWord_40 : decode cX11_printsWord 40 = .ok (.return_, 1) := by decide +kernel
theorem dX11_printsNamed_0 : decode cX11_printsNamed 0 = .ok (.aload_n 0, 1) := by decide +kernel
theorem dX11_printsNamed_1 : decode cX11_printsNamed 1 = .ok (.bipush 32, 2) := by decide +kernel
theorem dX11_printsNamed_3 : decode cX11_printsNamed 3 = .ok (.invokevirtual 400, 3) := by decide +kernel
theorem dX11_printsNamed_6 : decode cX11_printsNamed 6 = .ok (.aload_n 0, 1) := by decide +kernel
theorem dX11_printsNamed_7 : decode cX11_printsNamed 7 = .ok (.aload_n 0, 1) := by decide +kernel
theorem dX11_printsNamed_8 : decode cX11_printsNamed 8 = .ok (.getfield 25, 3) := by decide +kernel
theorem dX11_printsNamed_11 : decode cX11_printsNamed 11 = .ok (.iload_n 1, 1) := by decide +kernel
theorem dX11_printsNamed_12 : decode cX11_printsNamed 12 = .ok (.laload, 1) := by decide +kernel
theorem dX11_printsNamed_13 : decode cX11_printsNamed 13 = .ok (.invokevirtual 403, 3) := by decide +kernel
theorem dX11_printsNamed_16 : decode cX11_printsNamed 16 = .ok (.return_, 1) := by decide +kernel
theorem dX11_printsNumber_0 : decode cX11_printsNumber 0 = .ok (.aload_n 0, 1) := by decide +kernel
theorem dX11_printsNumber_1 : decode cX11_printsNumber 1 = .ok (.bipush 32, 2) := by decide +kernel
theorem dX11_printsNumber_3 : decode cX11_printsNumber 3 = .ok (.invokevirtual 400, 3) := by decide +kernel
theorem dX11_printsNumber_6 : decode cX11_printsNumber 6 = .ok (.iload_n 1, 1) := by decide +kernel
theorem dX11_printsNumber_7 : decode cX11_printsNumber 7 = .ok (.bipush 99, 2) := by decide +kernel
theorem dX11_printsNumber_9 : decode cX11_printsNumber 9 = .ok (.if_icmp .le 14, 3) := by decide +kernel
theorem dX11_printsNumber_12 : decode cX11_printsNumber 12 = .ok (.aload_n 0, 1) := by decide +kernel
theorem dX11_printsNumber_13 : decode cX11_printsNumber 13 = .ok (.bipush 48, 2) := by decide +kernel
theorem dX11_printsNumber_15 : decode cX11_printsNumber 15 = .ok (.iload_n 1, 1) := by decide +kernel
theorem dX11_printsNumber_16 : decode cX11_printsNumber 16 = .ok (.bipush 100, 2) := by decide +kernel
theorem dX11_printsNumber_18 : decode cX11_printsNumber 18 = .ok (.idiv, 1) := by decide +kernel
theorem dX11_printsNumber_19 : decode cX11_printsNumber 19 = .ok (.iadd, 1) := by decide +kernel
theorem dX11_printsNumber_20 : decode cX11_printsNumber 20 = .ok (.invokevirtual 400, 3) := by decide +kernel
theorem dX11_printsNumber_23 : decode cX11_printsNumber 23 = .ok (.iload_n 1, 1) := by decide +kernel
theorem dX11_printsNumber_24 : decode cX11_printsNumber 24 = .ok (.bipush 9, 2) := by decide +kernel
theorem dX11_printsNumber_26 : decode cX11_printsNumber 26 = .ok (.if_icmp .le 17, 3) := by decide +kernel
theorem dX11_printsNumber_29 : decode cX11_printsNumber 29 = .ok (.aload_n 0, 1) := by decide +kernel
theorem dX11_printsNumber_30 : decode cX11_printsNumber 30 = .ok (.bipush 48, 2) := by decide +kernel
theorem dX11_printsNumber_32 : decode cX11_printsNumber 32 = .ok (.iload_n 1, 1) := by decide +kernel
theorem dX11_printsNumber_33 : decode cX11_printsNumber 33 = .ok (.bipush 10, 2) := by decide +kernel
theorem dX11_printsNumber_35 : decode cX11_printsNumber 35 = .ok (.idiv, 1) := by decide +kernel
theorem dX11_printsNumber_36 : decode cX11_printsNumber 36 = .ok (.bipush 10, 2) := by decide +kernel
theorem dX11_printsNumber_38 : decode cX11_printsNumber 38 = .ok (.irem, 1) := by decide +kernel
theorem dX11_printsNumber_39 : decode cX11_printsNumber 39 = .ok (.iadd, 1) := by decide +kernel
theorem dX11_printsNumber_40 : decode cX11_printsNumber 40 = .ok (.invokevirtual 400, 3) := by decide +kernel
theorem dX11_printsNumber_43 : decode cX11_printsNumber 43 = .ok (.aload_n 0, 1) := by decide +kernel
theorem dX11_printsNumber_44 : decode cX11_printsNumber 44 = .ok (.bipush 48, 2) := by decide +kernel
theorem dX11_printsNumber_46 : decode cX11_printsNumber 46 = .ok (.iload_n 1, 1) := by decide +kernel
theorem dX11_printsNumber_47 : decode cX11_printsNumber 47 = .ok (.bipush 10, 2) := by decide +kernel
theorem dX11_printsNumber_49 : decode cX11_printsNumber 49 = .ok (.irem, 1) := by decide +kernel
theorem dX11_printsNumber_50 : decode cX11_printsNumber 50 = .ok (.iadd, 1) := by decide +kernel
theorem dX11_printsNumber_51 : decode cX11_printsNumber 51 = .ok (.invokevirtual 400, 3) := by decide +kernel
theorem dX11_printsNumber_54 : decode cX11_printsNumber 54 = .ok (.return_, 1) := by decide +kernel
theorem dX11_isTold_0 : decode cX11_isTold 0 = .ok (.aload_n 0, 1) := by decide +kernel
theorem dX11_isTold_1 : decode cX11_isTold 1 = .ok (.iload_n 1, 1) := by decide +kernel
theorem dX11_isTold_2 : decode cX11_isTold 2 = .ok (.bipush 6, 2) := by decide +kernel
theorem dX11_isTold_4 : decode cX11_isTold 4 = .ok (.invokevirtual 202, 3) := by decide +kernel
theorem dX11_isTold_7 : decode cX11_isTold 7 = .ok (.ifCond .ne 30, 3) := by decide +kernel
theorem dX11_isTold_10 : decode cX11_isTold 10 = .ok (.aload_n 0, 1) := by decide +kernel
theorem dX11_isTold_11 : decode cX11_isTold 11 = .ok (.iload_n 1, 1) := by decide +kernel
theorem dX11_isTold_12 : decode cX11_isTold 12 = .ok (.iconst 2, 1) := by decide +kernel
theorem dX11_isTold_13 : decode cX11_isTold 13 = .ok (.invokevirtual 202, 3) := by decide +kernel
theorem dX11_isTold_16 : decode cX11_isTold 16 = .ok (.iconst (-1), 1) := by decide +kernel
theorem dX11_isTold_17 : decode cX11_isTold 17 = .ok (.if_icmp .eq 16, 3) := by decide +kernel
theorem dX11_isTold_20 : decode cX11_isTold 20 = .ok (.aload_n 0, 1) := by decide +kernel
theorem dX11_isTold_21 : decode cX11_isTold 21 = .ok (.aload_n 0, 1) := by decide +kernel
theorem dX11_isTold_22 : decode cX11_isTold 22 = .ok (.iload_n 1, 1) := by decide +kernel
theorem dX11_isTold_23 : decode cX11_isTold 23 = .ok (.iconst 2, 1) := by decide +kernel
theorem dX11_isTold_24 : decode cX11_isTold 24 = .ok (.invokevirtual 202, 3) := by decide +kernel
theorem dX11_isTold_27 : decode cX11_isTold 27 = .ok (.invokevirtual 208, 3) := by decide +kernel
theorem dX11_isTold_30 : decode cX11_isTold 30 = .ok (.ifCond .eq 7, 3) := by decide +kernel
theorem dX11_isTold_33 : decode cX11_isTold 33 = .ok (.iconst 1, 1) := by decide +kernel
theorem dX11_isTold_34 : decode cX11_isTold 34 = .ok (.goto 4, 3) := by decide +kernel
theorem dX11_isTold_37 : decode cX11_isTold 37 = .ok (.iconst 0, 1) := by decide +kernel
theorem dX11_isTold_38 : decode cX11_isTold 38 = .ok (.ireturn, 1) := by decide +kernel
theorem dX11_printsHouse_0 : decode cX11_printsHouse 0 = .ok (.aload_n 0, 1) := by decide +kernel
theorem dX11_printsHouse_1 : decode cX11_printsHouse 1 = .ok (.bipush 7, 2) := by decide +kernel
theorem dX11_printsHouse_3 : decode cX11_printsHouse 3 = .ok (.invokestatic 126, 3) := by decide +kernel
theorem dX11_printsHouse_6 : decode cX11_printsHouse 6 = .ok (.invokevirtual 403, 3) := by decide +kernel
theorem dX11_printsHouse_9 : decode cX11_printsHouse 9 = .ok (.aload_n 0, 1) := by decide +kernel
theorem dX11_printsHouse_10 : decode cX11_printsHouse 10 = .ok (.bipush 10, 2) := by decide +kernel
theorem dX11_printsHouse_12 : decode cX11_printsHouse 12 = .ok (.iload_n 1, 1) := by decide +kernel
theorem dX11_printsHouse_13 : decode cX11_printsHouse 13 = .ok (.iadd, 1) := by decide +kernel
theorem dX11_printsHouse_14 : decode cX11_printsHouse 14 = .ok (.invokevirtual 407, 3) := by decide +kernel
theorem dX11_printsHouse_17 : decode cX11_printsHouse 17 = .ok (.iconst 0, 1) := by decide +kernel
theorem dX11_printsHouse_18 : decode cX11_printsHouse 18 = .ok (.istore_n 2, 1) := by decide +kernel
theorem dX11_printsHouse_19 : decode cX11_printsHouse 19 = .ok (.iload_n 2, 1) := by decide +kernel
theorem dX11_printsHouse_20 : decode cX11_printsHouse 20 = .ok (.iconst 3, 1) := by decide +kernel
theorem dX11_printsHouse_21 : decode cX11_printsHouse 21 = .ok (.if_icmp .gt 19, 3) := by decide +kernel
theorem dX11_printsHouse_24 : decode cX11_printsHouse 24 = .ok (.aload_n 0, 1) := by decide +kernel
theorem dX11_printsHouse_25 : decode cX11_printsHouse 25 = .ok (.aload_n 0, 1) := by decide +kernel
theorem dX11_printsHouse_26 : decode cX11_printsHouse 26 = .ok (.iload_n 1, 1) := by decide +kernel
theorem dX11_printsHouse_27 : decode cX11_printsHouse 27 = .ok (.iload_n 2, 1) := by decide +kernel
theorem dX11_printsHouse_28 : decode cX11_printsHouse 28 = .ok (.invokevirtual 205, 3) := by decide +kernel
theorem dX11_printsHouse_31 : decode cX11_printsHouse 31 = .ok (.invokevirtual 410, 3) := by decide +kernel
theorem dX11_printsHouse_34 : decode cX11_printsHouse 34 = .ok (.iinc 2 1, 3) := by decide +kernel
theorem dX11_printsHouse_37 : decode cX11_printsHouse 37 = .ok (.goto (-18), 3) := by decide +kernel
theorem dX11_printsHouse_40 : decode cX11_printsHouse 40 = .ok (.aload_n 0, 1) := by decide +kernel
theorem dX11_printsHouse_41 : decode cX11_printsHouse 41 = .ok (.iload_n 1, 1) := by decide +kernel
theorem dX11_printsHouse_42 : decode cX11_printsHouse 42 = .ok (.iconst 4, 1) := by decide +kernel
theorem dX11_printsHouse_43 : decode cX11_printsHouse 43 = .ok (.invokevirtual 205, 3) := by decide +kernel
theorem dX11_printsHouse_46 : decode cX11_printsHouse 46 = .ok (.iconst (-1), 1) := by decide +kernel
theorem dX11_printsHouse_47 : decode cX11_printsHouse 47 = .ok (.if_icmp .eq 41, 3) := by decide +kernel
theorem dX11_printsHouse_50 : decode cX11_printsHouse 50 = .ok (.aload_n 0, 1) := by decide +kernel
theorem dX11_printsHouse_51 : decode cX11_printsHouse 51 = .ok (.aload_n 0, 1) := by decide +kernel
theorem dX11_printsHouse_52 : decode cX11_printsHouse 52 = .ok (.iload_n 1, 1) := by decide +kernel
theorem dX11_printsHouse_53 : decode cX11_printsHouse 53 = .ok (.iconst 4, 1) := by decide +kernel
theorem dX11_printsHouse_54 : decode cX11_printsHouse 54 = .ok (.invokevirtual 205, 3) := by decide +kernel
theorem dX11_printsHouse_57 : decode cX11_printsHouse 57 = .ok (.invokevirtual 413, 3) := by decide +kernel
theorem dX11_printsHouse_60 : decode cX11_printsHouse 60 = .ok (.ifCond .eq 28, 3) := by decide +kernel
theorem dX11_printsHouse_63 : decode cX11_printsHouse 63 = .ok (.aload_n 0, 1) := by decide +kernel
theorem dX11_printsHouse_64 : decode cX11_printsHouse 64 = .ok (.bipush 32, 2) := by decide +kernel
theorem dX11_printsHouse_66 : decode cX11_printsHouse 66 = .ok (.invokevirtual 400, 3) := by decide +kernel
theorem dX11_printsHouse_69 : decode cX11_printsHouse 69 = .ok (.aload_n 0, 1) := by decide +kernel
theorem dX11_printsHouse_70 : decode cX11_printsHouse 70 = .ok (.bipush 9, 2) := by decide +kernel
theorem dX11_printsHouse_72 : decode cX11_printsHouse 72 = .ok (.invokestatic 126, 3) := by decide +kernel
theorem dX11_printsHouse_75 : decode cX11_printsHouse 75 = .ok (.invokevirtual 403, 3) := by decide +kernel
theorem dX11_printsHouse_78 : decode cX11_printsHouse 78 = .ok (.aload_n 0, 1) := by decide +kernel
theorem dX11_printsHouse_79 : decode cX11_printsHouse 79 = .ok (.aload_n 0, 1) := by decide +kernel
theorem dX11_printsHouse_80 : decode cX11_printsHouse 80 = .ok (.iload_n 1, 1) := by decide +kernel
theorem dX11_printsHouse_81 : decode cX11_printsHouse 81 = .ok (.iconst 4, 1) := by decide +kernel
theorem dX11_printsHouse_82 : decode cX11_printsHouse 82 = .ok (.invokevirtual 205, 3) := by decide +kernel
theorem dX11_printsHouse_85 : decode cX11_printsHouse 85 = .ok (.invokevirtual 407, 3) := by decide +kernel
theorem dX11_printsHouse_88 : decode cX11_printsHouse 88 = .ok (.iconst 0, 1) := by decide +kernel
theorem dX11_printsHouse_89 : decode cX11_printsHouse 89 = .ok (.istore_n 2, 1) := by decide +kernel
theorem dX11_printsHouse_90 : decode cX11_printsHouse 90 = .ok (.iload_n 2, 1) := by decide +kernel
theorem dX11_printsHouse_91 : decode cX11_printsHouse 91 = .ok (.aload_n 0, 1) := by decide +kernel
theorem dX11_printsHouse_92 : decode cX11_printsHouse 92 = .ok (.iload_n 1, 1) := by decide +kernel
theorem dX11_printsHouse_93 : decode cX11_printsHouse 93 = .ok (.bipush 11, 2) := by decide +kernel
theorem dX11_printsHouse_95 : decode cX11_printsHouse 95 = .ok (.invokevirtual 205, 3) := by decide +kernel
theorem dX11_printsHouse_98 : decode cX11_printsHouse 98 = .ok (.if_icmp .ge 38, 3) := by decide +kernel
theorem dX11_printsHouse_101 : decode cX11_printsHouse 101 = .ok (.aload_n 0, 1) := by decide +kernel
theorem dX11_printsHouse_102 : decode cX11_printsHouse 102 = .ok (.aload_n 0, 1) := by decide +kernel
theorem dX11_printsHouse_103 : decode cX11_printsHouse 103 = .ok (.iload_n 1, 1) := by decide +kernel
theorem dX11_printsHouse_104 : decode cX11_printsHouse 104 = .ok (.bipush 12, 2) := by decide +kernel
theorem dX11_printsHouse_106 : decode cX11_printsHouse 106 = .ok (.iload_n 2, 1) := by decide +kernel
theorem dX11_printsHouse_107 : decode cX11_printsHouse 107 = .ok (.iadd, 1) := by decide +kernel
theorem dX11_printsHouse_108 : decode cX11_printsHouse 108 = .ok (.invokevirtual 205, 3) := by decide +kernel
theorem dX11_printsHouse_111 : decode cX11_printsHouse 111 = .ok (.invokevirtual 413, 3) := by decide +kernel
theorem dX11_printsHouse_114 : decode cX11_printsHouse 114 = .ok (.ifCond .eq 16, 3) := by decide +kernel
theorem dX11_printsHouse_117 : decode cX11_printsHouse 117 = .ok (.aload_n 0, 1) := by decide +kernel
theorem dX11_printsHouse_118 : decode cX11_printsHouse 118 = .ok (.aload_n 0, 1) := by decide +kernel
theorem dX11_printsHouse_119 : decode cX11_printsHouse 119 = .ok (.iload_n 1, 1) := by decide +kernel
theorem dX11_printsHouse_120 : decode cX11_printsHouse 120 = .ok (.bipush 12, 2) := by decide +kernel
theorem dX11_printsHouse_122 : decode cX11_printsHouse 122 = .ok (.iload_n 2, 1) := by decide +kernel
theorem dX11_printsHouse_123 : decode cX11_printsHouse 123 = .ok (.iadd, 1) := by decide +kernel
theorem dX11_printsHouse_124 : decode cX11_printsHouse 124 = .ok (.invokevirtual 205, 3) := by decide +kernel
theorem dX11_printsHouse_127 : decode cX11_printsHouse 127 = .ok (.invokevirtual 407, 3) := by decide +kernel
theorem dX11_printsHouse_130 : decode cX11_printsHouse 130 = .ok (.iinc 2 1, 3) := by decide +kernel
theorem dX11_printsHouse_133 : decode cX11_printsHouse 133 = .ok (.goto (-43), 3) := by decide +kernel
theorem dX11_printsHouse_136 : decode cX11_printsHouse 136 = .ok (.aload_n 0, 1) := by decide +kernel
theorem dX11_printsHouse_137 : decode cX11_printsHouse 137 = .ok (.bipush 59, 2) := by decide +kernel
theorem dX11_printsHouse_139 : decode cX11_printsHouse 139 = .ok (.invokevirtual 400, 3) := by decide +kernel
theorem dX11_printsHouse_142 : decode cX11_printsHouse 142 = .ok (.return_, 1) := by decide +kernel
theorem dX11_print_0 : decode cX11_print 0 = .ok (.aload_n 0, 1) := by decide +kernel
theorem dX11_print_1 : decode cX11_print 1 = .ok (.iconst 0, 1) := by decide +kernel
theorem dX11_print_2 : decode cX11_print 2 = .ok (.putfield 395, 3) := by decide +kernel
theorem dX11_print_5 : decode cX11_print 5 = .ok (.iconst 0, 1) := by decide +kernel
theorem dX11_print_6 : decode cX11_print 6 = .ok (.istore_n 1, 1) := by decide +kernel
theorem dX11_print_7 : decode cX11_print 7 = .ok (.iload_n 1, 1) := by decide +kernel
theorem dX11_print_8 : decode cX11_print 8 = .ok (.bipush 6, 2) := by decide +kernel
theorem dX11_print_10 : decode cX11_print 10 = .ok (.if_icmp .ge 52, 3) := by decide +kernel
theorem dX11_print_13 : decode cX11_print 13 = .ok (.aload_n 0, 1) := by decide +kernel
theorem dX11_print_14 : decode cX11_print 14 = .ok (.bipush 8, 2) := by decide +kernel
theorem dX11_print_16 : decode cX11_print 16 = .ok (.invokestatic 126, 3) := by decide +kernel
theorem dX11_print_19 : decode cX11_print 19 = .ok (.invokevirtual 403, 3) := by decide +kernel
theorem dX11_print_22 : decode cX11_print 22 = .ok (.aload_n 0, 1) := by decide +kernel
theorem dX11_print_23 : decode cX11_print 23 = .ok (.bipush 32, 2) := by decide +kernel
theorem dX11_print_25 : decode cX11_print 25 = .ok (.invokevirtual 400, 3) := by decide +kernel
theorem dX11_print_28 : decode cX11_print 28 = .ok (.aload_n 0, 1) := by decide +kernel
theorem dX11_print_29 : decode cX11_print 29 = .ok (.iload_n 1, 1) := by decide +kernel
theorem dX11_print_30 : decode cX11_print 30 = .ok (.invokestatic 126, 3) := by decide +kernel
theorem dX11_print_33 : decode cX11_print 33 = .ok (.invokevirtual 403, 3) := by decide +kernel
theorem dX11_print_36 : decode cX11_print 36 = .ok (.aload_n 0, 1) := by decide +kernel
theorem dX11_print_37 : decode cX11_print 37 = .ok (.aload_n 0, 1) := by decide +kernel
theorem dX11_print_38 : decode cX11_print 38 = .ok (.getfield 7, 3) := by decide +kernel
theorem dX11_print_41 : decode cX11_print 41 = .ok (.sipush 224, 3) := by decide +kernel
theorem dX11_print_44 : decode cX11_print 44 = .ok (.iload_n 1, 1) := by decide +kernel
theorem dX11_print_45 : decode cX11_print 45 = .ok (.iadd, 1) := by decide +kernel
theorem dX11_print_46 : decode cX11_print 46 = .ok (.iaload, 1) := by decide +kernel
theorem dX11_print_47 : decode cX11_print 47 = .ok (.invokevirtual 410, 3) := by decide +kernel
theorem dX11_print_50 : decode cX11_print 50 = .ok (.aload_n 0, 1) := by decide +kernel
theorem dX11_print_51 : decode cX11_print 51 = .ok (.bipush 59, 2) := by decide +kernel
theorem dX11_print_53 : decode cX11_print 53 = .ok (.invokevirtual 400, 3) := by decide +kernel
theorem dX11_print_56 : decode cX11_print 56 = .ok (.iinc 1 1, 3) := by decide +kernel
theorem dX11_print_59 : decode cX11_print 59 = .ok (.goto (-52), 3) := by decide +kernel
theorem dX11_print_62 : decode cX11_print 62 = .ok (.iconst 0, 1) := by decide +kernel
theorem dX11_print_63 : decode cX11_print 63 = .ok (.istore_n 1, 1) := by decide +kernel
theorem dX11_print_64 : decode cX11_print 64 = .ok (.iload_n 1, 1) := by decide +kernel
theorem dX11_print_65 : decode cX11_print 65 = .ok (.aload_n 0, 1) := by decide +kernel
theorem dX11_print_66 : decode cX11_print 66 = .ok (.getfield 7, 3) := by decide +kernel
theorem dX11_print_69 : decode cX11_print 69 = .ok (.sipush 230, 3) := by decide +kernel
theorem dX11_print_72 : decode cX11_print 72 = .ok (.iaload, 1) := by decide +kernel
theorem dX11_print_73 : decode cX11_print 73 = .ok (.if_icmp .ge 60, 3) := by decide +kernel
theorem dX11_print_76 : decode cX11_print 76 = .ok (.aload_n 0, 1) := by decide +kernel
theorem dX11_print_77 : decode cX11_print 77 = .ok (.iload_n 1, 1) := by decide +kernel
theorem dX11_print_78 : decode cX11_print 78 = .ok (.invokevirtual 413, 3) := by decide +kernel
theorem dX11_print_81 : decode cX11_print 81 = .ok (.ifCond .ne 6, 3) := by decide +kernel
theorem dX11_print_84 : decode cX11_print 84 = .ok (.goto 43, 3) := by decide +kernel
theorem dX11_print_87 : decode cX11_print 87 = .ok (.aload_n 0, 1) := by decide +kernel
theorem dX11_print_88 : decode cX11_print 88 = .ok (.bipush 6, 2) := by decide +kernel
theorem dX11_print_90 : decode cX11_print 90 = .ok (.invokestatic 126, 3) := by decide +kernel
theorem dX11_print_93 : decode cX11_print 93 = .ok (.invokevirtual 403, 3) := by decide +kernel
theorem dX11_print_96 : decode cX11_print 96 = .ok (.aload_n 0, 1) := by decide +kernel
theorem dX11_print_97 : decode cX11_print 97 = .ok (.iload_n 1, 1) := by decide +kernel
theorem dX11_print_98 : decode cX11_print 98 = .ok (.invokevirtual 407, 3) := by decide +kernel
theorem dX11_print_101 : decode cX11_print 101 = .ok (.aload_n 0, 1) := by decide +kernel
theorem dX11_print_102 : decode cX11_print 102 = .ok (.aload_n 0, 1) := by decide +kernel
theorem dX11_print_103 : decode cX11_print 103 = .ok (.iload_n 1, 1) := by decide +kernel
theorem dX11_print_104 : decode cX11_print 104 = .ok (.iconst 0, 1) := by decide +kernel
theorem dX11_print_105 : decode cX11_print 105 = .ok (.invokevirtual 202, 3) := by decide +kernel
theorem dX11_print_108 : decode cX11_print 108 = .ok (.invokevirtual 410, 3) := by decide +kernel
theorem dX11_print_111 : decode cX11_print 111 = .ok (.aload_n 0, 1) := by decide +kernel
theorem dX11_print_112 : decode cX11_print 112 = .ok (.aload_n 0, 1) := by decide +kernel
theorem dX11_print_113 : decode cX11_print 113 = .ok (.iload_n 1, 1) := by decide +kernel
theorem dX11_print_114 : decode cX11_print 114 = .ok (.iconst 1, 1) := by decide +kernel
theorem dX11_print_115 : decode cX11_print 115 = .ok (.invokevirtual 202, 3) := by decide +kernel
theorem dX11_print_118 : decode cX11_print 118 = .ok (.invokevirtual 410, 3) := by decide +kernel
theorem dX11_print_121 : decode cX11_print 121 = .ok (.aload_n 0, 1) := by decide +kernel
theorem dX11_print_122 : decode cX11_print 122 = .ok (.bipush 59, 2) := by decide +kernel
theorem dX11_print_124 : decode cX11_print 124 = .ok (.invokevirtual 400, 3) := by decide +kernel
theorem dX11_print_127 : decode cX11_print 127 = .ok (.iinc 1 1, 3) := by decide +kernel
theorem dX11_print_130 : decode cX11_print 130 = .ok (.goto (-66), 3) := by decide +kernel
theorem dX11_print_133 : decode cX11_print 133 = .ok (.iconst 0, 1) := by decide +kernel
theorem dX11_print_134 : decode cX11_print 134 = .ok (.istore_n 1, 1) := by decide +kernel
theorem dX11_print_135 : decode cX11_print 135 = .ok (.iload_n 1, 1) := by decide +kernel
theorem dX11_print_136 : decode cX11_print 136 = .ok (.aload_n 0, 1) := by decide +kernel
theorem dX11_print_137 : decode cX11_print 137 = .ok (.getfield 7, 3) := by decide +kernel
theorem dX11_print_140 : decode cX11_print 140 = .ok (.sipush 231, 3) := by decide +kernel
theorem dX11_print_143 : decode cX11_print 143 = .ok (.iaload, 1) := by decide +kernel
theorem dX11_print_144 : decode cX11_print 144 = .ok (.if_icmp .ge 22, 3) := by decide +kernel
theorem dX11_print_147 : decode cX11_print 147 = .ok (.aload_n 0, 1) := by decide +kernel
theorem dX11_print_148 : decode cX11_print 148 = .ok (.iload_n 1, 1) := by decide +kernel
theorem dX11_print_149 : decode cX11_print 149 = .ok (.invokevirtual 208, 3) := by decide +kernel
theorem dX11_print_152 : decode cX11_print 152 = .ok (.ifCond .eq 8, 3) := by decide +kernel
theorem dX11_print_155 : decode cX11_print 155 = .ok (.aload_n 0, 1) := by decide +kernel
theorem dX11_print_156 : decode cX11_print 156 = .ok (.iload_n 1, 1) := by decide +kernel
theorem dX11_print_157 : decode cX11_print 157 = .ok (.invokevirtual 416, 3) := by decide +kernel
theorem dX11_print_160 : decode cX11_print 160 = .ok (.iinc 1 1, 3) := by decide +kernel
theorem dX11_print_163 : decode cX11_print 163 = .ok (.goto (-28), 3) := by decide +kernel
theorem dX11_print_166 : decode cX11_print 166 = .ok (.aload_n 0, 1) := by decide +kernel
theorem dX11_print_167 : decode cX11_print 167 = .ok (.aload_n 0, 1) := by decide +kernel
theorem dX11_print_168 : decode cX11_print 168 = .ok (.getfield 395, 3) := by decide +kernel
theorem dX11_print_171 : decode cX11_print 171 = .ok (.invokevirtual 199, 3) := by decide +kernel
theorem dX11_print_174 : decode cX11_print 174 = .ok (.ireturn, 1) := by decide +kernel
theorem dX11_out_0 : decode cX11_out 0 = .ok (.aload_n 0, 1) := by decide +kernel
theorem dX11_out_1 : decode cX11_out 1 = .ok (.iload_n 1, 1) := by decide +kernel
theorem dX11_out_2 : decode cX11_out 2 = .ok (.ifCond .lt 11, 3) := by decide +kernel
theorem dX11_out_5 : decode cX11_out 5 = .ok (.iload_n 1, 1) := by decide +kernel
theorem dX11_out_6 : decode cX11_out 6 = .ok (.aload_n 0, 1) := by decide +kernel
theorem dX11_out_7 : decode cX11_out 7 = .ok (.getfield 395, 3) := by decide +kernel
theorem dX11_out_10 : decode cX11_out 10 = .ok (.if_icmp .lt 7, 3) := by decide +kernel
theorem dX11_out_13 : decode cX11_out 13 = .ok (.iconst 1, 1) := by decide +kernel
theorem dX11_out_14 : decode cX11_out 14 = .ok (.goto 4, 3) := by decide +kernel
theorem dX11_out_17 : decode cX11_out 17 = .ok (.iconst 0, 1) := by decide +kernel
theorem dX11_out_18 : decode cX11_out 18 = .ok (.putfield 65, 3) := by decide +kernel
theorem dX11_out_21 : decode cX11_out 21 = .ok (.aload_n 0, 1) := by decide +kernel
theorem dX11_out_22 : decode cX11_out 22 = .ok (.getfield 65, 3) := by decide +kernel
theorem dX11_out_25 : decode cX11_out 25 = .ok (.iconst 1, 1) := by decide +kernel
theorem dX11_out_26 : decode cX11_out 26 = .ok (.if_icmp .ne 7, 3) := by decide +kernel
theorem dX11_out_29 : decode cX11_out 29 = .ok (.iconst 0, 1) := by decide +kernel
theorem dX11_out_30 : decode cX11_out 30 = .ok (.goto 9, 3) := by decide +kernel
theorem dX11_out_33 : decode cX11_out 33 = .ok (.aload_n 0, 1) := by decide +kernel
theorem dX11_out_34 : decode cX11_out 34 = .ok (.getfield 57, 3) := by decide +kernel
theorem dX11_out_37 : decode cX11_out 37 = .ok (.iload_n 1, 1) := by decide +kernel
theorem dX11_out_38 : decode cX11_out 38 = .ok (.baload, 1) := by decide +kernel
theorem dX11_out_39 : decode cX11_out 39 = .ok (.ireturn, 1) := by decide +kernel
