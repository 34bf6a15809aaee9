theorem d_AR_spread_72 : decode b_AR_spread 72 = .ok (.iload 8, 2) := by decide +kernel
theorem d_AR_spread_74 : decode b_AR_spread 74 = .ok (.iload_n 2, 1) := by decide +kernel
theorem d_AR_spread_75 : decode b_AR_spread 75 = .ok (.iload_n 3, 1) := by decide +kernel
theorem d_AR_spread_76 : decode b_AR_spread 76 = .ok (.aload 5, 2) := by decide +kernel
theorem d_AR_spread_78 : decode b_AR_spread 78 = .ok (.iload 7, 2) := by decide +kernel
theorem d_AR_spread_80 : decode b_AR_spread 80 = .ok (.invokevirtual 98, 3) := by decide +kernel
theorem d_AR_spread_83 : decode b_AR_spread 83 = .ok (.iinc 8 1, 3) := by decide +kernel
theorem d_AR_spread_86 : decode b_AR_spread 86 = .ok (.goto (-36), 3) := by decide +kernel
theorem d_AR_spread_89 : decode b_AR_spread 89 = .ok (.aload_n 0, 1) := by decide +kernel
theorem d_AR_spread_90 : decode b_AR_spread 90 = .ok (.getfield 19, 3) := by decide +kernel
theorem d_AR_spread_93 : decode b_AR_spread 93 = .ok (.iload_n 2, 1) := by decide +kernel
theorem d_AR_spread_94 : decode b_AR_spread 94 = .ok (.invokevirtual 102, 3) := by decide +kernel
theorem d_AR_spread_97 : decode b_AR_spread 97 = .ok (.ifCond .eq 12, 3) := by decide +kernel
theorem d_AR_spread_100 : decode b_AR_spread 100 = .ok (.aload 5, 2) := by decide +kernel
theorem d_AR_spread_102 : decode b_AR_spread 102 = .ok (.iload 7, 2) := by decide +kernel
theorem d_AR_spread_104 : decode b_AR_spread 104 = .ok (.iload_n 2, 1) := by decide +kernel
theorem d_AR_spread_105 : decode b_AR_spread 105 = .ok (.iconst 0, 1) := by decide +kernel
theorem d_AR_spread_106 : decode b_AR_spread 106 = .ok (.invokevirtual 105, 3) := by decide +kernel
theorem d_AR_spread_109 : decode b_AR_spread 109 = .ok (.iinc 7 1, 3) := by decide +kernel
theorem d_AR_spread_112 : decode b_AR_spread 112 = .ok (.goto (-86), 3) := by decide +kernel
theorem d_AR_spread_115 : decode b_AR_spread 115 = .ok (.iload 6, 2) := by decide +kernel
theorem d_AR_spread_117 : decode b_AR_spread 117 = .ok (.ireturn, 1) := by decide +kernel
theorem d_Ba_has_0 : decode b_Ba_has 0 = .ok (.aload_n 0, 1) := by decide +kernel
theorem d_Ba_has_1 : decode b_Ba_has 1 = .ok (.getfield 9, 3) := by decide +kernel
theorem d_Ba_has_4 : decode b_Ba_has 4 = .ok (.iload_n 1, 1) := by decide +kernel
theorem d_Ba_has_5 : decode b_Ba_has 5 = .ok (.iaload, 1) := by decide +kernel
theorem d_Ba_has_6 : decode b_Ba_has 6 = .ok (.ifCond .le 7, 3) := by decide +kernel
theorem d_Ba_has_9 : decode b_Ba_has 9 = .ok (.iconst 1, 1) := by decide +kernel
theorem d_Ba_has_10 : decode b_Ba_has 10 = .ok (.goto 4, 3) := by decide +kernel
theorem d_Ba_has_13 : decode b_Ba_has 13 = .ok (.iconst 0, 1) := by decide +kernel
theorem d_Ba_has_14 : decode b_Ba_has 14 = .ok (.ireturn, 1) := by decide +kernel
theorem d_Ba_compareWithTold_0 : decode b_Ba_compareWithTold 0 = .ok (.aload_n 0, 1) := by decide +kernel
theorem d_Ba_compareWithTold_1 : decode b_Ba_compareWithTold 1 = .ok (.aload_n 1, 1) := by decide +kernel
theorem d_Ba_compareWithTold_2 : decode b_Ba_compareWithTold 2 = .ok (.iload_n 2, 1) := by decide +kernel
theorem d_Ba_compareWithTold_3 : decode b_Ba_compareWithTold 3 = .ok (.invokevirtual 54, 3) := by decide +kernel
theorem d_Ba_compareWithTold_6 : decode b_Ba_compareWithTold 6 = .ok (.istore 4, 2) := by decide +kernel
theorem d_Ba_compareWithTold_8 : decode b_Ba_compareWithTold 8 = .ok (.aload_n 0, 1) := by decide +kernel
theorem d_Ba_compareWithTold_9 : decode b_Ba_compareWithTold 9 = .ok (.iload_n 2, 1) := by decide +kernel
theorem d_Ba_compareWithTold_10 : decode b_Ba_compareWithTold 10 = .ok (.iload_n 3, 1) := by decide +kernel
theorem d_Ba_compareWithTold_11 : decode b_Ba_compareWithTold 11 = .ok (.iload 4, 2) := by decide +kernel
theorem d_Ba_compareWithTold_13 : decode b_Ba_compareWithTold 13 = .ok (.ifCond .le 7, 3) := by decide +kernel
theorem d_Ba_compareWithTold_16 : decode b_Ba_compareWithTold 16 = .ok (.iconst 1, 1) := by decide +kernel
theorem d_Ba_compareWithTold_17 : decode b_Ba_compareWithTold 17 = .ok (.goto 4, 3) := by decide +kernel
theorem d_Ba_compareWithTold_20 : decode b_Ba_compareWithTold 20 = .ok (.iconst 0, 1) := by decide +kernel
theorem d_Ba_compareWithTold_21 : decode b_Ba_compareWithTold 21 = .ok (.invokevirtual 58, 3) := by decide +kernel
theorem d_Ba_compareWithTold_24 : decode b_Ba_compareWithTold 24 = .ok (.iload 4, 2) := by decide +kernel
theorem d_Ba_compareWithTold_26 : decode b_Ba_compareWithTold 26 = .ok (.ifCond .ge 10, 3) := by decide +kernel
theorem d_Ba_compareWithTold_29 : decode b_Ba_compareWithTold 29 = .ok (.aload_n 0, 1) := by decide +kernel
theorem d_Ba_compareWithTold_30 : decode b_Ba_compareWithTold 30 = .ok (.iload_n 2, 1) := by decide +kernel
theorem d_Ba_compareWithTold_31 : decode b_Ba_compareWithTold 31 = .ok (.iload_n 3, 1) := by decide +kernel
theorem d_Ba_compareWithTold_32 : decode b_Ba_compareWithTold 32 = .ok (.iconst 1, 1) := by decide +kernel
theorem d_Ba_compareWithTold_33 : decode b_Ba_compareWithTold 33 = .ok (.invokevirtual 62, 3) := by decide +kernel
theorem d_Ba_compareWithTold_36 : decode b_Ba_compareWithTold 36 = .ok (.return_, 1) := by decide +kernel
theorem d_Ba_compareWithSummary_0 : decode b_Ba_compareWithSummary 0 = .ok (.iconst 0, 1) := by decide +kernel
theorem d_Ba_compareWithSummary_1 : decode b_Ba_compareWithSummary 1 = .ok (.istore_n 3, 1) := by decide +kernel
theorem d_Ba_compareWithSummary_2 : decode b_Ba_compareWithSummary 2 = .ok (.iload_n 3, 1) := by decide +kernel
theorem d_Ba_compareWithSummary_3 : decode b_Ba_compareWithSummary 3 = .ok (.bipush 42, 2) := by decide +kernel
theorem d_Ba_compareWithSummary_5 : decode b_Ba_compareWithSummary 5 = .ok (.if_icmp .ge 42, 3) := by decide +kernel
theorem d_Ba_compareWithSummary_8 : decode b_Ba_compareWithSummary 8 = .ok (.aload_n 1, 1) := by decide +kernel
theorem d_Ba_compareWithSummary_9 : decode b_Ba_compareWithSummary 9 = .ok (.iload_n 3, 1) := by decide +kernel
theorem d_Ba_compareWithSummary_10 : decode b_Ba_compareWithSummary 10 = .ok (.invokevirtual 43, 3) := by decide +kernel
theorem d_Ba_compareWithSummary_13 : decode b_Ba_compareWithSummary 13 = .ok (.ifCond .eq 13, 3) := by decide +kernel
theorem d_Ba_compareWithSummary_16 : decode b_Ba_compareWithSummary 16 = .ok (.aload_n 0, 1) := by decide +kernel
theorem d_Ba_compareWithSummary_17 : decode b_Ba_compareWithSummary 17 = .ok (.aload_n 1, 1) := by decide +kernel
theorem d_Ba_compareWithSummary_18 : decode b_Ba_compareWithSummary 18 = .ok (.iload_n 3, 1) := by decide +kernel
theorem d_Ba_compareWithSummary_19 : decode b_Ba_compareWithSummary 19 = .ok (.iload_n 2, 1) := by decide +kernel
theorem d_Ba_compareWithSummary_20 : decode b_Ba_compareWithSummary 20 = .ok (.invokevirtual 65, 3) := by decide +kernel
theorem d_Ba_compareWithSummary_23 : decode b_Ba_compareWithSummary 23 = .ok (.goto 18, 3) := by decide +kernel
theorem d_Ba_compareWithSummary_26 : decode b_Ba_compareWithSummary 26 = .ok (.aload_n 0, 1) := by decide +kernel
theorem d_Ba_compareWithSummary_27 : decode b_Ba_compareWithSummary 27 = .ok (.iload_n 3, 1) := by decide +kernel
theorem d_Ba_compareWithSummary_28 : decode b_Ba_compareWithSummary 28 = .ok (.invokevirtual 51, 3) := by decide +kernel
theorem d_Ba_compareWithSummary_31 : decode b_Ba_compareWithSummary 31 = .ok (.ifCond .eq 10, 3) := by decide +kernel
theorem d_Ba_compareWithSummary_34 : decode b_Ba_compareWithSummary 34 = .ok (.aload_n 0, 1) := by decide +kernel
theorem d_Ba_compareWithSummary_35 : decode b_Ba_compareWithSummary 35 = .ok (.iload_n 3, 1) := by decide +kernel
theorem d_Ba_compareWithSummary_36 : decode b_Ba_compareWithSummary 36 = .ok (.iload_n 2, 1) := by decide +kernel
theorem d_Ba_compareWithSummary_37 : decode b_Ba_compareWithSummary 37 = .ok (.iconst 1, 1) := by decide +kernel
theorem d_Ba_compareWithSummary_38 : decode b_Ba_compareWithSummary 38 = .ok (.invokevirtual 58, 3) := by decide +kernel
theorem d_Ba_compareWithSummary_41 : decode b_Ba_compareWithSummary 41 = .ok (.iinc 3 1, 3) := by decide +kernel
theorem d_Ba_compareWithSummary_44 : decode b_Ba_compareWithSummary 44 = .ok (.goto (-42), 3) := by decide +kernel
theorem d_Ba_compareWithSummary_47 : decode b_Ba_compareWithSummary 47 = .ok (.return_, 1) := by decide +kernel
theorem d_Ba_count_0 : decode b_Ba_count 0 = .ok (.iconst 0, 1) := by decide +kernel
theorem d_Ba_count_1 : decode b_Ba_count 1 = .ok (.istore_n 1, 1) := by decide +kernel
theorem d_Ba_count_2 : decode b_Ba_count 2 = .ok (.iconst 0, 1) := by decide +kernel
theorem d_Ba_count_3 : decode b_Ba_count 3 = .ok (.istore_n 2, 1) := by decide +kernel
theorem d_Ba_count_4 : decode b_Ba_count 4 = .ok (.iload_n 2, 1) := by decide +kernel
theorem d_Ba_count_5 : decode b_Ba_count 5 = .ok (.bipush 42, 2) := by decide +kernel
theorem d_Ba_count_7 : decode b_Ba_count 7 = .ok (.if_icmp .ge 20, 3) := by decide +kernel
theorem d_Ba_count_10 : decode b_Ba_count 10 = .ok (.aload_n 0, 1) := by decide +kernel
theorem d_Ba_count_11 : decode b_Ba_count 11 = .ok (.iload_n 2, 1) := by decide +kernel
theorem d_Ba_count_12 : decode b_Ba_count 12 = .ok (.invokevirtual 43, 3) := by decide +kernel
theorem d_Ba_count_15 : decode b_Ba_count 15 = .ok (.ifCond .eq 6, 3) := by decide +kernel
theorem d_Ba_count_18 : decode b_Ba_count 18 = .ok (.iinc 1 1, 3) := by decide +kernel
theorem d_Ba_count_21 : decode b_Ba_count 21 = .ok (.iinc 2 1, 3) := by decide +kernel
theorem d_Ba_count_24 : decode b_Ba_count 24 = .ok (.goto (-20), 3) := by decide +kernel
theorem d_Ba_count_27 : decode b_Ba_count 27 = .ok (.iload_n 1, 1) := by decide +kernel
theorem d_Ba_count_28 : decode b_Ba_count 28 = .ok (.ireturn, 1) := by decide +kernel
theorem d_AR_summary_0 : decode b_AR_summary 0 = .ok (.aload_n 0, 1) := by decide +kernel
theorem d_AR_summary_1 : decode b_AR_summary 1 = .ok (.iload_n 1, 1) := by decide +kernel
theorem d_AR_summary_2 : decode b_AR_summary 2 = .ok (.iload_n 2, 1) := by decide +kernel
theorem d_AR_summary_3 : decode b_AR_summary 3 = .ok (.invokevirtual 73, 3) := by decide +kernel
theorem d_AR_summary_6 : decode b_AR_summary 6 = .ok (.aload_n 0, 1) := by decide +kernel
theorem d_AR_summary_7 : decode b_AR_summary 7 = .ok (.iload_n 1, 1) := by decide +kernel
theorem d_AR_summary_8 : decode b_AR_summary 8 = .ok (.iload_n 3, 1) := by decide +kernel
theorem d_AR_summary_9 : decode b_AR_summary 9 = .ok (.invokevirtual 84, 3) := by decide +kernel
theorem d_AR_summary_12 : decode b_AR_summary 12 = .ok (.aload_n 0, 1) := by decide +kernel
theorem d_AR_summary_13 : decode b_AR_summary 13 = .ok (.iload_n 1, 1) := by decide +kernel
theorem d_AR_summary_14 : decode b_AR_summary 14 = .ok (.iload_n 3, 1) := by decide +kernel
theorem d_AR_summary_15 : decode b_AR_summary 15 = .ok (.invokevirtual 87, 3) := by decide +kernel
theorem d_AR_summary_18 : decode b_AR_summary 18 = .ok (.astore 5, 2) := by decide +kernel
theorem d_AR_summary_20 : decode b_AR_summary 20 = .ok (.iconst 0, 1) := by decide +kernel
theorem d_AR_summary_21 : decode b_AR_summary 21 = .ok (.istore 6, 2) := by decide +kernel
theorem d_AR_summary_23 : decode b_AR_summary 23 = .ok (.iload 6, 2) := by decide +kernel
theorem d_AR_summary_25 : decode b_AR_summary 25 = .ok (.bipush 6, 2) := by decide +kernel
theorem d_AR_summary_27 : decode b_AR_summary 27 = .ok (.if_icmp .ge 36, 3) := by decide +kernel
theorem d_AR_summary_30 : decode b_AR_summary 30 = .ok (.aload_n 0, 1) := by decide +kernel
theorem d_AR_summary_31 : decode b_AR_summary 31 = .ok (.iload 6, 2) := by decide +kernel
theorem d_AR_summary_33 : decode b_AR_summary 33 = .ok (.iload_n 1, 1) := by decide +kernel
theorem d_AR_summary_34 : decode b_AR_summary 34 = .ok (.iload_n 2, 1) := by decide +kernel
theorem d_AR_summary_35 : decode b_AR_summary 35 = .ok (.iload_n 3, 1) := by decide +kernel
theorem d_AR_summary_36 : decode b_AR_summary 36 = .ok (.iload 4, 2) := by decide +kernel
theorem d_AR_summary_38 : decode b_AR_summary 38 = .ok (.invokevirtual 94, 3) := by decide +kernel
theorem d_AR_summary_41 : decode b_AR_summary 41 = .ok (.ifCond .eq 16, 3) := by decide +kernel
theorem d_AR_summary_44 : decode b_AR_summary 44 = .ok (.aload_n 0, 1) := by decide +kernel
theorem d_AR_summary_45 : decode b_AR_summary 45 = .ok (.iload 6, 2) := by decide +kernel
theorem d_AR_summary_47 : decode b_AR_summary 47 = .ok (.iload_n 3, 1) := by decide +kernel
theorem d_AR_summary_48 : decode b_AR_summary 48 = .ok (.invokevirtual 87, 3) := by decide +kernel
theorem d_AR_summary_51 : decode b_AR_summary 51 = .ok (.aload 5, 2) := by decide +kernel
theorem d_AR_summary_53 : decode b_AR_summary 53 = .ok (.iload_n 2, 1) := by decide +kernel
theorem d_AR_summary_54 : decode b_AR_summary 54 = .ok (.invokevirtual 109, 3) := by decide +kernel
theorem d_AR_summary_57 : decode b_AR_summary 57 = .ok (.iinc 6 1, 3) := by decide +kernel
theorem d_AR_summary_60 : decode b_AR_summary 60 = .ok (.goto (-37), 3) := by decide +kernel
theorem d_AR_summary_63 : decode b_AR_summary 63 = .ok (.aload 5, 2) := by decide +kernel
theorem d_AR_summary_65 : decode b_AR_summary 65 = .ok (.invokevirtual 113, 3) := by decide +kernel
theorem d_AR_summary_68 : decode b_AR_summary 68 = .ok (.ireturn, 1) := by decide +kernel
theorem d_Ba_isAsked_0 : decode b_Ba_isAsked 0 = .ok (.aload_n 0, 1) := by decide +kernel
theorem d_Ba_isAsked_1 : decode b_Ba_isAsked 1 = .ok (.getfield 40, 3) := by decide +kernel
theorem d_Ba_isAsked_4 : decode b_Ba_isAsked 4 = .ok (.iload_n 1, 1) := by decide +kernel
theorem d_Ba_isAsked_5 : decode b_Ba_isAsked 5 = .ok (.iaload, 1) := by decide +kernel
theorem d_Ba_isAsked_6 : decode b_Ba_isAsked 6 = .ok (.iload_n 2, 1) := by decide +kernel
theorem d_Ba_isAsked_7 : decode b_Ba_isAsked 7 = .ok (.ishr, 1) := by decide +kernel
theorem d_Ba_isAsked_8 : decode b_Ba_isAsked 8 = .ok (.iconst 1, 1) := by decide +kernel
theorem d_Ba_isAsked_9 : decode b_Ba_isAsked 9 = .ok (.iand, 1) := by decide +kernel
theorem d_Ba_isAsked_10 : decode b_Ba_isAsked 10 = .ok (.ifCond .eq 7, 3) := by decide +kernel
theorem d_Ba_isAsked_13 : decode b_Ba_isAsked 13 = .ok (.iconst 1, 1) := by decide +kernel
theorem d_Ba_isAsked_14 : decode b_Ba_isAsked 14 = .ok (.goto 4, 3) := by decide +kernel
theorem d_Ba_isAsked_17 : decode b_Ba_isAsked 17 = .ok (.iconst 0, 1) := by decide +kernel
theorem d_Ba_isAsked_18 : decode b_Ba_isAsked 18 = .ok (.ireturn, 1) := by decide +kernel
theorem d_AR_request_0 : decode b_AR_request 0 = .ok (.aload_n 0, 1) := by decide +kernel
theorem d_AR_request_1 : decode b_AR_request 1 = .ok (.iload_n 1, 1) := by decide +kernel
theorem d_AR_request_2 : decode b_AR_request 2 = .ok (.iload_n 2, 1) := by decide +kernel
theorem d_AR_request_3 : decode b_AR_request 3 = .ok (.invokevirtual 73, 3) := by decide +kernel
theorem d_AR_request_6 : decode b_AR_request 6 = .ok (.aload_n 0, 1) := by decide +kernel
theorem d_AR_request_7 : decode b_AR_request 7 = .ok (.iload_n 1, 1) := by decide +kernel
theorem d_AR_request_8 : decode b_AR_request 8 = .ok (.iload_n 3, 1) := by decide +kernel
theorem d_AR_request_9 : decode b_AR_request 9 = .ok (.invokevirtual 84, 3) := by decide +kernel
theorem d_AR_request_12 : decode b_AR_request 12 = .ok (.aload_n 0, 1) := by decide +kernel
theorem d_AR_request_13 : decode b_AR_request 13 = .ok (.iload_n 1, 1) := by decide +kernel
theorem d_AR_request_14 : decode b_AR_request 14 = .ok (.iload_n 3, 1) := by decide +kernel
theorem d_AR_request_15 : decode b_AR_request 15 = .ok (.invokevirtual 87, 3) := by decide +kernel
theorem d_AR_request_18 : decode b_AR_request 18 = .ok (.astore 5, 2) := by decide +kernel
theorem d_AR_request_20 : decode b_AR_request 20 = .ok (.iconst 0, 1) := by decide +kernel
theorem d_AR_request_21 : decode b_AR_request 21 = .ok (.istore 6, 2) := by decide +kernel
theorem d_AR_request_23 : decode b_AR_request 23 = .ok (.iconst 0, 1) := by decide +kernel
theorem d_AR_request_24 : decode b_AR_request 24 = .ok (.istore 7, 2) := by decide +kernel
theorem d_AR_request_26 : decode b_AR_request 26 = .ok (.iload 7, 2) := by decide +kernel
theorem d_AR_request_28 : decode b_AR_request 28 = .ok (.bipush 42, 2) := by decide +kernel
theorem d_AR_request_30 : decode b_AR_request 30 = .ok (.if_icmp .ge 77, 3) := by decide +kernel
theorem d_AR_request_33 : decode b_AR_request 33 = .ok (.aload 5, 2) := by decide +kernel
theorem d_AR_request_35 : decode b_AR_request 35 = .ok (.iload 7, 2) := by decide +kernel
theorem d_AR_request_37 : decode b_AR_request 37 = .ok (.iload_n 2, 1) := by decide +kernel
theorem d_AR_request_38 : decode b_AR_request 38 = .ok (.invokevirtual 117, 3) := by decide +kernel
theorem d_AR_request_41 : decode b_AR_request 41 = .ok (.ifCond .eq 60, 3) := by decide +kernel
theorem d_AR_request_44 : decode b_AR_request 44 = .ok (.iinc 6 1, 3) := by decide +kernel
theorem d_AR_request_47 : decode b_AR_request 47 = .ok (.aload 5, 2) := by decide +kernel
theorem d_AR_request_49 : decode b_AR_request 49 = .ok (.iload 7, 2) := by decide +kernel
theorem d_AR_request_51 : decode b_AR_request 51 = .ok (.iload_n 2, 1) := by decide +kernel
theorem d_AR_request_52 : decode b_AR_request 52 = .ok (.iconst 0, 1) := by decide +kernel
theorem d_AR_request_53 : decode b_AR_request 53 = .ok (.invokevirtual 120, 3) := by decide +kernel
theorem d_AR_request_56 : decode b_AR_request 56 = .ok (.iconst 0, 1) := by decide +kernel
theorem d_AR_request_57 : decode b_AR_request 57 = .ok (.istore 8, 2) := by decide +kernel
theorem d_AR_request_59 : decode b_AR_request 59 = .ok (.iload 8, 2) := by decide +kernel
theorem d_AR_request_61 : decode b_AR_request 61 = .ok (.bipush 6, 2) := by decide +kernel
theorem d_AR_request_63 : decode b_AR_request 63 = .ok (.if_icmp .ge 38, 3) := by decide +kernel
theorem d_AR_request_66 : decode b_AR_request 66 = .ok (.aload_n 0, 1) := by decide +kernel
theorem d_AR_request_67 : decode b_AR_request 67 = .ok (.iload 8, 2) := by decide +kernel
theorem d_AR_request_69 : decode b_AR_request 69 = .ok (.iload_n 1, 1) := by decide +kernel
theorem d_AR_request_70 : decode b_AR_request 70 = .ok (.iload_n 2, 1) := by decide +kernel
theorem d_AR_request_71 : decode b_AR_request 71 = .ok (.iload_n 3, 1) := by decide +kernel
theorem d_AR_request_72 : decode b_AR_request 72 = .ok (.iload 4, 2) := by decide +kernel
theorem d_AR_request_74 : decode b_AR_request 74 = .ok (.invokevirtual 94, 3) := by decide +kernel
theorem d_AR_request_77 : decode b_AR_request 77 = .ok (.ifCond .eq 18, 3) := by decide +kernel
theorem d_AR_request_80 : decode b_AR_request 80 = .ok (.aload_n 0, 1) := by decide +kernel
theorem d_AR_request_81 : decode b_AR_request 81 = .ok (.iload 8, 2) := by decide +kernel
theorem d_AR_request_83 : decode b_AR_request 83 = .ok (.iload_n 3, 1) := by decide +kernel
theorem d_AR_request_84 : decode b_AR_request 84 = .ok (.invokevirtual 87, 3) := by decide +kernel
theorem d_AR_request_87 : decode b_AR_request 87 = .ok (.aload 5, 2) := by decide +kernel
theorem d_AR_request_89 : decode b_AR_request 89 = .ok (.iload 7, 2) := by decide +kernel
theorem d_AR_request_91 : decode b_AR_request 91 = .ok (.iload_n 2, 1) := by decide +kernel
theorem d_AR_request_92 : decode b_AR_request 92 = .ok (.invokevirtual 123, 3) := by decide +kernel
theorem d_AR_request_95 : decode b_AR_request 95 = .ok (.iinc 8 1, 3) := by decide +kernel
theorem d_AR_request_98 : decode b_AR_request 98 = .ok (.goto (-39), 3) := by decide +kernel
theorem d_AR_request_101 : decode b_AR_request 101 = .ok (.iinc 7 1, 3) := by decide +kernel
theorem d_AR_request_104 : decode b_AR_request 104 = .ok (.goto (-78), 3) := by decide +kernel
theorem d_AR_request_107 : decode b_AR_request 107 = .ok (.iload 6, 2) := by decide +kernel
theorem d_AR_request_109 : decode b_AR_request 109 = .ok (.ireturn, 1) := by decide +kernel
theorem d_Ba_linkOf_0 : decode b_Ba_linkOf 0 = .ok (.aload_n 0, 1) := by decide +kernel
theorem d_Ba_linkOf_1 : decode b_Ba_linkOf 1 = .ok (.getfield 34, 3) := by decide +kernel
theorem d_Ba_linkOf_4 : decode b_Ba_linkOf 4 = .ok (.iload_n 1, 1) := by decide +kernel
theorem d_Ba_linkOf_5 : decode b_Ba_linkOf 5 = .ok (.bipush 10, 2) := by decide +kernel
theorem d_Ba_linkOf_7 : decode b_Ba_linkOf 7 = .ok (.imul, 1) := by decide +kernel
theorem d_Ba_linkOf_8 : decode b_Ba_linkOf 8 = .ok (.iload_n 2, 1) := by decide +kernel
theorem d_Ba_linkOf_9 : decode b_Ba_linkOf 9 = .ok (.iadd, 1) := by decide +kernel
theorem d_Ba_linkOf_10 : decode b_Ba_linkOf 10 = .ok (.iaload, 1) := by decide +kernel
theorem d_Ba_linkOf_11 : decode b_Ba_linkOf 11 = .ok (.ireturn, 1) := by decide +kernel
theorem d_Ba_isStillTrue_0 : decode b_Ba_isStillTrue 0 = .ok (.aload_n 0, 1) := by decide +kernel
theorem d_Ba_isStillTrue_1 : decode b_Ba_isStillTrue 1 = .ok (.getfield 18, 3) := by decide +kernel
theorem d_Ba_isStillTrue_4 : decode b_Ba_isStillTrue 4 = .ok (.iload_n 1, 1) := by decide +kernel
theorem d_Ba_isStillTrue_5 : decode b_Ba_isStillTrue 5 = .ok (.iaload, 1) := by decide +kernel
theorem d_Ba_isStillTrue_6 : decode b_Ba_isStillTrue 6 = .ok (.iconst 5, 1) := by decide +kernel
theorem d_Ba_isStillTrue_7 : decode b_Ba_isStillTrue 7 = .ok (.if_icmp .le 29, 3) := by decide +kernel
theorem d_Ba_isStillTrue_10 : decode b_Ba_isStillTrue 10 = .ok (.aload_n 0, 1) := by decide +kernel
theorem d_Ba_isStillTrue_11 : decode b_Ba_isStillTrue 11 = .ok (.getfield 24, 3) := by decide +kernel
theorem d_Ba_isStillTrue_14 : decode b_Ba_isStillTrue 14 = .ok (.iload_n 1, 1) := by decide +kernel
theorem d_Ba_isStillTrue_15 : decode b_Ba_isStillTrue 15 = .ok (.baload, 1) := by decide +kernel
theorem d_Ba_isStillTrue_16 : decode b_Ba_isStillTrue 16 = .ok (.aload_n 2, 1) := by decide +kernel
theorem d_Ba_isStillTrue_17 : decode b_Ba_isStillTrue 17 = .ok (.getfield 69, 3) := by decide +kernel
theorem d_Ba_isStillTrue_20 : decode b_Ba_isStillTrue 20 = .ok (.if_icmp .ne 16, 3) := by decide +kernel
theorem d_Ba_isStillTrue_23 : decode b_Ba_isStillTrue 23 = .ok (.aload_n 0, 1) := by decide +kernel
theorem d_Ba_isStillTrue_24 : decode b_Ba_isStillTrue 24 = .ok (.getfield 31, 3) := by decide +kernel
theorem d_Ba_isStillTrue_27 : decode b_Ba_isStillTrue 27 = .ok (.iload_n 1, 1) := by decide +kernel
theorem d_Ba_isStillTrue_28 : decode b_Ba_isStillTrue 28 = .ok (.iaload, 1) := by decide +kernel
theorem d_Ba_isStillTrue_29 : decode b_Ba_isStillTrue 29 = .ok (.aload_n 2, 1) := by decide +kernel
theorem d_Ba_isStillTrue_30 : decode b_Ba_isStillTrue 30 = .ok (.getfield 75, 3) := by decide +kernel
theorem d_Ba_isStillTrue_33 : decode b_Ba_isStillTrue 33 = .ok (.if_icmp .eq 5, 3) := by decide +kernel
theorem d_Ba_isStillTrue_36 : decode b_Ba_isStillTrue 36 = .ok (.iconst 0, 1) := by decide +kernel
theorem d_Ba_isStillTrue_37 : decode b_Ba_isStillTrue 37 = .ok (.ireturn, 1) := by decide +kernel
theorem d_Ba_isStillTrue_38 : decode b_Ba_isStillTrue 38 = .ok (.iconst 0, 1) := by decide +kernel
theorem d_Ba_isStillTrue_39 : decode b_Ba_isStillTrue 39 = .ok (.istore_n 3, 1) := by decide +kernel
theorem d_Ba_isStillTrue_40 : decode b_Ba_isStillTrue 40 = .ok (.iload_n 3, 1) := by decide +kernel
theorem d_Ba_isStillTrue_41 : decode b_Ba_isStillTrue 41 = .ok (.aload_n 2, 1) := by decide +kernel
theorem d_Ba_isStillTrue_42 : decode b_Ba_isStillTrue 42 = .ok (.getfield 75, 3) := by decide +kernel
theorem d_Ba_isStillTrue_45 : decode b_Ba_isStillTrue 45 = .ok (.if_icmp .ge 26, 3) := by decide +kernel
theorem d_Ba_isStillTrue_48 : decode b_Ba_isStillTrue 48 = .ok (.aload_n 0, 1) := by decide +kernel
theorem d_Ba_isStillTrue_49 : decode b_Ba_isStillTrue 49 = .ok (.iload_n 1, 1) := by decide +kernel
theorem d_Ba_isStillTrue_50 : decode b_Ba_isStillTrue 50 = .ok (.iload_n 3, 1) := by decide +kernel
theorem d_Ba_isStillTrue_51 : decode b_Ba_isStillTrue 51 = .ok (.invokevirtual 47, 3) := by decide +kernel
theorem d_Ba_isStillTrue_54 : decode b_Ba_isStillTrue 54 = .ok (.aload_n 2, 1) := by decide +kernel
theorem d_Ba_isStillTrue_55 : decode b_Ba_isStillTrue 55 = .ok (.getfield 79, 3) := by decide +kernel
theorem d_Ba_isStillTrue_58 : decode b_Ba_isStillTrue 58 = .ok (.iload_n 3, 1) := by decide +kernel
theorem d_Ba_isStillTrue_59 : decode b_Ba_isStillTrue 59 = .ok (.iaload, 1) := by decide +kernel
theorem d_Ba_isStillTrue_60 : decode b_Ba_isStillTrue 60 = .ok (.if_icmp .eq 5, 3) := by decide +kernel
theorem d_Ba_isStillTrue_63 : decode b_Ba_isStillTrue 63 = .ok (.iconst 0, 1) := by decide +kernel
theorem d_Ba_isStillTrue_64 : decode b_Ba_isStillTrue 64 = .ok (.ireturn, 1) := by decide +kernel
theorem d_Ba_isStillTrue_65 : decode b_Ba_isStillTrue 65 = .ok (.iinc 3 1, 3) := by decide +kernel
theorem d_Ba_isStillTrue_68 : decode b_Ba_isStillTrue 68 = .ok (.goto (-28), 3) := by decide +kernel
theorem d_Ba_isStillTrue_71 : decode b_Ba_isStillTrue 71 = .ok (.iconst 1, 1) := by decide +kernel
theorem d_Ba_isStillTrue_72 : decode b_Ba_isStillTrue 72 = .ok (.ireturn, 1) := by decide +kernel
theorem d_AR_bringUpToDate_0 : decode b_AR_bringUpToDate 0 = .ok (.aload_n 0, 1) := by decide +kernel
theorem d_AR_bringUpToDate_1 : decode b_AR_bringUpToDate 1 = .ok (.iload_n 1, 1) := by decide +kernel
theorem d_AR_bringUpToDate_2 : decode b_AR_bringUpToDate 2 = .ok (.iload_n 2, 1) := by decide +kernel
theorem d_AR_bringUpToDate_3 : decode b_AR_bringUpToDate 3 = .ok (.invokevirtual 87, 3) := by decide +kernel
theorem d_AR_bringUpToDate_6 : decode b_AR_bringUpToDate 6 = .ok (.astore 4, 2) := by decide +kernel
theorem d_AR_bringUpToDate_8 : decode b_AR_bringUpToDate 8 = .ok (.iload_n 1, 1) := by decide +kernel
theorem d_AR_bringUpToDate_9 : decode b_AR_bringUpToDate 9 = .ok (.iload_n 3, 1) := by decide +kernel
theorem d_AR_bringUpToDate_10 : decode b_AR_bringUpToDate 10 = .ok (.invokestatic 215, 3) := by decide +kernel
theorem d_AR_bringUpToDate_13 : decode b_AR_bringUpToDate 13 = .ok (.istore 5, 2) := by decide +kernel
theorem d_AR_bringUpToDate_15 : decode b_AR_bringUpToDate 15 = .ok (.aload_n 0, 1) := by decide +kernel
theorem d_AR_bringUpToDate_16 : decode b_AR_bringUpToDate 16 = .ok (.iload_n 1, 1) := by decide +kernel
theorem d_AR_bringUpToDate_17 : decode b_AR_bringUpToDate 17 = .ok (.iload_n 2, 1) := by decide +kernel
theorem d_AR_bringUpToDate_18 : decode b_AR_bringUpToDate 18 = .ok (.iload_n 3, 1) := by decide +kernel
theorem d_AR_bringUpToDate_19 : decode b_AR_bringUpToDate 19 = .ok (.invokevirtual 224, 3) := by decide +kernel
theorem d_AR_bringUpToDate_22 : decode b_AR_bringUpToDate 22 = .ok (.ifCond .eq 40, 3) := by decide +kernel
theorem d_AR_bringUpToDate_25 : decode b_AR_bringUpToDate 25 = .ok (.aload 4, 2) := by decide +kernel
theorem d_AR_bringUpToDate_27 : decode b_AR_bringUpToDate 27 = .ok (.iload 5, 2) := by decide +kernel
theorem d_AR_bringUpToDate_29 : decode b_AR_bringUpToDate 29 = .ok (.aload_n 0, 1) := by decide +kernel
theorem d_AR_bringUpToDate_30 : decode b_AR_bringUpToDate 30 = .ok (.getfield 40, 3) := by decide +kernel
theorem d_AR_bringUpToDate_33 : decode b_AR_bringUpToDate 33 = .ok (.invokevirtual 227, 3) := by decide +kernel
theorem d_AR_bringUpToDate_36 : decode b_AR_bringUpToDate 36 = .ok (.ifCond .eq 5, 3) := by decide +kernel
theorem d_AR_bringUpToDate_39 : decode b_AR_bringUpToDate 39 = .ok (.iconst 0, 1) := by decide +kernel
theorem d_AR_bringUpToDate_40 : decode b_AR_bringUpToDate 40 = .ok (.ireturn, 1) := by decide +kernel
theorem d_AR_bringUpToDate_41 : decode b_AR_bringUpToDate 41 = .ok (.aload 4, 2) := by decide +kernel
theorem d_AR_bringUpToDate_43 : decode b_AR_bringUpToDate 43 = .ok (.iload 5, 2) := by decide +kernel
theorem d_AR_bringUpToDate_45 : decode b_AR_bringUpToDate 45 = .ok (.aload_n 0, 1) := by decide +kernel
theorem d_AR_bringUpToDate_46 : decode b_AR_bringUpToDate 46 = .ok (.getfield 40, 3) := by decide +kernel
theorem d_AR_bringUpToDate_49 : decode b_AR_bringUpToDate 49 = .ok (.aload_n 0, 1) := by decide +kernel
theorem d_AR_bringUpToDate_50 : decode b_AR_bringUpToDate 50 = .ok (.getfield 19, 3) := by decide +kernel
theorem d_AR_bringUpToDate_53 : decode b_AR_bringUpToDate 53 = .ok (.iload_n 1, 1) := by decide +kernel
theorem d_AR_bringUpToDate_54 : decode b_AR_bringUpToDate 54 = .ok (.invokevirtual 55, 3) := by decide +kernel
theorem d_AR_bringUpToDate_57 : decode b_AR_bringUpToDate 57 = .ok (.invokevirtual 231, 3) := by decide +kernel
theorem d_AR_bringUpToDate_60 : decode b_AR_bringUpToDate 60 = .ok (.iconst 1, 1) := by decide +kernel
theorem d_AR_bringUpToDate_61 : decode b_AR_bringUpToDate 61 = .ok (.ireturn, 1) := by decide +kernel
theorem d_AR_bringUpToDate_62 : decode b_AR_bringUpToDate 62 = .ok (.aload 4, 2) := by decide +kernel
theorem d_AR_bringUpToDate_64 : decode b_AR_bringUpToDate 64 = .ok (.iload 5, 2) := by decide +kernel
theorem d_AR_bringUpToDate_66 : decode b_AR_bringUpToDate 66 = .ok (.invokevirtual 235, 3) := by decide +kernel
theorem d_AR_bringUpToDate_69 : decode b_AR_bringUpToDate 69 = .ok (.ifCond .ne 5, 3) := by decide +kernel
theorem d_AR_bringUpToDate_72 : decode b_AR_bringUpToDate 72 = .ok (.iconst 0, 1) := by decide +kernel
theorem d_AR_bringUpToDate_73 : decode b_AR_bringUpToDate 73 = .ok (.ireturn, 1) := by decide +kernel
theorem d_AR_bringUpToDate_74 : decode b_AR_bringUpToDate 74 = .ok (.aload 4, 2) := by decide +kernel
theorem d_AR_bringUpToDate_76 : decode b_AR_bringUpToDate 76 = .ok (.iload 5, 2) := by decide +kernel
theorem d_AR_bringUpToDate_78 : decode b_AR_bringUpToDate 78 = .ok (.aload_n 0, 1) := by decide +kernel
theorem d_AR_bringUpToDate_79 : decode b_AR_bringUpToDate 79 = .ok (.getfield 19, 3) := by decide +kernel
theorem d_AR_bringUpToDate_82 : decode b_AR_bringUpToDate 82 = .ok (.iload_n 1, 1) := by decide +kernel
theorem d_AR_bringUpToDate_83 : decode b_AR_bringUpToDate 83 = .ok (.invokevirtual 55, 3) := by decide +kernel
theorem d_AR_bringUpToDate_86 : decode b_AR_bringUpToDate 86 = .ok (.invokevirtual 238, 3) := by decide +kernel
theorem d_AR_bringUpToDate_89 : decode b_AR_bringUpToDate 89 = .ok (.iconst 1, 1) := by decide +kernel
theorem d_AR_bringUpToDate_90 : decode b_AR_bringUpToDate 90 = .ok (.ireturn, 1) := by decide +kernel
theorem d_AR_describe_0 : decode b_AR_describe 0 = .ok (.iload_n 1, 1) := by decide +kernel
theorem d_AR_describe_1 : decode b_AR_describe 1 = .ok (.invokestatic 51, 3) := by decide +kernel
theorem d_AR_describe_4 : decode b_AR_describe 4 = .ok (.ifCond .ne 13, 3) := by decide +kernel
theorem d_AR_describe_17 : decode b_AR_describe 17 = .ok (.iconst 0, 1) := by decide +kernel
theorem d_AR_describe_18 : decode b_AR_describe 18 = .ok (.istore_n 2, 1) := by decide +kernel
theorem d_AR_describe_19 : decode b_AR_describe 19 = .ok (.iconst 1, 1) := by decide +kernel
theorem d_AR_describe_20 : decode b_AR_describe 20 = .ok (.istore_n 3, 1) := by decide +kernel
theorem d_AR_describe_21 : decode b_AR_describe 21 = .ok (.iload_n 3, 1) := by decide +kernel
theorem d_AR_describe_22 : decode b_AR_describe 22 = .ok (.iconst 2, 1) := by decide +kernel
theorem d_AR_describe_23 : decode b_AR_describe 23 = .ok (.if_icmp .gt 48, 3) := by decide +kernel
theorem d_AR_describe_26 : decode b_AR_describe 26 = .ok (.aload_n 0, 1) := by decide +kernel
theorem d_AR_describe_27 : decode b_AR_describe 27 = .ok (.iload_n 1, 1) := by decide +kernel
theorem d_AR_describe_28 : decode b_AR_describe 28 = .ok (.iload_n 3, 1) := by decide +kernel
theorem d_AR_describe_29 : decode b_AR_describe 29 = .ok (.invokevirtual 134, 3) := by decide +kernel
theorem d_AR_describe_32 : decode b_AR_describe 32 = .ok (.ifCond .eq 33, 3) := by decide +kernel
theorem d_AR_describe_35 : decode b_AR_describe 35 = .ok (.iconst 0, 1) := by decide +kernel
theorem d_AR_describe_36 : decode b_AR_describe 36 = .ok (.istore 4, 2) := by decide +kernel
theorem d_AR_describe_38 : decode b_AR_describe 38 = .ok (.iload 4, 2) := by decide +kernel
theorem d_AR_describe_40 : decode b_AR_describe 40 = .ok (.bipush 7, 2) := by decide +kernel
theorem d_AR_describe_42 : decode b_AR_describe 42 = .ok (.if_icmp .ge 23, 3) := by decide +kernel
theorem d_AR_describe_45 : decode b_AR_describe 45 = .ok (.aload_n 0, 1) := by decide +kernel
theorem d_AR_describe_46 : decode b_AR_describe 46 = .ok (.iload_n 1, 1) := by decide +kernel
theorem d_AR_describe_47 : decode b_AR_describe 47 = .ok (.iload_n 3, 1) := by decide +kernel
theorem d_AR_describe_48 : decode b_AR_describe 48 = .ok (.iload 4, 2) := by decide +kernel
theorem d_AR_describe_50 : decode b_AR_describe 50 = .ok (.invokevirtual 137, 3) := by decide +kernel
theorem d_AR_describe_53 : decode b_AR_describe 53 = .ok (.ifCond .eq 6, 3) := by decide +kernel
theorem d_AR_describe_56 : decode b_AR_describe 56 = .ok (.iinc 2 1, 3) := by decide +kernel
theorem d_AR_describe_59 : decode b_AR_describe 59 = .ok (.iinc 4 1, 3) := by decide +kernel
theorem d_AR_describe_62 : decode b_AR_describe 62 = .ok (.goto (-24), 3) := by decide +kernel
theorem d_AR_describe_65 : decode b_AR_describe 65 = .ok (.iinc 3 1, 3) := by decide +kernel
theorem d_AR_describe_68 : decode b_AR_describe 68 = .ok (.goto (-47), 3) := by decide +kernel
theorem d_AR_describe_71 : decode b_AR_describe 71 = .ok (.iload_n 2, 1) := by decide +kernel
theorem d_AR_describe_72 : decode b_AR_describe 72 = .ok (.ireturn, 1) := by decide +kernel
theorem d_He_age_0 : decode b_He_age 0 = .ok (.iconst 0, 1) := by decide +kernel
theorem d_He_age_1 : decode b_He_age 1 = .ok (.istore_n 1, 1) := by decide +kernel
theorem d_He_age_2 : decode b_He_age 2 = .ok (.iload_n 1, 1) := by decide +kernel
theorem d_He_age_3 : decode b_He_age 3 = .ok (.sipush 216, 3) := by decide +kernel
theorem d_He_age_6 : decode b_He_age 6 = .ok (.if_icmp .ge 28, 3) := by decide +kernel
theorem d_He_age_9 : decode b_He_age 9 = .ok (.aload_n 0, 1) := by decide +kernel
theorem d_He_age_10 : decode b_He_age 10 = .ok (.getfield 11, 3) := by decide +kernel
theorem d_He_age_13 : decode b_He_age 13 = .ok (.iload_n 1, 1) := by decide +kernel
theorem d_He_age_14 : decode b_He_age 14 = .ok (.iaload, 1) := by decide +kernel
theorem d_He_age_15 : decode b_He_age 15 = .ok (.ifCond .le 13, 3) := by decide +kernel
theorem d_He_age_18 : decode b_He_age 18 = .ok (.aload_n 0, 1) := by decide +kernel
theorem d_He_age_19 : decode b_He_age 19 = .ok (.getfield 11, 3) := by decide +kernel
theorem d_He_age_22 : decode b_He_age 22 = .ok (.iload_n 1, 1) := by decide +kernel
theorem d_He_age_23 : decode b_He_age 23 = .ok (.dup2, 1) := by decide +kernel
theorem d_He_age_24 : decode b_He_age 24 = .ok (.iaload, 1) := by decide +kernel
theorem d_He_age_25 : decode b_He_age 25 = .ok (.iconst 1, 1) := by decide +kernel
theorem d_He_age_26 : decode b_He_age 26 = .ok (.isub, 1) := by decide +kernel
theorem d_He_age_27 : decode b_He_age 27 = .ok (.iastore, 1) := by decide +kernel
theorem d_He_age_28 : decode b_He_age 28 = .ok (.iinc 1 1, 3) := by decide +kernel
theorem d_He_age_31 : decode b_He_age 31 = .ok (.goto (-29), 3) := by decide +kernel
theorem d_He_age_34 : decode b_He_age 34 = .ok (.return_, 1) := by decide +kernel
theorem d_Ba_remove_0 : decode b_Ba_remove 0 = .ok (.aload_n 0, 1) := by decide +kernel
theorem d_Ba_remove_1 : decode b_Ba_remove 1 = .ok (.getfield 9, 3) := by decide +kernel
theorem d_Ba_remove_4 : decode b_Ba_remove 4 = .ok (.iload_n 1, 1) := by decide +kernel
theorem d_Ba_remove_5 : decode b_Ba_remove 5 = .ok (.iconst 0, 1) := by decide +kernel
theorem d_Ba_remove_6 : decode b_Ba_remove 6 = .ok (.iastore, 1) := by decide +kernel
theorem d_Ba_remove_7 : decode b_Ba_remove 7 = .ok (.aload_n 0, 1) := by decide +kernel
theorem d_Ba_remove_8 : decode b_Ba_remove 8 = .ok (.getfield 31, 3) := by decide +kernel
theorem d_Ba_remove_11 : decode b_Ba_remove 11 = .ok (.iload_n 1, 1) := by decide +kernel
theorem d_Ba_remove_12 : decode b_Ba_remove 12 = .ok (.iconst 0, 1) := by decide +kernel
theorem d_Ba_remove_13 : decode b_Ba_remove 13 = .ok (.iastore, 1) := by decide +kernel
theorem d_Ba_remove_14 : decode b_Ba_remove 14 = .ok (.aload_n 0, 1) := by decide +kernel
theorem d_Ba_remove_15 : decode b_Ba_remove 15 = .ok (.getfield 37, 3) := by decide +kernel
theorem d_Ba_remove_18 : decode b_Ba_remove 18 = .ok (.iload_n 1, 1) := by decide +kernel
theorem d_Ba_remove_19 : decode b_Ba_remove 19 = .ok (.iconst 0, 1) := by decide +kernel
theorem d_Ba_remove_20 : decode b_Ba_remove 20 = .ok (.iastore, 1) := by decide +kernel
theorem d_Ba_remove_21 : decode b_Ba_remove 21 = .ok (.aload_n 0, 1) := by decide +kernel
theorem d_Ba_remove_22 : decode b_Ba_remove 22 = .ok (.getfield 40, 3) := by decide +kernel
theorem d_Ba_remove_25 : decode b_Ba_remove 25 = .ok (.iload_n 1, 1) := by decide +kernel
theorem d_Ba_remove_26 : decode b_Ba_remove 26 = .ok (.iconst 0, 1) := by decide +kernel
theorem d_Ba_remove_27 : decode b_Ba_remove 27 = .ok (.iastore, 1) := by decide +kernel
theorem d_Ba_remove_28 : decode b_Ba_remove 28 = .ok (.return_, 1) := by decide +kernel
theorem d_Ba_age_0 : decode b_Ba_age 0 = .ok (.iconst 0, 1) := by decide +kernel
theorem d_Ba_age_1 : decode b_Ba_age 1 = .ok (.istore_n 2, 1) := by decide +kernel
theorem d_Ba_age_2 : decode b_Ba_age 2 = .ok (.iload_n 2, 1) := by decide +kernel
theorem d_Ba_age_3 : decode b_Ba_age 3 = .ok (.bipush 42, 2) := by decide +kernel
theorem d_Ba_age_5 : decode b_Ba_age 5 = .ok (.if_icmp .ge 77, 3) := by decide +kernel
theorem d_Ba_age_8 : decode b_Ba_age 8 = .ok (.aload_n 0, 1) := by decide +kernel
theorem d_Ba_age_9 : decode b_Ba_age 9 = .ok (.iload_n 2, 1) := by decide +kernel
theorem d_Ba_age_10 : decode b_Ba_age 10 = .ok (.invokevirtual 51, 3) := by decide +kernel
theorem d_Ba_age_13 : decode b_Ba_age 13 = .ok (.ifCond .eq 30, 3) := by decide +kernel
theorem d_Ba_age_16 : decode b_Ba_age 16 = .ok (.aload_n 0, 1) := by decide +kernel
theorem d_Ba_age_17 : decode b_Ba_age 17 = .ok (.getfield 18, 3) := by decide +kernel
theorem d_Ba_age_20 : decode b_Ba_age 20 = .ok (.iload_n 2, 1) := by decide +kernel
theorem d_Ba_age_21 : decode b_Ba_age 21 = .ok (.dup2, 1) := by decide +kernel
theorem d_Ba_age_22 : decode b_Ba_age 22 = .ok (.iaload, 1) := by decide +kernel
theorem d_Ba_age_23 : decode b_Ba_age 23 = .ok (.iconst 1, 1) := by decide +kernel
theorem d_Ba_age_24 : decode b_Ba_age 24 = .ok (.isub, 1) := by decide +kernel
theorem d_Ba_age_25 : decode b_Ba_age 25 = .ok (.iastore, 1) := by decide +kernel
theorem d_Ba_age_26 : decode b_Ba_age 26 = .ok (.aload_n 0, 1) := by decide +kernel
theorem d_Ba_age_27 : decode b_Ba_age 27 = .ok (.iload_n 2, 1) := by decide +kernel
theorem d_Ba_age_28 : decode b_Ba_age 28 = .ok (.invokevirtual 51, 3) := by decide +kernel
theorem d_Ba_age_31 : decode b_Ba_age 31 = .ok (.ifCond .ne 45, 3) := by decide +kernel
theorem d_Ba_age_34 : decode b_Ba_age 34 = .ok (.aload_n 0, 1) := by decide +kernel
theorem d_Ba_age_35 : decode b_Ba_age 35 = .ok (.iload_n 2, 1) := by decide +kernel
theorem d_Ba_age_36 : decode b_Ba_age 36 = .ok (.iload_n 1, 1) := by decide +kernel
theorem d_Ba_age_37 : decode b_Ba_age 37 = .ok (.invokevirtual 92, 3) := by decide +kernel
theorem d_Ba_age_40 : decode b_Ba_age 40 = .ok (.goto 36, 3) := by decide +kernel
theorem d_Ba_age_43 : decode b_Ba_age 43 = .ok (.aload_n 0, 1) := by decide +kernel
theorem d_Ba_age_44 : decode b_Ba_age 44 = .ok (.iload_n 2, 1) := by decide +kernel
theorem d_Ba_age_45 : decode b_Ba_age 45 = .ok (.invokevirtual 43, 3) := by decide +kernel
theorem d_Ba_age_48 : decode b_Ba_age 48 = .ok (.ifCond .eq 28, 3) := by decide +kernel
theorem d_Ba_age_51 : decode b_Ba_age 51 = .ok (.aload_n 0, 1) := by decide +kernel
theorem d_Ba_age_52 : decode b_Ba_age 52 = .ok (.getfield 21, 3) := by decide +kernel
theorem d_Ba_age_55 : decode b_Ba_age 55 = .ok (.iload_n 2, 1) := by decide +kernel
theorem d_Ba_age_56 : decode b_Ba_age 56 = .ok (.dup2, 1) := by decide +kernel
theorem d_Ba_age_57 : decode b_Ba_age 57 = .ok (.iaload, 1) := by decide +kernel
theorem d_Ba_age_58 : decode b_Ba_age 58 = .ok (.iconst 1, 1) := by decide +kernel
theorem d_Ba_age_59 : decode b_Ba_age 59 = .ok (.iadd, 1) := by decide +kernel
theorem d_Ba_age_60 : decode b_Ba_age 60 = .ok (.iastore, 1) := by decide +kernel
theorem d_Ba_age_61 : decode b_Ba_age 61 = .ok (.aload_n 0, 1) := by decide +kernel
theorem d_Ba_age_62 : decode b_Ba_age 62 = .ok (.getfield 21, 3) := by decide +kernel
theorem d_Ba_age_65 : decode b_Ba_age 65 = .ok (.iload_n 2, 1) := by decide +kernel
theorem d_Ba_age_66 : decode b_Ba_age 66 = .ok (.iaload, 1) := by decide +kernel
theorem d_Ba_age_67 : decode b_Ba_age 67 = .ok (.iconst 3, 1) := by decide +kernel
theorem d_Ba_age_68 : decode b_Ba_age 68 = .ok (.if_icmp .lt 8, 3) := by decide +kernel
theorem d_Ba_age_71 : decode b_Ba_age 71 = .ok (.aload_n 0, 1) := by decide +kernel
theorem d_Ba_age_72 : decode b_Ba_age 72 = .ok (.iload_n 2, 1) := by decide +kernel
theorem d_Ba_age_73 : decode b_Ba_age 73 = .ok (.invokevirtual 96, 3) := by decide +kernel
theorem d_Ba_age_76 : decode b_Ba_age 76 = .ok (.iinc 2 1, 3) := by decide +kernel
theorem d_Ba_age_79 : decode b_Ba_age 79 = .ok (.goto (-77), 3) := by decide +kernel
theorem d_Ba_age_82 : decode b_Ba_age 82 = .ok (.return_, 1) := by decide +kernel
theorem d_AR_tick_0 : decode b_AR_tick 0 = .ok (.iconst 0, 1) := by decide +kernel
theorem d_AR_tick_1 : decode b_AR_tick 1 = .ok (.istore_n 1, 1) := by decide +kernel
theorem d_AR_tick_2 : decode b_AR_tick 2 = .ok (.iload_n 1, 1) := by decide +kernel
theorem d_AR_tick_3 : decode b_AR_tick 3 = .ok (.iconst 2, 1) := by decide +kernel
theorem d_AR_tick_4 : decode b_AR_tick 4 = .ok (.if_icmp .ge 18, 3) := by decide +kernel
theorem d_AR_tick_7 : decode b_AR_tick 7 = .ok (.aload_n 0, 1) := by decide +kernel
theorem d_AR_tick_8 : decode b_AR_tick 8 = .ok (.getfield 25, 3) := by decide +kernel
theorem d_AR_tick_11 : decode b_AR_tick 11 = .ok (.iload_n 1, 1) := by decide +kernel
theorem d_AR_tick_12 : decode b_AR_tick 12 = .ok (.aaload, 1) := by decide +kernel
theorem d_AR_tick_13 : decode b_AR_tick 13 = .ok (.invokevirtual 141, 3) := by decide +kernel
theorem d_AR_tick_16 : decode b_AR_tick 16 = .ok (.iinc 1 1, 3) := by decide +kernel
theorem d_AR_tick_19 : decode b_AR_tick 19 = .ok (.goto (-17), 3) := by decide +kernel
theorem d_AR_tick_22 : decode b_AR_tick 22 = .ok (.iconst 1, 1) := by decide +kernel
theorem d_AR_tick_23 : decode b_AR_tick 23 = .ok (.istore_n 1, 1) := by decide +kernel
theorem d_AR_tick_24 : decode b_AR_tick 24 = .ok (.iload_n 1, 1) := by decide +kernel
theorem d_AR_tick_25 : decode b_AR_tick 25 = .ok (.iconst 2, 1) := by decide +kernel
theorem d_AR_tick_26 : decode b_AR_tick 26 = .ok (.if_icmp .gt 40, 3) := by decide +kernel
theorem d_AR_tick_29 : decode b_AR_tick 29 = .ok (.iconst 0, 1) := by decide +kernel
theorem d_AR_tick_30 : decode b_AR_tick 30 = .ok (.istore_n 2, 1) := by decide +kernel
theorem d_AR_tick_31 : decode b_AR_tick 31 = .ok (.iload_n 2, 1) := by decide +kernel
theorem d_AR_tick_32 : decode b_AR_tick 32 = .ok (.bipush 6, 2) := by decide +kernel
theorem d_AR_tick_34 : decode b_AR_tick 34 = .ok (.if_icmp .ge 26, 3) := by decide +kernel
theorem d_AR_tick_37 : decode b_AR_tick 37 = .ok (.aload_n 0, 1) := by decide +kernel
theorem d_AR_tick_38 : decode b_AR_tick 38 = .ok (.iload_n 2, 1) := by decide +kernel
theorem d_AR_tick_39 : decode b_AR_tick 39 = .ok (.iload_n 1, 1) := by decide +kernel
theorem d_AR_tick_40 : decode b_AR_tick 40 = .ok (.invokevirtual 87, 3) := by decide +kernel
theorem d_AR_tick_43 : decode b_AR_tick 43 = .ok (.aload_n 0, 1) := by decide +kernel
theorem d_AR_tick_44 : decode b_AR_tick 44 = .ok (.getfield 19, 3) := by decide +kernel
theorem d_AR_tick_47 : decode b_AR_tick 47 = .ok (.iload_n 2, 1) := by decide +kernel
theorem d_AR_tick_48 : decode b_AR_tick 48 = .ok (.invokevirtual 55, 3) := by decide +kernel
theorem d_AR_tick_51 : decode b_AR_tick 51 = .ok (.invokevirtual 144, 3) := by decide +kernel
theorem d_AR_tick_54 : decode b_AR_tick 54 = .ok (.iinc 2 1, 3) := by decide +kernel
theorem d_AR_tick_57 : decode b_AR_tick 57 = .ok (.goto (-26), 3) := by decide +kernel
theorem d_AR_tick_60 : decode b_AR_tick 60 = .ok (.iinc 1 1, 3) := by decide +kernel
theorem d_AR_tick_63 : decode b_AR_tick 63 = .ok (.goto (-39), 3) := by decide +kernel
theorem d_AR_tick_66 : decode b_AR_tick 66 = .ok (.return_, 1) := by decide +kernel
theorem d_AR_neighbour_0 : decode b_AR_neighbour 0 = .ok (.iload_n 1, 1) := by decide +kernel
theorem d_AR_neighbour_1 : decode b_AR_neighbour 1 = .ok (.invokestatic 51, 3) := by decide +kernel
theorem d_AR_neighbour_4 : decode b_AR_neighbour 4 = .ok (.ifCond .eq 44, 3) := by decide +kernel
theorem d_AR_neighbour_7 : decode b_AR_neighbour 7 = .ok (.iload_n 2, 1) := by decide +kernel
theorem d_AR_neighbour_8 : decode b_AR_neighbour 8 = .ok (.invokestatic 59, 3) := by decide +kernel
theorem d_AR_neighbour_11 : decode b_AR_neighbour 11 = .ok (.ifCond .eq 37, 3) := by decide +kernel
theorem d_AR_neighbour_14 : decode b_AR_neighbour 14 = .ok (.iload_n 3, 1) := by decide +kernel
theorem d_AR_neighbour_15 : decode b_AR_neighbour 15 = .ok (.invokestatic 147, 3) := by decide +kernel
theorem d_AR_neighbour_18 : decode b_AR_neighbour 18 = .ok (.ifCond .eq 30, 3) := by decide +kernel
theorem d_AR_neighbour_21 : decode b_AR_neighbour 21 = .ok (.iload 4, 2) := by decide +kernel
theorem d_AR_neighbour_23 : decode b_AR_neighbour 23 = .ok (.invokestatic 51, 3) := by decide +kernel
theorem d_AR_neighbour_26 : decode b_AR_neighbour 26 = .ok (.ifCond .eq 22, 3) := by decide +kernel
theorem d_AR_neighbour_29 : decode b_AR_neighbour 29 = .ok (.aload_n 0, 1) := by decide +kernel
theorem d_AR_neighbour_30 : decode b_AR_neighbour 30 = .ok (.iload_n 3, 1) := by decide +kernel
theorem d_AR_neighbour_31 : decode b_AR_neighbour 31 = .ok (.invokevirtual 150, 3) := by decide +kernel
theorem d_AR_neighbour_34 : decode b_AR_neighbour 34 = .ok (.iload_n 1, 1) := by decide +kernel
theorem d_AR_neighbour_35 : decode b_AR_neighbour 35 = .ok (.iload_n 2, 1) := by decide +kernel
theorem d_AR_neighbour_36 : decode b_AR_neighbour 36 = .ok (.iload 4, 2) := by decide +kernel
theorem d_AR_neighbour_38 : decode b_AR_neighbour 38 = .ok (.invokevirtual 154, 3) := by decide +kernel
theorem d_AR_neighbour_41 : decode b_AR_neighbour 41 = .ok (.ifCond .eq 7, 3) := by decide +kernel
theorem d_AR_neighbour_44 : decode b_AR_neighbour 44 = .ok (.iconst 1, 1) := by decide +kernel
theorem d_AR_neighbour_45 : decode b_AR_neighbour 45 = .ok (.goto 4, 3) := by decide +kernel
theorem d_AR_neighbour_48 : decode b_AR_neighbour 48 = .ok (.iconst 0, 1) := by decide +kernel
theorem d_AR_neighbour_49 : decode b_AR_neighbour 49 = .ok (.ireturn, 1) := by decide +kernel
theorem d_AR_speaker_0 : decode b_AR_speaker 0 = .ok (.iload_n 1, 1) := by decide +kernel
theorem d_AR_speaker_1 : decode b_AR_speaker 1 = .ok (.invokestatic 51, 3) := by decide +kernel
theorem d_AR_speaker_4 : decode b_AR_speaker 4 = .ok (.ifCond .eq 31, 3) := by decide +kernel
theorem d_AR_speaker_7 : decode b_AR_speaker 7 = .ok (.iload_n 2, 1) := by decide +kernel
theorem d_AR_speaker_8 : decode b_AR_speaker 8 = .ok (.invokestatic 59, 3) := by decide +kernel
theorem d_AR_speaker_11 : decode b_AR_speaker 11 = .ok (.ifCond .eq 24, 3) := by decide +kernel
theorem d_AR_speaker_14 : decode b_AR_speaker 14 = .ok (.aload_n 0, 1) := by decide +kernel
theorem d_AR_speaker_15 : decode b_AR_speaker 15 = .ok (.iload_n 1, 1) := by decide +kernel
theorem d_AR_speaker_16 : decode b_AR_speaker 16 = .ok (.iload_n 3, 1) := by decide +kernel
theorem d_AR_speaker_17 : decode b_AR_speaker 17 = .ok (.invokevirtual 134, 3) := by decide +kernel
theorem d_AR_speaker_20 : decode b_AR_speaker 20 = .ok (.ifCond .eq 15, 3) := by decide +kernel
theorem d_AR_speaker_23 : decode b_AR_speaker 23 = .ok (.aload_n 0, 1) := by decide +kernel
theorem d_AR_speaker_24 : decode b_AR_speaker 24 = .ok (.getfield 19, 3) := by decide +kernel
theorem d_AR_speaker_27 : decode b_AR_speaker 27 = .ok (.iload_n 1, 1) := by decide +kernel
theorem d_AR_speaker_28 : decode b_AR_speaker 28 = .ok (.iload_n 2, 1) := by decide +kernel
theorem d_AR_speaker_29 : decode b_AR_speaker 29 = .ok (.invokevirtual 62, 3) := by decide +kernel
theorem d_AR_speaker_32 : decode b_AR_speaker 32 = .ok (.ifCond .ne 5, 3) := by decide +kernel
theorem d_AR_speaker_35 : decode b_AR_speaker 35 = .ok (.iconst (-1), 1) := by decide +kernel
theorem d_AR_speaker_36 : decode b_AR_speaker 36 = .ok (.ireturn, 1) := by decide +kernel
theorem d_AR_speaker_37 : decode b_AR_speaker 37 = .ok (.aload_n 0, 1) := by decide +kernel
theorem d_AR_speaker_38 : decode b_AR_speaker 38 = .ok (.iload_n 1, 1) := by decide +kernel
theorem d_AR_speaker_39 : decode b_AR_speaker 39 = .ok (.iload_n 2, 1) := by decide +kernel
theorem d_AR_speaker_40 : decode b_AR_speaker 40 = .ok (.iload_n 3, 1) := by decide +kernel
theorem d_AR_speaker_41 : decode b_AR_speaker 41 = .ok (.invokevirtual 157, 3) := by decide +kernel
theorem d_AR_speaker_44 : decode b_AR_speaker 44 = .ok (.ireturn, 1) := by decide +kernel
theorem d_AR_isName_0 : decode b_AR_isName 0 = .ok (.iload_n 0, 1) := by decide +kernel
theorem d_AR_isName_1 : decode b_AR_isName 1 = .ok (.ifCond .lt 13, 3) := by decide +kernel
theorem d_AR_isName_4 : decode b_AR_isName 4 = .ok (.iload_n 0, 1) := by decide +kernel
theorem d_AR_isName_5 : decode b_AR_isName 5 = .ok (.bipush 42, 2) := by decide +kernel
theorem d_AR_isName_7 : decode b_AR_isName 7 = .ok (.if_icmp .ge 7, 3) := by decide +kernel
theorem d_AR_isName_10 : decode b_AR_isName 10 = .ok (.iconst 1, 1) := by decide +kernel
theorem d_AR_isName_11 : decode b_AR_isName 11 = .ok (.goto 4, 3) := by decide +kernel
theorem d_AR_isName_14 : decode b_AR_isName 14 = .ok (.iconst 0, 1) := by decide +kernel
theorem d_AR_isName_15 : decode b_AR_isName 15 = .ok (.ireturn, 1) := by decide +kernel
theorem d_Ba_tell_0 : decode b_Ba_tell 0 = .ok (.aload_n 0, 1) := by decide +kernel
theorem d_Ba_tell_1 : decode b_Ba_tell 1 = .ok (.iload_n 1, 1) := by decide +kernel
theorem d_Ba_tell_2 : decode b_Ba_tell 2 = .ok (.invokevirtual 43, 3) := by decide +kernel
theorem d_Ba_tell_5 : decode b_Ba_tell 5 = .ok (.ifCond .ne 5, 3) := by decide +kernel
theorem d_Ba_tell_8 : decode b_Ba_tell 8 = .ok (.iconst (-1), 1) := by decide +kernel
theorem d_Ba_tell_9 : decode b_Ba_tell 9 = .ok (.ireturn, 1) := by decide +kernel
theorem d_Ba_tell_10 : decode b_Ba_tell 10 = .ok (.iload_n 2, 1) := by decide +kernel
theorem d_Ba_tell_11 : decode b_Ba_tell 11 = .ok (.tableswitch 76 0 4 #[33, 40, 47, 62, 69], 33) := by decide +kernel
theorem d_Ba_tell_44 : decode b_Ba_tell 44 = .ok (.aload_n 0, 1) := by decide +kernel
theorem d_Ba_tell_45 : decode b_Ba_tell 45 = .ok (.getfield 9, 3) := by decide +kernel
theorem d_Ba_tell_48 : decode b_Ba_tell 48 = .ok (.iload_n 1, 1) := by decide +kernel
theorem d_Ba_tell_49 : decode b_Ba_tell 49 = .ok (.iaload, 1) := by decide +kernel
theorem d_Ba_tell_50 : decode b_Ba_tell 50 = .ok (.ireturn, 1) := by decide +kernel
theorem d_Ba_tell_51 : decode b_Ba_tell 51 = .ok (.aload_n 0, 1) := by decide +kernel
theorem d_Ba_tell_52 : decode b_Ba_tell 52 = .ok (.getfield 18, 3) := by decide +kernel
theorem d_Ba_tell_55 : decode b_Ba_tell 55 = .ok (.iload_n 1, 1) := by decide +kernel
theorem d_Ba_tell_56 : decode b_Ba_tell 56 = .ok (.iaload, 1) := by decide +kernel
theorem d_Ba_tell_57 : decode b_Ba_tell 57 = .ok (.ireturn, 1) := by decide +kernel
theorem d_Ba_tell_58 : decode b_Ba_tell 58 = .ok (.aload_n 0, 1) := by decide +kernel
theorem d_Ba_tell_59 : decode b_Ba_tell 59 = .ok (.getfield 24, 3) := by decide +kernel
theorem d_Ba_tell_62 : decode b_Ba_tell 62 = .ok (.iload_n 1, 1) := by decide +kernel
theorem d_Ba_tell_63 : decode b_Ba_tell 63 = .ok (.baload, 1) := by decide +kernel
theorem d_Ba_tell_64 : decode b_Ba_tell 64 = .ok (.ifCond .eq 7, 3) := by decide +kernel
theorem d_Ba_tell_67 : decode b_Ba_tell 67 = .ok (.iconst 1, 1) := by decide +kernel
theorem d_Ba_tell_68 : decode b_Ba_tell 68 = .ok (.goto 4, 3) := by decide +kernel
theorem d_Ba_tell_71 : decode b_Ba_tell 71 = .ok (.iconst 0, 1) := by decide +kernel
theorem d_Ba_tell_72 : decode b_Ba_tell 72 = .ok (.ireturn, 1) := by decide +kernel
theorem d_Ba_tell_73 : decode b_Ba_tell 73 = .ok (.aload_n 0, 1) := by decide +kernel
theorem d_Ba_tell_74 : decode b_Ba_tell 74 = .ok (.getfield 28, 3) := by decide +kernel
theorem d_Ba_tell_77 : decode b_Ba_tell 77 = .ok (.iload_n 1, 1) := by decide +kernel
theorem d_Ba_tell_78 : decode b_Ba_tell 78 = .ok (.iaload, 1) := by decide +kernel
theorem d_Ba_tell_79 : decode b_Ba_tell 79 = .ok (.ireturn, 1) := by decide +kernel
theorem d_Ba_tell_80 : decode b_Ba_tell 80 = .ok (.aload_n 0, 1) := by decide +kernel
theorem d_Ba_tell_81 : decode b_Ba_tell 81 = .ok (.getfield 31, 3) := by decide +kernel
theorem d_Ba_tell_84 : decode b_Ba_tell 84 = .ok (.iload_n 1, 1) := by decide +kernel
theorem d_Ba_tell_85 : decode b_Ba_tell 85 = .ok (.iaload, 1) := by decide +kernel
theorem d_Ba_tell_86 : decode b_Ba_tell 86 = .ok (.ireturn, 1) := by decide +kernel
theorem d_Ba_tell_87 : decode b_Ba_tell 87 = .ok (.iload_n 2, 1) := by decide +kernel
theorem d_Ba_tell_88 : decode b_Ba_tell 88 = .ok (.iconst 4, 1) := by decide +kernel
theorem d_Ba_tell_89 : decode b_Ba_tell 89 = .ok (.if_icmp .le 26, 3) := by decide +kernel
theorem d_Ba_tell_92 : decode b_Ba_tell 92 = .ok (.iload_n 2, 1) := by decide +kernel
theorem d_Ba_tell_93 : decode b_Ba_tell 93 = .ok (.iconst 5, 1) := by decide +kernel
theorem d_Ba_tell_94 : decode b_Ba_tell 94 = .ok (.isub, 1) := by decide +kernel
theorem d_Ba_tell_95 : decode b_Ba_tell 95 = .ok (.aload_n 0, 1) := by decide +kernel
theorem d_Ba_tell_96 : decode b_Ba_tell 96 = .ok (.getfield 31, 3) := by decide +kernel
theorem d_Ba_tell_99 : decode b_Ba_tell 99 = .ok (.iload_n 1, 1) := by decide +kernel
theorem d_Ba_tell_100 : decode b_Ba_tell 100 = .ok (.iaload, 1) := by decide +kernel
theorem d_Ba_tell_101 : decode b_Ba_tell 101 = .ok (.if_icmp .ge 14, 3) := by decide +kernel
theorem d_Ba_tell_104 : decode b_Ba_tell 104 = .ok (.aload_n 0, 1) := by decide +kernel
theorem d_Ba_tell_105 : decode b_Ba_tell 105 = .ok (.iload_n 1, 1) := by decide +kernel
theorem d_Ba_tell_106 : decode b_Ba_tell 106 = .ok (.iload_n 2, 1) := by decide +kernel
theorem d_Ba_tell_107 : decode b_Ba_tell 107 = .ok (.iconst 5, 1) := by decide +kernel
theorem d_Ba_tell_108 : decode b_Ba_tell 108 = .ok (.isub, 1) := by decide +kernel
theorem d_Ba_tell_109 : decode b_Ba_tell 109 = .ok (.invokevirtual 47, 3) := by decide +kernel
theorem d_Ba_tell_112 : decode b_Ba_tell 112 = .ok (.goto 4, 3) := by decide +kernel
theorem d_Ba_tell_115 : decode b_Ba_tell 115 = .ok (.iconst (-1), 1) := by decide +kernel
theorem d_Ba_tell_116 : decode b_Ba_tell 116 = .ok (.ireturn, 1) := by decide +kernel
theorem d_AR_description_0 : decode b_AR_description 0 = .ok (.iload_n 1, 1) := by decide +kernel
theorem d_AR_description_1 : decode b_AR_description 1 = .ok (.invokestatic 51, 3) := by decide +kernel
theorem d_AR_description_4 : decode b_AR_description 4 = .ok (.ifCond .eq 17, 3) := by decide +kernel
theorem d_AR_description_7 : decode b_AR_description 7 = .ok (.iload_n 2, 1) := by decide +kernel
theorem d_AR_description_8 : decode b_AR_description 8 = .ok (.invokestatic 147, 3) := by decide +kernel
theorem d_AR_description_11 : decode b_AR_description 11 = .ok (.ifCond .eq 10, 3) := by decide +kernel
theorem d_AR_description_14 : decode b_AR_description 14 = .ok (.iload_n 3, 1) := by decide +kernel
theorem d_AR_description_15 : decode b_AR_description 15 = .ok (.invokestatic 161, 3) := by decide +kernel
theorem d_AR_description_18 : decode b_AR_description 18 = .ok (.ifCond .ne 5, 3) := by decide +kernel
theorem d_AR_description_21 : decode b_AR_description 21 = .ok (.iconst (-1), 1) := by decide +kernel
theorem d_AR_description_22 : decode b_AR_description 22 = .ok (.ireturn, 1) := by decide +kernel
theorem d_AR_description_23 : decode b_AR_description 23 = .ok (.aload_n 0, 1) := by decide +kernel
theorem d_AR_description_24 : decode b_AR_description 24 = .ok (.iload_n 1, 1) := by decide +kernel
theorem d_AR_description_25 : decode b_AR_description 25 = .ok (.iload_n 2, 1) := by decide +kernel
theorem d_AR_description_26 : decode b_AR_description 26 = .ok (.invokevirtual 87, 3) := by decide +kernel
theorem d_AR_description_29 : decode b_AR_description 29 = .ok (.iload_n 3, 1) := by decide +kernel
theorem d_AR_description_30 : decode b_AR_description 30 = .ok (.iload 4, 2) := by decide +kernel
theorem d_AR_description_32 : decode b_AR_description 32 = .ok (.invokevirtual 164, 3) := by decide +kernel
theorem d_AR_description_35 : decode b_AR_description 35 = .ok (.ireturn, 1) := by decide +kernel
theorem d_Ba_marksOf_0 : decode b_Ba_marksOf 0 = .ok (.aload_n 0, 1) := by decide +kernel
theorem d_Ba_marksOf_1 : decode b_Ba_marksOf 1 = .ok (.getfield 37, 3) := by decide +kernel
theorem d_Ba_marksOf_4 : decode b_Ba_marksOf 4 = .ok (.iload_n 1, 1) := by decide +kernel
theorem d_Ba_marksOf_5 : decode b_Ba_marksOf 5 = .ok (.iaload, 1) := by decide +kernel
theorem d_Ba_marksOf_6 : decode b_Ba_marksOf 6 = .ok (.bipush 64, 2) := by decide +kernel
theorem d_Ba_marksOf_8 : decode b_Ba_marksOf 8 = .ok (.aload_n 0, 1) := by decide +kernel
theorem d_Ba_marksOf_9 : decode b_Ba_marksOf 9 = .ok (.getfield 40, 3) := by decide +kernel
theorem d_Ba_marksOf_12 : decode b_Ba_marksOf 12 = .ok (.iload_n 1, 1) := by decide +kernel
theorem d_Ba_marksOf_13 : decode b_Ba_marksOf 13 = .ok (.iaload, 1) := by decide +kernel
theorem d_Ba_marksOf_14 : decode b_Ba_marksOf 14 = .ok (.imul, 1) := by decide +kernel
theorem d_Ba_marksOf_15 : decode b_Ba_marksOf 15 = .ok (.iadd, 1) := by decide +kernel
theorem d_Ba_marksOf_16 : decode b_Ba_marksOf 16 = .ok (.ireturn, 1) := by decide +kernel
theorem d_AR_marks_0 : decode b_AR_marks 0 = .ok (.iload_n 1, 1) := by decide +kernel
theorem d_AR_marks_1 : decode b_AR_marks 1 = .ok (.invokestatic 51, 3) := by decide +kernel
theorem d_AR_marks_4 : decode b_AR_marks 4 = .ok (.ifCond .eq 19, 3) := by decide +kernel
theorem d_AR_marks_7 : decode b_AR_marks 7 = .ok (.aload_n 0, 1) := by decide +kernel
theorem d_AR_marks_8 : decode b_AR_marks 8 = .ok (.iload_n 1, 1) := by decide +kernel
theorem d_AR_marks_9 : decode b_AR_marks 9 = .ok (.iload_n 2, 1) := by decide +kernel
theorem d_AR_marks_10 : decode b_AR_marks 10 = .ok (.invokevirtual 134, 3) := by decide +kernel
theorem d_AR_marks_13 : decode b_AR_marks 13 = .ok (.ifCond .eq 10, 3) := by decide +kernel
theorem d_AR_marks_16 : decode b_AR_marks 16 = .ok (.iload_n 3, 1) := by decide +kernel
theorem d_AR_marks_17 : decode b_AR_marks 17 = .ok (.invokestatic 161, 3) := by decide +kernel
theorem d_AR_marks_20 : decode b_AR_marks 20 = .ok (.ifCond .ne 5, 3) := by decide +kernel
theorem d_AR_marks_23 : decode b_AR_marks 23 = .ok (.iconst (-1), 1) := by decide +kernel
theorem d_AR_marks_24 : decode b_AR_marks 24 = .ok (.ireturn, 1) := by decide +kernel
theorem d_AR_marks_25 : decode b_AR_marks 25 = .ok (.aload_n 0, 1) := by decide +kernel
theorem d_AR_marks_26 : decode b_AR_marks 26 = .ok (.iload_n 1, 1) := by decide +kernel
theorem d_AR_marks_27 : decode b_AR_marks 27 = .ok (.iload_n 2, 1) := by decide +kernel
theorem d_AR_marks_28 : decode b_AR_marks 28 = .ok (.invokevirtual 87, 3) := by decide +kernel
theorem d_AR_marks_31 : decode b_AR_marks 31 = .ok (.iload_n 3, 1) := by decide +kernel
theorem d_AR_marks_32 : decode b_AR_marks 32 = .ok (.invokevirtual 168, 3) := by decide +kernel
theorem d_AR_marks_35 : decode b_AR_marks 35 = .ok (.ireturn, 1) := by decide +kernel
theorem d_Wa_nextToSettle_0 : decode b_Wa_nextToSettle 0 = .ok (.iconst (-1), 1) := by decide +kernel
theorem d_Wa_nextToSettle_1 : decode b_Wa_nextToSettle 1 = .ok (.istore_n 1, 1) := by decide +kernel
theorem d_Wa_nextToSettle_2 : decode b_Wa_nextToSettle 2 = .ok (.iconst 0, 1) := by decide +kernel
theorem d_Wa_nextToSettle_3 : decode b_Wa_nextToSettle 3 = .ok (.istore_n 2, 1) := by decide +kernel
theorem d_Wa_nextToSettle_4 : decode b_Wa_nextToSettle 4 = .ok (.iload_n 2, 1) := by decide +kernel
theorem d_Wa_nextToSettle_5 : decode b_Wa_nextToSettle 5 = .ok (.bipush 42, 2) := by decide +kernel
theorem d_Wa_nextToSettle_7 : decode b_Wa_nextToSettle 7 = .ok (.if_icmp .ge 84, 3) := by decide +kernel
theorem d_Wa_nextToSettle_10 : decode b_Wa_nextToSettle 10 = .ok (.aload_n 0, 1) := by decide +kernel
theorem d_Wa_nextToSettle_11 : decode b_Wa_nextToSettle 11 = .ok (.getfield 18, 3) := by decide +kernel
theorem d_Wa_nextToSettle_14 : decode b_Wa_nextToSettle 14 = .ok (.iload_n 2, 1) := by decide +kernel
theorem d_Wa_nextToSettle_15 : decode b_Wa_nextToSettle 15 = .ok (.baload, 1) := by decide +kernel
theorem d_Wa_nextToSettle_16 : decode b_Wa_nextToSettle 16 = .ok (.ifCond .ne 69, 3) := by decide +kernel
theorem d_Wa_nextToSettle_19 : decode b_Wa_nextToSettle 19 = .ok (.aload_n 0, 1) := by decide +kernel
theorem d_Wa_nextToSettle_20 : decode b_Wa_nextToSettle 20 = .ok (.getfield 9, 3) := by decide +kernel
theorem d_Wa_nextToSettle_23 : decode b_Wa_nextToSettle 23 = .ok (.iload_n 2, 1) := by decide +kernel
theorem d_Wa_nextToSettle_24 : decode b_Wa_nextToSettle 24 = .ok (.iaload, 1) := by decide +kernel
theorem d_Wa_nextToSettle_25 : decode b_Wa_nextToSettle 25 = .ok (.ldc 22, 2) := by decide +kernel
theorem d_Wa_nextToSettle_27 : decode b_Wa_nextToSettle 27 = .ok (.if_icmp .ge 58, 3) := by decide +kernel
theorem d_Wa_nextToSettle_30 : decode b_Wa_nextToSettle 30 = .ok (.iload_n 1, 1) := by decide +kernel
theorem d_Wa_nextToSettle_31 : decode b_Wa_nextToSettle 31 = .ok (.ifCond .lt 18, 3) := by decide +kernel
theorem d_Wa_nextToSettle_34 : decode b_Wa_nextToSettle 34 = .ok (.aload_n 0, 1) := by decide +kernel
theorem d_Wa_nextToSettle_35 : decode b_Wa_nextToSettle 35 = .ok (.getfield 9, 3) := by decide +kernel
theorem d_Wa_nextToSettle_38 : decode b_Wa_nextToSettle 38 = .ok (.iload_n 2, 1) := by decide +kernel
theorem d_Wa_nextToSettle_39 : decode b_Wa_nextToSettle 39 = .ok (.iaload, 1) := by decide +kernel
theorem d_Wa_nextToSettle_40 : decode b_Wa_nextToSettle 40 = .ok (.aload_n 0, 1) := by decide +kernel
theorem d_Wa_nextToSettle_41 : decode b_Wa_nextToSettle 41 = .ok (.getfield 9, 3) := by decide +kernel
theorem d_Wa_nextToSettle_44 : decode b_Wa_nextToSettle 44 = .ok (.iload_n 1, 1) := by decide +kernel
theorem d_Wa_nextToSettle_45 : decode b_Wa_nextToSettle 45 = .ok (.iaload, 1) := by decide +kernel
theorem d_Wa_nextToSettle_46 : decode b_Wa_nextToSettle 46 = .ok (.if_icmp .ge 8, 3) := by decide +kernel
theorem d_Wa_nextToSettle_49 : decode b_Wa_nextToSettle 49 = .ok (.iload_n 2, 1) := by decide +kernel
theorem d_Wa_nextToSettle_50 : decode b_Wa_nextToSettle 50 = .ok (.istore_n 1, 1) := by decide +kernel
theorem d_Wa_nextToSettle_51 : decode b_Wa_nextToSettle 51 = .ok (.goto 34, 3) := by decide +kernel
theorem d_Wa_nextToSettle_54 : decode b_Wa_nextToSettle 54 = .ok (.aload_n 0, 1) := by decide +kernel
theorem d_Wa_nextToSettle_55 : decode b_Wa_nextToSettle 55 = .ok (.getfield 9, 3) := by decide +kernel
theorem d_Wa_nextToSettle_58 : decode b_Wa_nextToSettle 58 = .ok (.iload_n 2, 1) := by decide +kernel
theorem d_Wa_nextToSettle_59 : decode b_Wa_nextToSettle 59 = .ok (.iaload, 1) := by decide +kernel
theorem d_Wa_nextToSettle_60 : decode b_Wa_nextToSettle 60 = .ok (.aload_n 0, 1) := by decide +kernel
theorem d_Wa_nextToSettle_61 : decode b_Wa_nextToSettle 61 = .ok (.getfield 9, 3) := by decide +kernel
theorem d_Wa_nextToSettle_64 : decode b_Wa_nextToSettle 64 = .ok (.iload_n 1, 1) := by decide +kernel
theorem d_Wa_nextToSettle_65 : decode b_Wa_nextToSettle 65 = .ok (.iaload, 1) := by decide +kernel
theorem d_Wa_nextToSettle_66 : decode b_Wa_nextToSettle 66 = .ok (.if_icmp .ne 19, 3) := by decide +kernel
theorem d_Wa_nextToSettle_69 : decode b_Wa_nextToSettle 69 = .ok (.iload_n 1, 1) := by decide +kernel
theorem d_Wa_nextToSettle_70 : decode b_Wa_nextToSettle 70 = .ok (.invokestatic 31, 3) := by decide +kernel
theorem d_Wa_nextToSettle_73 : decode b_Wa_nextToSettle 73 = .ok (.ifCond .ne 12, 3) := by decide +kernel
theorem d_Wa_nextToSettle_76 : decode b_Wa_nextToSettle 76 = .ok (.iload_n 2, 1) := by decide +kernel
theorem d_Wa_nextToSettle_77 : decode b_Wa_nextToSettle 77 = .ok (.invokestatic 31, 3) := by decide +kernel
theorem d_Wa_nextToSettle_80 : decode b_Wa_nextToSettle 80 = .ok (.ifCond .le 5, 3) := by decide +kernel
theorem d_Wa_nextToSettle_83 : decode b_Wa_nextToSettle 83 = .ok (.iload_n 2, 1) := by decide +kernel
theorem d_Wa_nextToSettle_84 : decode b_Wa_nextToSettle 84 = .ok (.istore_n 1, 1) := by decide +kernel
theorem d_Wa_nextToSettle_85 : decode b_Wa_nextToSettle 85 = .ok (.iinc 2 1, 3) := by decide +kernel
theorem d_Wa_nextToSettle_88 : decode b_Wa_nextToSettle 88 = .ok (.goto (-84), 3) := by decide +kernel
theorem d_Wa_nextToSettle_91 : decode b_Wa_nextToSettle 91 = .ok (.iload_n 1, 1) := by decide +kernel
theorem d_Wa_nextToSettle_92 : decode b_Wa_nextToSettle 92 = .ok (.ireturn, 1) := by decide +kernel
theorem d_Ba_hasLink_0 : decode b_Ba_hasLink 0 = .ok (.iconst 0, 1) := by decide +kernel
theorem d_Ba_hasLink_1 : decode b_Ba_hasLink 1 = .ok (.istore_n 3, 1) := by decide +kernel
theorem d_Ba_hasLink_2 : decode b_Ba_hasLink 2 = .ok (.iload_n 3, 1) := by decide +kernel
theorem d_Ba_hasLink_3 : decode b_Ba_hasLink 3 = .ok (.aload_n 0, 1) := by decide +kernel
theorem d_Ba_hasLink_4 : decode b_Ba_hasLink 4 = .ok (.getfield 31, 3) := by decide +kernel
theorem d_Ba_hasLink_7 : decode b_Ba_hasLink 7 = .ok (.iload_n 1, 1) := by decide +kernel
theorem d_Ba_hasLink_8 : decode b_Ba_hasLink 8 = .ok (.iaload, 1) := by decide +kernel
theorem d_Ba_hasLink_9 : decode b_Ba_hasLink 9 = .ok (.if_icmp .ge 24, 3) := by decide +kernel
theorem d_Ba_hasLink_12 : decode b_Ba_hasLink 12 = .ok (.aload_n 0, 1) := by decide +kernel
theorem d_Ba_hasLink_13 : decode b_Ba_hasLink 13 = .ok (.iload_n 1, 1) := by decide +kernel
theorem d_Ba_hasLink_14 : decode b_Ba_hasLink 14 = .ok (.iload_n 3, 1) := by decide +kernel
theorem d_Ba_hasLink_15 : decode b_Ba_hasLink 15 = .ok (.invokevirtual 47, 3) := by decide +kernel
theorem d_Ba_hasLink_18 : decode b_Ba_hasLink 18 = .ok (.bipush 64, 2) := by decide +kernel
theorem d_Ba_hasLink_20 : decode b_Ba_hasLink 20 = .ok (.irem, 1) := by decide +kernel
theorem d_Ba_hasLink_21 : decode b_Ba_hasLink 21 = .ok (.iload_n 2, 1) := by decide +kernel
theorem d_Ba_hasLink_22 : decode b_Ba_hasLink 22 = .ok (.if_icmp .ne 5, 3) := by decide +kernel
theorem d_Ba_hasLink_25 : decode b_Ba_hasLink 25 = .ok (.iconst 1, 1) := by decide +kernel
theorem d_Ba_hasLink_26 : decode b_Ba_hasLink 26 = .ok (.ireturn, 1) := by decide +kernel
theorem d_Ba_hasLink_27 : decode b_Ba_hasLink 27 = .ok (.iinc 3 1, 3) := by decide +kernel
theorem d_Ba_hasLink_30 : decode b_Ba_hasLink 30 = .ok (.goto (-28), 3) := by decide +kernel
theorem d_Ba_hasLink_33 : decode b_Ba_hasLink 33 = .ok (.iconst 0, 1) := by decide +kernel
theorem d_Ba_hasLink_34 : decode b_Ba_hasLink 34 = .ok (.ireturn, 1) := by decide +kernel
theorem d_Wa_reach_0 : decode b_Wa_reach 0 = .ok (.iload_n 3, 1) := by decide +kernel
theorem d_Wa_reach_1 : decode b_Wa_reach 1 = .ok (.istore 4, 2) := by decide +kernel
theorem d_Wa_reach_3 : decode b_Wa_reach 3 = .ok (.iload_n 1, 1) := by decide +kernel
theorem d_Wa_reach_4 : decode b_Wa_reach 4 = .ok (.invokestatic 31, 3) := by decide +kernel
theorem d_Wa_reach_7 : decode b_Wa_reach 7 = .ok (.ifCond .ne 25, 3) := by decide +kernel
theorem d_Wa_reach_10 : decode b_Wa_reach 10 = .ok (.iload 4, 2) := by decide +kernel
theorem d_Wa_reach_12 : decode b_Wa_reach 12 = .ok (.bipush 64, 2) := by decide +kernel
theorem d_Wa_reach_14 : decode b_Wa_reach 14 = .ok (.iand, 1) := by decide +kernel
theorem d_Wa_reach_15 : decode b_Wa_reach 15 = .ok (.ifCond .eq 17, 3) := by decide +kernel
theorem d_Wa_reach_18 : decode b_Wa_reach 18 = .ok (.iload 4, 2) := by decide +kernel
theorem d_Wa_reach_20 : decode b_Wa_reach 20 = .ok (.bipush (-65), 2) := by decide +kernel
theorem d_Wa_reach_22 : decode b_Wa_reach 22 = .ok (.iand, 1) := by decide +kernel
theorem d_Wa_reach_23 : decode b_Wa_reach 23 = .ok (.iconst 1, 1) := by decide +kernel
theorem d_Wa_reach_24 : decode b_Wa_reach 24 = .ok (.iload_n 1, 1) := by decide +kernel
theorem d_Wa_reach_25 : decode b_Wa_reach 25 = .ok (.invokestatic 59, 3) := by decide +kernel
theorem d_Wa_reach_28 : decode b_Wa_reach 28 = .ok (.ishl, 1) := by decide +kernel
theorem d_Wa_reach_29 : decode b_Wa_reach 29 = .ok (.ior, 1) := by decide +kernel
theorem d_Wa_reach_30 : decode b_Wa_reach 30 = .ok (.istore 4, 2) := by decide +kernel
theorem d_Wa_reach_32 : decode b_Wa_reach 32 = .ok (.iload_n 2, 1) := by decide +kernel
theorem d_Wa_reach_33 : decode b_Wa_reach 33 = .ok (.aload_n 0, 1) := by decide +kernel
theorem d_Wa_reach_34 : decode b_Wa_reach 34 = .ok (.getfield 9, 3) := by decide +kernel
theorem d_Wa_reach_37 : decode b_Wa_reach 37 = .ok (.iload_n 1, 1) := by decide +kernel
theorem d_Wa_reach_38 : decode b_Wa_reach 38 = .ok (.iaload, 1) := by decide +kernel
theorem d_Wa_reach_39 : decode b_Wa_reach 39 = .ok (.if_icmp .ge 21, 3) := by decide +kernel
theorem d_Wa_reach_42 : decode b_Wa_reach 42 = .ok (.aload_n 0, 1) := by decide +kernel
theorem d_Wa_reach_43 : decode b_Wa_reach 43 = .ok (.getfield 9, 3) := by decide +kernel
theorem d_Wa_reach_46 : decode b_Wa_reach 46 = .ok (.iload_n 1, 1) := by decide +kernel
theorem d_Wa_reach_47 : decode b_Wa_reach 47 = .ok (.iload_n 2, 1) := by decide +kernel
theorem d_Wa_reach_48 : decode b_Wa_reach 48 = .ok (.iastore, 1) := by decide +kernel
theorem d_Wa_reach_49 : decode b_Wa_reach 49 = .ok (.aload_n 0, 1) := by decide +kernel
theorem d_Wa_reach_50 : decode b_Wa_reach 50 = .ok (.getfield 15, 3) := by decide +kernel
theorem d_Wa_reach_53 : decode b_Wa_reach 53 = .ok (.iload_n 1, 1) := by decide +kernel
theorem d_Wa_reach_54 : decode b_Wa_reach 54 = .ok (.iload 4, 2) := by decide +kernel
theorem d_Wa_reach_56 : decode b_Wa_reach 56 = .ok (.iastore, 1) := by decide +kernel
theorem d_Wa_reach_57 : decode b_Wa_reach 57 = .ok (.goto 24, 3) := by decide +kernel
theorem d_Wa_reach_60 : decode b_Wa_reach 60 = .ok (.iload_n 2, 1) := by decide +kernel
theorem d_Wa_reach_61 : decode b_Wa_reach 61 = .ok (.aload_n 0, 1) := by decide +kernel
theorem d_Wa_reach_62 : decode b_Wa_reach 62 = .ok (.getfield 9, 3) := by decide +kernel
theorem d_Wa_reach_65 : decode b_Wa_reach 65 = .ok (.iload_n 1, 1) := by decide +kernel
theorem d_Wa_reach_66 : decode b_Wa_reach 66 = .ok (.iaload, 1) := by decide +kernel
theorem d_Wa_reach_67 : decode b_Wa_reach 67 = .ok (.if_icmp .ne 14, 3) := by decide +kernel
theorem d_Wa_reach_70 : decode b_Wa_reach 70 = .ok (.aload_n 0, 1) := by decide +kernel
theorem d_Wa_reach_71 : decode b_Wa_reach 71 = .ok (.getfield 15, 3) := by decide +kernel
theorem d_Wa_reach_74 : decode b_Wa_reach 74 = .ok (.iload_n 1, 1) := by decide +kernel
theorem d_Wa_reach_75 : decode b_Wa_reach 75 = .ok (.dup2, 1) := by decide +kernel
theorem d_Wa_reach_76 : decode b_Wa_reach 76 = .ok (.iaload, 1) := by decide +kernel
theorem d_Wa_reach_77 : decode b_Wa_reach 77 = .ok (.iload 4, 2) := by decide +kernel
theorem d_Wa_reach_79 : decode b_Wa_reach 79 = .ok (.ior, 1) := by decide +kernel
theorem d_Wa_reach_80 : decode b_Wa_reach 80 = .ok (.iastore, 1) := by decide +kernel
theorem d_Wa_reach_81 : decode b_Wa_reach 81 = .ok (.return_, 1) := by decide +kernel
theorem d_Wa_followLinks_0 : decode b_Wa_followLinks 0 = .ok (.aload_n 1, 1) := by decide +kernel
theorem d_Wa_followLinks_1 : decode b_Wa_followLinks 1 = .ok (.iload_n 2, 1) := by decide +kernel
theorem d_Wa_followLinks_2 : decode b_Wa_followLinks 2 = .ok (.invokevirtual 35, 3) := by decide +kernel
theorem d_Wa_followLinks_5 : decode b_Wa_followLinks 5 = .ok (.ifCond .ne 4, 3) := by decide +kernel
theorem d_Wa_followLinks_8 : decode b_Wa_followLinks 8 = .ok (.return_, 1) := by decide +kernel
theorem d_Wa_followLinks_9 : decode b_Wa_followLinks 9 = .ok (.iconst 0, 1) := by decide +kernel
theorem d_Wa_followLinks_10 : decode b_Wa_followLinks 10 = .ok (.istore_n 3, 1) := by decide +kernel
theorem d_Wa_followLinks_11 : decode b_Wa_followLinks 11 = .ok (.iload_n 3, 1) := by decide +kernel
theorem d_Wa_followLinks_12 : decode b_Wa_followLinks 12 = .ok (.aload_n 1, 1) := by decide +kernel
theorem d_Wa_followLinks_13 : decode b_Wa_followLinks 13 = .ok (.getfield 41, 3) := by decide +kernel
theorem d_Wa_followLinks_16 : decode b_Wa_followLinks 16 = .ok (.iload_n 2, 1) := by decide +kernel
theorem d_Wa_followLinks_17 : decode b_Wa_followLinks 17 = .ok (.iaload, 1) := by decide +kernel
theorem d_Wa_followLinks_18 : decode b_Wa_followLinks 18 = .ok (.if_icmp .ge 75, 3) := by decide +kernel
theorem d_Wa_followLinks_21 : decode b_Wa_followLinks 21 = .ok (.aload_n 1, 1) := by decide +kernel
theorem d_Wa_followLinks_22 : decode b_Wa_followLinks 22 = .ok (.iload_n 2, 1) := by decide +kernel
theorem d_Wa_followLinks_23 : decode b_Wa_followLinks 23 = .ok (.iload_n 3, 1) := by decide +kernel
theorem d_Wa_followLinks_24 : decode b_Wa_followLinks 24 = .ok (.invokevirtual 44, 3) := by decide +kernel
theorem d_Wa_followLinks_27 : decode b_Wa_followLinks 27 = .ok (.istore 4, 2) := by decide +kernel
theorem d_Wa_followLinks_29 : decode b_Wa_followLinks 29 = .ok (.iload 4, 2) := by decide +kernel
theorem d_Wa_followLinks_31 : decode b_Wa_followLinks 31 = .ok (.bipush 64, 2) := by decide +kernel
theorem d_Wa_followLinks_33 : decode b_Wa_followLinks 33 = .ok (.irem, 1) := by decide +kernel
theorem d_Wa_followLinks_34 : decode b_Wa_followLinks 34 = .ok (.istore 5, 2) := by decide +kernel
theorem d_Wa_followLinks_36 : decode b_Wa_followLinks 36 = .ok (.iload 5, 2) := by decide +kernel
theorem d_Wa_followLinks_38 : decode b_Wa_followLinks 38 = .ok (.invokestatic 48, 3) := by decide +kernel
theorem d_Wa_followLinks_41 : decode b_Wa_followLinks 41 = .ok (.ifCond .eq 46, 3) := by decide +kernel
theorem d_Wa_followLinks_44 : decode b_Wa_followLinks 44 = .ok (.aload_n 1, 1) := by decide +kernel
theorem d_Wa_followLinks_45 : decode b_Wa_followLinks 45 = .ok (.iload 5, 2) := by decide +kernel
theorem d_Wa_followLinks_47 : decode b_Wa_followLinks 47 = .ok (.invokevirtual 35, 3) := by decide +kernel
theorem d_Wa_followLinks_50 : decode b_Wa_followLinks 50 = .ok (.ifCond .eq 37, 3) := by decide +kernel
theorem d_Wa_followLinks_53 : decode b_Wa_followLinks 53 = .ok (.aload_n 1, 1) := by decide +kernel
theorem d_Wa_followLinks_54 : decode b_Wa_followLinks 54 = .ok (.iload 5, 2) := by decide +kernel
theorem d_Wa_followLinks_56 : decode b_Wa_followLinks 56 = .ok (.iload_n 2, 1) := by decide +kernel
theorem d_Wa_followLinks_57 : decode b_Wa_followLinks 57 = .ok (.invokevirtual 51, 3) := by decide +kernel
theorem d_Wa_followLinks_60 : decode b_Wa_followLinks 60 = .ok (.ifCond .eq 27, 3) := by decide +kernel
theorem d_Wa_followLinks_63 : decode b_Wa_followLinks 63 = .ok (.aload_n 0, 1) := by decide +kernel
theorem d_Wa_followLinks_64 : decode b_Wa_followLinks 64 = .ok (.iload 5, 2) := by decide +kernel
theorem d_Wa_followLinks_66 : decode b_Wa_followLinks 66 = .ok (.aload_n 0, 1) := by decide +kernel
theorem d_Wa_followLinks_67 : decode b_Wa_followLinks 67 = .ok (.getfield 9, 3) := by decide +kernel
theorem d_Wa_followLinks_70 : decode b_Wa_followLinks 70 = .ok (.iload_n 2, 1) := by decide +kernel
theorem d_Wa_followLinks_71 : decode b_Wa_followLinks 71 = .ok (.iaload, 1) := by decide +kernel
theorem d_Wa_followLinks_72 : decode b_Wa_followLinks 72 = .ok (.iload 4, 2) := by decide +kernel
theorem d_Wa_followLinks_74 : decode b_Wa_followLinks 74 = .ok (.bipush 64, 2) := by decide +kernel
theorem d_Wa_followLinks_76 : decode b_Wa_followLinks 76 = .ok (.idiv, 1) := by decide +kernel
theorem d_Wa_followLinks_77 : decode b_Wa_followLinks 77 = .ok (.iadd, 1) := by decide +kernel
theorem d_Wa_followLinks_78 : decode b_Wa_followLinks 78 = .ok (.aload_n 0, 1) := by decide +kernel
theorem d_Wa_followLinks_79 : decode b_Wa_followLinks 79 = .ok (.getfield 15, 3) := by decide +kernel
theorem d_Wa_followLinks_82 : decode b_Wa_followLinks 82 = .ok (.iload_n 2, 1) := by decide +kernel
theorem d_Wa_followLinks_83 : decode b_Wa_followLinks 83 = .ok (.iaload, 1) := by decide +kernel
theorem d_Wa_followLinks_84 : decode b_Wa_followLinks 84 = .ok (.invokevirtual 55, 3) := by decide +kernel
theorem d_Wa_followLinks_87 : decode b_Wa_followLinks 87 = .ok (.iinc 3 1, 3) := by decide +kernel
theorem d_Wa_followLinks_90 : decode b_Wa_followLinks 90 = .ok (.goto (-79), 3) := by decide +kernel
theorem d_Wa_followLinks_93 : decode b_Wa_followLinks 93 = .ok (.return_, 1) := by decide +kernel
theorem d_Wa_find_0 : decode b_Wa_find 0 = .ok (.iconst 0, 1) := by decide +kernel
theorem d_Wa_find_1 : decode b_Wa_find 1 = .ok (.istore_n 3, 1) := by decide +kernel
theorem d_Wa_find_2 : decode b_Wa_find 2 = .ok (.iload_n 3, 1) := by decide +kernel
theorem d_Wa_find_3 : decode b_Wa_find 3 = .ok (.bipush 42, 2) := by decide +kernel
theorem d_Wa_find_5 : decode b_Wa_find 5 = .ok (.if_icmp .ge 31, 3) := by decide +kernel
theorem d_Wa_find_8 : decode b_Wa_find 8 = .ok (.aload_n 0, 1) := by decide +kernel
theorem d_Wa_find_9 : decode b_Wa_find 9 = .ok (.getfield 9, 3) := by decide +kernel
theorem d_Wa_find_12 : decode b_Wa_find 12 = .ok (.iload_n 3, 1) := by decide +kernel
theorem d_Wa_find_13 : decode b_Wa_find 13 = .ok (.ldc 22, 2) := by decide +kernel
theorem d_Wa_find_15 : decode b_Wa_find 15 = .ok (.iastore, 1) := by decide +kernel
theorem d_Wa_find_16 : decode b_Wa_find 16 = .ok (.aload_n 0, 1) := by decide +kernel
theorem d_Wa_find_17 : decode b_Wa_find 17 = .ok (.getfield 15, 3) := by decide +kernel
theorem d_Wa_find_20 : decode b_Wa_find 20 = .ok (.iload_n 3, 1) := by decide +kernel
theorem d_Wa_find_21 : decode b_Wa_find 21 = .ok (.iconst 0, 1) := by decide +kernel
theorem d_Wa_find_22 : decode b_Wa_find 22 = .ok (.iastore, 1) := by decide +kernel
theorem d_Wa_find_23 : decode b_Wa_find 23 = .ok (.aload_n 0, 1) := by decide +kernel
theorem d_Wa_find_24 : decode b_Wa_find 24 = .ok (.getfield 18, 3) := by decide +kernel
theorem d_Wa_find_27 : decode b_Wa_find 27 = .ok (.iload_n 3, 1) := by decide +kernel
theorem d_Wa_find_28 : decode b_Wa_find 28 = .ok (.iconst 0, 1) := by decide +kernel
theorem d_Wa_find_29 : decode b_Wa_find 29 = .ok (.bastore, 1) := by decide +kernel
theorem d_Wa_find_30 : decode b_Wa_find 30 = .ok (.iinc 3 1, 3) := by decide +kernel
theorem d_Wa_find_33 : decode b_Wa_find 33 = .ok (.goto (-31), 3) := by decide +kernel
theorem d_Wa_find_36 : decode b_Wa_find 36 = .ok (.aload_n 0, 1) := by decide +kernel
theorem d_Wa_find_37 : decode b_Wa_find 37 = .ok (.getfield 9, 3) := by decide +kernel
theorem d_Wa_find_40 : decode b_Wa_find 40 = .ok (.iload_n 2, 1) := by decide +kernel
theorem d_Wa_find_41 : decode b_Wa_find 41 = .ok (.iconst 0, 1) := by decide +kernel
theorem d_Wa_find_42 : decode b_Wa_find 42 = .ok (.iastore, 1) := by decide +kernel
theorem d_Wa_find_43 : decode b_Wa_find 43 = .ok (.aload_n 0, 1) := by decide +kernel
theorem d_Wa_find_44 : decode b_Wa_find 44 = .ok (.getfield 15, 3) := by decide +kernel
theorem d_Wa_find_47 : decode b_Wa_find 47 = .ok (.iload_n 2, 1) := by decide +kernel
theorem d_Wa_find_48 : decode b_Wa_find 48 = .ok (.bipush 64, 2) := by decide +kernel
theorem d_Wa_find_50 : decode b_Wa_find 50 = .ok (.iastore, 1) := by decide +kernel
theorem d_Wa_find_51 : decode b_Wa_find 51 = .ok (.iconst 0, 1) := by decide +kernel
theorem d_Wa_find_52 : decode b_Wa_find 52 = .ok (.istore_n 3, 1) := by decide +kernel
theorem d_Wa_find_53 : decode b_Wa_find 53 = .ok (.iload_n 3, 1) := by decide +kernel
theorem d_Wa_find_54 : decode b_Wa_find 54 = .ok (.bipush 42, 2) := by decide +kernel
theorem d_Wa_find_56 : decode b_Wa_find 56 = .ok (.if_icmp .ge 36, 3) := by decide +kernel
theorem d_Wa_find_59 : decode b_Wa_find 59 = .ok (.aload_n 0, 1) := by decide +kernel
theorem d_Wa_find_60 : decode b_Wa_find 60 = .ok (.invokevirtual 23, 3) := by decide +kernel
theorem d_Wa_find_63 : decode b_Wa_find 63 = .ok (.istore 4, 2) := by decide +kernel
theorem d_Wa_find_65 : decode b_Wa_find 65 = .ok (.iload 4, 2) := by decide +kernel
theorem d_Wa_find_67 : decode b_Wa_find 67 = .ok (.ifCond .ge 4, 3) := by decide +kernel
theorem d_Wa_find_70 : decode b_Wa_find 70 = .ok (.return_, 1) := by decide +kernel
theorem d_Wa_find_71 : decode b_Wa_find 71 = .ok (.aload_n 0, 1) := by decide +kernel
theorem d_Wa_find_72 : decode b_Wa_find 72 = .ok (.getfield 18, 3) := by decide +kernel
theorem d_Wa_find_75 : decode b_Wa_find 75 = .ok (.iload 4, 2) := by decide +kernel
theorem d_Wa_find_77 : decode b_Wa_find 77 = .ok (.iconst 1, 1) := by decide +kernel
theorem d_Wa_find_78 : decode b_Wa_find 78 = .ok (.bastore, 1) := by decide +kernel
theorem d_Wa_find_79 : decode b_Wa_find 79 = .ok (.aload_n 0, 1) := by decide +kernel
theorem d_Wa_find_80 : decode b_Wa_find 80 = .ok (.aload_n 1, 1) := by decide +kernel
theorem d_Wa_find_81 : decode b_Wa_find 81 = .ok (.iload 4, 2) := by decide +kernel
theorem d_Wa_find_83 : decode b_Wa_find 83 = .ok (.invokevirtual 27, 3) := by decide +kernel
theorem d_Wa_find_86 : decode b_Wa_find 86 = .ok (.iinc 3 1, 3) := by decide +kernel
theorem d_Wa_find_89 : decode b_Wa_find 89 = .ok (.goto (-36), 3) := by decide +kernel
theorem d_Wa_find_92 : decode b_Wa_find 92 = .ok (.return_, 1) := by decide +kernel
theorem d_Wa_wayTo_0 : decode b_Wa_wayTo 0 = .ok (.iload_n 1, 1) := by decide +kernel
theorem d_Wa_wayTo_1 : decode b_Wa_wayTo 1 = .ok (.invokestatic 62, 3) := by decide +kernel
theorem d_Wa_wayTo_4 : decode b_Wa_wayTo 4 = .ok (.ifCond .eq 18, 3) := by decide +kernel
theorem d_Wa_wayTo_7 : decode b_Wa_wayTo 7 = .ok (.aload_n 0, 1) := by decide +kernel
theorem d_Wa_wayTo_8 : decode b_Wa_wayTo 8 = .ok (.getfield 9, 3) := by decide +kernel
theorem d_Wa_wayTo_11 : decode b_Wa_wayTo 11 = .ok (.iload_n 1, 1) := by decide +kernel
theorem d_Wa_wayTo_12 : decode b_Wa_wayTo 12 = .ok (.iconst 0, 1) := by decide +kernel
theorem d_Wa_wayTo_13 : decode b_Wa_wayTo 13 = .ok (.invokestatic 65, 3) := by decide +kernel
theorem d_Wa_wayTo_16 : decode b_Wa_wayTo 16 = .ok (.iaload, 1) := by decide +kernel
theorem d_Wa_wayTo_17 : decode b_Wa_wayTo 17 = .ok (.ldc 22, 2) := by decide +kernel
theorem d_Wa_wayTo_19 : decode b_Wa_wayTo 19 = .ok (.if_icmp .lt 5, 3) := by decide +kernel
theorem d_Wa_wayTo_22 : decode b_Wa_wayTo 22 = .ok (.iconst (-1), 1) := by decide +kernel
theorem d_Wa_wayTo_23 : decode b_Wa_wayTo 23 = .ok (.ireturn, 1) := by decide +kernel
theorem d_Wa_wayTo_24 : decode b_Wa_wayTo 24 = .ok (.aload_n 0, 1) := by decide +kernel
theorem d_Wa_wayTo_25 : decode b_Wa_wayTo 25 = .ok (.getfield 15, 3) := by decide +kernel
theorem d_Wa_wayTo_28 : decode b_Wa_wayTo 28 = .ok (.iload_n 1, 1) := by decide +kernel
theorem d_Wa_wayTo_29 : decode b_Wa_wayTo 29 = .ok (.iconst 0, 1) := by decide +kernel
theorem d_Wa_wayTo_30 : decode b_Wa_wayTo 30 = .ok (.invokestatic 65, 3) := by decide +kernel
theorem d_Wa_wayTo_33 : decode b_Wa_wayTo 33 = .ok (.iaload, 1) := by decide +kernel
theorem d_Wa_wayTo_34 : decode b_Wa_wayTo 34 = .ok (.istore_n 2, 1) := by decide +kernel
theorem d_Wa_wayTo_35 : decode b_Wa_wayTo 35 = .ok (.iconst 0, 1) := by decide +kernel
theorem d_Wa_wayTo_36 : decode b_Wa_wayTo 36 = .ok (.istore_n 3, 1) := by decide +kernel
theorem d_Wa_wayTo_37 : decode b_Wa_wayTo 37 = .ok (.iload_n 3, 1) := by decide +kernel
theorem d_Wa_wayTo_38 : decode b_Wa_wayTo 38 = .ok (.bipush 6, 2) := by decide +kernel
theorem d_Wa_wayTo_40 : decode b_Wa_wayTo 40 = .ok (.if_icmp .ge 33, 3) := by decide +kernel
theorem d_Wa_wayTo_43 : decode b_Wa_wayTo 43 = .ok (.iload_n 2, 1) := by decide +kernel
theorem d_Wa_wayTo_44 : decode b_Wa_wayTo 44 = .ok (.iload_n 3, 1) := by decide +kernel
theorem d_Wa_wayTo_45 : decode b_Wa_wayTo 45 = .ok (.ishr, 1) := by decide +kernel
theorem d_Wa_wayTo_46 : decode b_Wa_wayTo 46 = .ok (.iconst 1, 1) := by decide +kernel
theorem d_Wa_wayTo_47 : decode b_Wa_wayTo 47 = .ok (.iand, 1) := by decide +kernel
theorem d_Wa_wayTo_48 : decode b_Wa_wayTo 48 = .ok (.ifCond .eq 19, 3) := by decide +kernel
theorem d_Wa_wayTo_51 : decode b_Wa_wayTo 51 = .ok (.iload_n 3, 1) := by decide +kernel
theorem d_Wa_wayTo_52 : decode b_Wa_wayTo 52 = .ok (.bipush 8, 2) := by decide +kernel
theorem d_Wa_wayTo_54 : decode b_Wa_wayTo 54 = .ok (.aload_n 0, 1) := by decide +kernel
theorem d_Wa_wayTo_55 : decode b_Wa_wayTo 55 = .ok (.getfield 9, 3) := by decide +kernel
theorem d_Wa_wayTo_58 : decode b_Wa_wayTo 58 = .ok (.iload_n 1, 1) := by decide +kernel
theorem d_Wa_wayTo_59 : decode b_Wa_wayTo 59 = .ok (.iconst 0, 1) := by decide +kernel
theorem d_Wa_wayTo_60 : decode b_Wa_wayTo 60 = .ok (.invokestatic 65, 3) := by decide +kernel
theorem d_Wa_wayTo_63 : decode b_Wa_wayTo 63 = .ok (.iaload, 1) := by decide +kernel
theorem d_Wa_wayTo_64 : decode b_Wa_wayTo 64 = .ok (.imul, 1) := by decide +kernel
theorem d_Wa_wayTo_65 : decode b_Wa_wayTo 65 = .ok (.iadd, 1) := by decide +kernel
theorem d_Wa_wayTo_66 : decode b_Wa_wayTo 66 = .ok (.ireturn, 1) := by decide +kernel
theorem d_Wa_wayTo_67 : decode b_Wa_wayTo 67 = .ok (.iinc 3 1, 3) := by decide +kernel
theorem d_Wa_wayTo_70 : decode b_Wa_wayTo 70 = .ok (.goto (-33), 3) := by decide +kernel
theorem d_Wa_wayTo_73 : decode b_Wa_wayTo 73 = .ok (.iconst (-1), 1) := by decide +kernel
theorem d_Wa_wayTo_74 : decode b_Wa_wayTo 74 = .ok (.ireturn, 1) := by decide +kernel
theorem d_Wa_nearer_0 : decode b_Wa_nearer 0 = .ok (.iload_n 1, 1) := by decide +kernel
theorem d_Wa_nearer_1 : decode b_Wa_nearer 1 = .ok (.invokestatic 62, 3) := by decide +kernel
theorem d_Wa_nearer_4 : decode b_Wa_nearer 4 = .ok (.ifCond .eq 16, 3) := by decide +kernel
theorem d_Wa_nearer_7 : decode b_Wa_nearer 7 = .ok (.aload_n 0, 1) := by decide +kernel
theorem d_Wa_nearer_8 : decode b_Wa_nearer 8 = .ok (.getfield 9, 3) := by decide +kernel
theorem d_Wa_nearer_11 : decode b_Wa_nearer 11 = .ok (.iload_n 1, 1) := by decide +kernel
theorem d_Wa_nearer_12 : decode b_Wa_nearer 12 = .ok (.iconst 0, 1) := by decide +kernel
theorem d_Wa_nearer_13 : decode b_Wa_nearer 13 = .ok (.invokestatic 65, 3) := by decide +kernel
theorem d_Wa_nearer_16 : decode b_Wa_nearer 16 = .ok (.iaload, 1) := by decide +kernel
theorem d_Wa_nearer_17 : decode b_Wa_nearer 17 = .ok (.goto 5, 3) := by decide +kernel
theorem d_Wa_nearer_20 : decode b_Wa_nearer 20 = .ok (.ldc 22, 2) := by decide +kernel
theorem d_Wa_nearer_22 : decode b_Wa_nearer 22 = .ok (.istore_n 3, 1) := by decide +kernel
theorem d_Wa_nearer_23 : decode b_Wa_nearer 23 = .ok (.aload_n 0, 1) := by decide +kernel
theorem d_Wa_nearer_24 : decode b_Wa_nearer 24 = .ok (.getfield 9, 3) := by decide +kernel
theorem d_Wa_nearer_27 : decode b_Wa_nearer 27 = .ok (.iload_n 2, 1) := by decide +kernel
theorem d_Wa_nearer_28 : decode b_Wa_nearer 28 = .ok (.iconst 0, 1) := by decide +kernel
theorem d_Wa_nearer_29 : decode b_Wa_nearer 29 = .ok (.invokestatic 65, 3) := by decide +kernel
theorem d_Wa_nearer_32 : decode b_Wa_nearer 32 = .ok (.iaload, 1) := by decide +kernel
theorem d_Wa_nearer_33 : decode b_Wa_nearer 33 = .ok (.iload_n 3, 1) := by decide +kernel
theorem d_Wa_nearer_34 : decode b_Wa_nearer 34 = .ok (.if_icmp .ge 7, 3) := by decide +kernel
theorem d_Wa_nearer_37 : decode b_Wa_nearer 37 = .ok (.iload_n 2, 1) := by decide +kernel
theorem d_Wa_nearer_38 : decode b_Wa_nearer 38 = .ok (.goto 4, 3) := by decide +kernel
theorem d_Wa_nearer_41 : decode b_Wa_nearer 41 = .ok (.iload_n 1, 1) := by decide +kernel
theorem d_Wa_nearer_42 : decode b_Wa_nearer 42 = .ok (.ireturn, 1) := by decide +kernel
theorem d_AR_wayToArea_0 : decode b_AR_wayToArea 0 = .ok (.aload_n 0, 1) := by decide +kernel
theorem d_AR_wayToArea_1 : decode b_AR_wayToArea 1 = .ok (.iload_n 1, 1) := by decide +kernel
theorem d_AR_wayToArea_2 : decode b_AR_wayToArea 2 = .ok (.iconst 2, 1) := by decide +kernel
theorem d_AR_wayToArea_3 : decode b_AR_wayToArea 3 = .ok (.invokevirtual 87, 3) := by decide +kernel
theorem d_AR_wayToArea_6 : decode b_AR_wayToArea 6 = .ok (.astore_n 3, 1) := by decide +kernel
theorem d_AR_wayToArea_7 : decode b_AR_wayToArea 7 = .ok (.aload_n 0, 1) := by decide +kernel
theorem d_AR_wayToArea_8 : decode b_AR_wayToArea 8 = .ok (.getfield 47, 3) := by decide +kernel
theorem d_AR_wayToArea_11 : decode b_AR_wayToArea 11 = .ok (.aload_n 3, 1) := by decide +kernel
theorem d_AR_wayToArea_12 : decode b_AR_wayToArea 12 = .ok (.iload_n 1, 1) := by decide +kernel
theorem d_AR_wayToArea_13 : decode b_AR_wayToArea 13 = .ok (.iconst 0, 1) := by decide +kernel
theorem d_AR_wayToArea_14 : decode b_AR_wayToArea 14 = .ok (.invokestatic 215, 3) := by decide +kernel
theorem d_AR_wayToArea_17 : decode b_AR_wayToArea 17 = .ok (.invokevirtual 263, 3) := by decide +kernel
theorem d_AR_wayToArea_20 : decode b_AR_wayToArea 20 = .ok (.iconst (-1), 1) := by decide +kernel
theorem d_AR_wayToArea_21 : decode b_AR_wayToArea 21 = .ok (.istore 4, 2) := by decide +kernel
theorem d_AR_wayToArea_23 : decode b_AR_wayToArea 23 = .ok (.iconst 0, 1) := by decide +kernel
theorem d_AR_wayToArea_24 : decode b_AR_wayToArea 24 = .ok (.istore 5, 2) := by decide +kernel
theorem d_AR_wayToArea_26 : decode b_AR_wayToArea 26 = .ok (.iload 5, 2) := by decide +kernel
theorem d_AR_wayToArea_28 : decode b_AR_wayToArea 28 = .ok (.bipush 6, 2) := by decide +kernel
theorem d_AR_wayToArea_30 : decode b_AR_wayToArea 30 = .ok (.if_icmp .ge 43, 3) := by decide +kernel
theorem d_AR_wayToArea_33 : decode b_AR_wayToArea 33 = .ok (.iload 5, 2) := by decide +kernel
theorem d_AR_wayToArea_35 : decode b_AR_wayToArea 35 = .ok (.iload_n 1, 1) := by decide +kernel
theorem d_AR_wayToArea_36 : decode b_AR_wayToArea 36 = .ok (.if_icmp .eq 31, 3) := by decide +kernel
theorem d_AR_wayToArea_39 : decode b_AR_wayToArea 39 = .ok (.aload_n 3, 1) := by decide +kernel
theorem d_AR_wayToArea_40 : decode b_AR_wayToArea 40 = .ok (.getfield 275, 3) := by decide +kernel
theorem d_AR_wayToArea_43 : decode b_AR_wayToArea 43 = .ok (.iload 5, 2) := by decide +kernel
theorem d_AR_wayToArea_45 : decode b_AR_wayToArea 45 = .ok (.iconst 0, 1) := by decide +kernel
theorem d_AR_wayToArea_46 : decode b_AR_wayToArea 46 = .ok (.invokestatic 215, 3) := by decide +kernel
theorem d_AR_wayToArea_49 : decode b_AR_wayToArea 49 = .ok (.iaload, 1) := by decide +kernel
theorem d_AR_wayToArea_50 : decode b_AR_wayToArea 50 = .ok (.iload_n 2, 1) := by decide +kernel
theorem d_AR_wayToArea_51 : decode b_AR_wayToArea 51 = .ok (.if_icmp .ne 16, 3) := by decide +kernel
theorem d_AR_wayToArea_54 : decode b_AR_wayToArea 54 = .ok (.aload_n 0, 1) := by decide +kernel
theorem d_AR_wayToArea_55 : decode b_AR_wayToArea 55 = .ok (.getfield 47, 3) := by decide +kernel
theorem d_AR_wayToArea_58 : decode b_AR_wayToArea 58 = .ok (.iload 4, 2) := by decide +kernel
theorem d_AR_wayToArea_60 : decode b_AR_wayToArea 60 = .ok (.iload 5, 2) := by decide +kernel
theorem d_AR_wayToArea_62 : decode b_AR_wayToArea 62 = .ok (.invokevirtual 276, 3) := by decide +kernel
theorem d_AR_wayToArea_65 : decode b_AR_wayToArea 65 = .ok (.istore 4, 2) := by decide +kernel
theorem d_AR_wayToArea_67 : decode b_AR_wayToArea 67 = .ok (.iinc 5 1, 3) := by decide +kernel
theorem d_AR_wayToArea_70 : decode b_AR_wayToArea 70 = .ok (.goto (-44), 3) := by decide +kernel
theorem d_AR_wayToArea_73 : decode b_AR_wayToArea 73 = .ok (.aload_n 0, 1) := by decide +kernel
theorem d_AR_wayToArea_74 : decode b_AR_wayToArea 74 = .ok (.getfield 47, 3) := by decide +kernel
theorem d_AR_wayToArea_77 : decode b_AR_wayToArea 77 = .ok (.iload 4, 2) := by decide +kernel
theorem d_AR_wayToArea_79 : decode b_AR_wayToArea 79 = .ok (.invokevirtual 266, 3) := by decide +kernel
theorem d_AR_wayToArea_82 : decode b_AR_wayToArea 82 = .ok (.ireturn, 1) := by decide +kernel
theorem d_AR_wayToExit_0 : decode b_AR_wayToExit 0 = .ok (.aload_n 0, 1) := by decide +kernel
theorem d_AR_wayToExit_1 : decode b_AR_wayToExit 1 = .ok (.iload_n 1, 1) := by decide +kernel
theorem d_AR_wayToExit_2 : decode b_AR_wayToExit 2 = .ok (.iconst 1, 1) := by decide +kernel
theorem d_AR_wayToExit_3 : decode b_AR_wayToExit 3 = .ok (.invokevirtual 87, 3) := by decide +kernel
theorem d_AR_wayToExit_6 : decode b_AR_wayToExit 6 = .ok (.astore_n 2, 1) := by decide +kernel
theorem d_AR_wayToExit_7 : decode b_AR_wayToExit 7 = .ok (.aload_n 0, 1) := by decide +kernel
theorem d_AR_wayToExit_8 : decode b_AR_wayToExit 8 = .ok (.getfield 47, 3) := by decide +kernel
theorem d_AR_wayToExit_11 : decode b_AR_wayToExit 11 = .ok (.aload_n 2, 1) := by decide +kernel
theorem d_AR_wayToExit_12 : decode b_AR_wayToExit 12 = .ok (.iload_n 1, 1) := by decide +kernel
theorem d_AR_wayToExit_13 : decode b_AR_wayToExit 13 = .ok (.iconst 0, 1) := by decide +kernel
theorem d_AR_wayToExit_14 : decode b_AR_wayToExit 14 = .ok (.invokestatic 215, 3) := by decide +kernel
theorem d_AR_wayToExit_17 : decode b_AR_wayToExit 17 = .ok (.invokevirtual 263, 3) := by decide +kernel
theorem d_AR_wayToExit_20 : decode b_AR_wayToExit 20 = .ok (.iconst (-1), 1) := by decide +kernel
theorem d_AR_wayToExit_21 : decode b_AR_wayToExit 21 = .ok (.istore_n 3, 1) := by decide +kernel
theorem d_AR_wayToExit_22 : decode b_AR_wayToExit 22 = .ok (.iconst 0, 1) := by decide +kernel
theorem d_AR_wayToExit_23 : decode b_AR_wayToExit 23 = .ok (.istore 4, 2) := by decide +kernel
theorem d_AR_wayToExit_25 : decode b_AR_wayToExit 25 = .ok (.iload 4, 2) := by decide +kernel
theorem d_AR_wayToExit_27 : decode b_AR_wayToExit 27 = .ok (.bipush 6, 2) := by decide +kernel
theorem d_AR_wayToExit_29 : decode b_AR_wayToExit 29 = .ok (.if_icmp .ge 40, 3) := by decide +kernel
theorem d_AR_wayToExit_32 : decode b_AR_wayToExit 32 = .ok (.iload 4, 2) := by decide +kernel
theorem d_AR_wayToExit_34 : decode b_AR_wayToExit 34 = .ok (.iload_n 1, 1) := by decide +kernel
theorem d_AR_wayToExit_35 : decode b_AR_wayToExit 35 = .ok (.if_icmp .eq 28, 3) := by decide +kernel
theorem d_AR_wayToExit_38 : decode b_AR_wayToExit 38 = .ok (.aload_n 2, 1) := by decide +kernel
theorem d_AR_wayToExit_39 : decode b_AR_wayToExit 39 = .ok (.getfield 279, 3) := by decide +kernel
theorem d_AR_wayToExit_42 : decode b_AR_wayToExit 42 = .ok (.iload 4, 2) := by decide +kernel
theorem d_AR_wayToExit_44 : decode b_AR_wayToExit 44 = .ok (.iconst 0, 1) := by decide +kernel
theorem d_AR_wayToExit_45 : decode b_AR_wayToExit 45 = .ok (.invokestatic 215, 3) := by decide +kernel
theorem d_AR_wayToExit_48 : decode b_AR_wayToExit 48 = .ok (.baload, 1) := by decide +kernel
theorem d_AR_wayToExit_49 : decode b_AR_wayToExit 49 = .ok (.ifCond .eq 14, 3) := by decide +kernel
theorem d_AR_wayToExit_52 : decode b_AR_wayToExit 52 = .ok (.aload_n 0, 1) := by decide +kernel
theorem d_AR_wayToExit_53 : decode b_AR_wayToExit 53 = .ok (.getfield 47, 3) := by decide +kernel
theorem d_AR_wayToExit_56 : decode b_AR_wayToExit 56 = .ok (.iload_n 3, 1) := by decide +kernel
theorem d_AR_wayToExit_57 : decode b_AR_wayToExit 57 = .ok (.iload 4, 2) := by decide +kernel
theorem d_AR_wayToExit_59 : decode b_AR_wayToExit 59 = .ok (.invokevirtual 276, 3) := by decide +kernel
theorem d_AR_wayToExit_62 : decode b_AR_wayToExit 62 = .ok (.istore_n 3, 1) := by decide +kernel
theorem d_AR_wayToExit_63 : decode b_AR_wayToExit 63 = .ok (.iinc 4 1, 3) := by decide +kernel
theorem d_AR_wayToExit_66 : decode b_AR_wayToExit 66 = .ok (.goto (-41), 3) := by decide +kernel
theorem d_AR_wayToExit_69 : decode b_AR_wayToExit 69 = .ok (.aload_n 0, 1) := by decide +kernel
theorem d_AR_wayToExit_70 : decode b_AR_wayToExit 70 = .ok (.getfield 47, 3) := by decide +kernel
theorem d_AR_wayToExit_73 : decode b_AR_wayToExit 73 = .ok (.iload_n 3, 1) := by decide +kernel
theorem d_AR_wayToExit_74 : decode b_AR_wayToExit 74 = .ok (.invokevirtual 266, 3) := by decide +kernel
theorem d_AR_wayToExit_77 : decode b_AR_wayToExit 77 = .ok (.ireturn, 1) := by decide +kernel
theorem d_AR_wayFrom_0 : decode b_AR_wayFrom 0 = .ok (.aload_n 0, 1) := by decide +kernel
theorem d_AR_wayFrom_1 : decode b_AR_wayFrom 1 = .ok (.iload_n 1, 1) := by decide +kernel
theorem d_AR_wayFrom_2 : decode b_AR_wayFrom 2 = .ok (.iconst 1, 1) := by decide +kernel
theorem d_AR_wayFrom_3 : decode b_AR_wayFrom 3 = .ok (.invokevirtual 134, 3) := by decide +kernel
theorem d_AR_wayFrom_6 : decode b_AR_wayFrom 6 = .ok (.ifCond .eq 51, 3) := by decide +kernel
theorem d_AR_wayFrom_9 : decode b_AR_wayFrom 9 = .ok (.aload_n 0, 1) := by decide +kernel
theorem d_AR_wayFrom_10 : decode b_AR_wayFrom 10 = .ok (.getfield 9, 3) := by decide +kernel
theorem d_AR_wayFrom_13 : decode b_AR_wayFrom 13 = .ok (.iload_n 1, 1) := by decide +kernel
theorem d_AR_wayFrom_14 : decode b_AR_wayFrom 14 = .ok (.iaload, 1) := by decide +kernel
theorem d_AR_wayFrom_15 : decode b_AR_wayFrom 15 = .ok (.aload_n 0, 1) := by decide +kernel
theorem d_AR_wayFrom_16 : decode b_AR_wayFrom 16 = .ok (.getfield 9, 3) := by decide +kernel
theorem d_AR_wayFrom_19 : decode b_AR_wayFrom 19 = .ok (.iload_n 2, 1) := by decide +kernel
theorem d_AR_wayFrom_20 : decode b_AR_wayFrom 20 = .ok (.iaload, 1) := by decide +kernel
theorem d_AR_wayFrom_21 : decode b_AR_wayFrom 21 = .ok (.if_icmp .ne 36, 3) := by decide +kernel
theorem d_AR_wayFrom_24 : decode b_AR_wayFrom 24 = .ok (.aload_n 0, 1) := by decide +kernel
theorem d_AR_wayFrom_25 : decode b_AR_wayFrom 25 = .ok (.getfield 47, 3) := by decide +kernel
theorem d_AR_wayFrom_28 : decode b_AR_wayFrom 28 = .ok (.aload_n 0, 1) := by decide +kernel
theorem d_AR_wayFrom_29 : decode b_AR_wayFrom 29 = .ok (.iload_n 1, 1) := by decide +kernel
theorem d_AR_wayFrom_30 : decode b_AR_wayFrom 30 = .ok (.iconst 1, 1) := by decide +kernel
theorem d_AR_wayFrom_31 : decode b_AR_wayFrom 31 = .ok (.invokevirtual 87, 3) := by decide +kernel
theorem d_AR_wayFrom_34 : decode b_AR_wayFrom 34 = .ok (.iload_n 1, 1) := by decide +kernel
theorem d_AR_wayFrom_35 : decode b_AR_wayFrom 35 = .ok (.iconst 0, 1) := by decide +kernel
theorem d_AR_wayFrom_36 : decode b_AR_wayFrom 36 = .ok (.invokestatic 215, 3) := by decide +kernel
theorem d_AR_wayFrom_39 : decode b_AR_wayFrom 39 = .ok (.invokevirtual 263, 3) := by decide +kernel
theorem d_AR_wayFrom_42 : decode b_AR_wayFrom 42 = .ok (.aload_n 0, 1) := by decide +kernel
theorem d_AR_wayFrom_43 : decode b_AR_wayFrom 43 = .ok (.getfield 47, 3) := by decide +kernel
theorem d_AR_wayFrom_46 : decode b_AR_wayFrom 46 = .ok (.iload_n 2, 1) := by decide +kernel
theorem d_AR_wayFrom_47 : decode b_AR_wayFrom 47 = .ok (.invokevirtual 266, 3) := by decide +kernel
theorem d_AR_wayFrom_50 : decode b_AR_wayFrom 50 = .ok (.istore_n 3, 1) := by decide +kernel
theorem d_AR_wayFrom_51 : decode b_AR_wayFrom 51 = .ok (.iload_n 3, 1) := by decide +kernel
theorem d_AR_wayFrom_52 : decode b_AR_wayFrom 52 = .ok (.ifCond .lt 5, 3) := by decide +kernel
theorem d_AR_wayFrom_55 : decode b_AR_wayFrom 55 = .ok (.iload_n 3, 1) := by decide +kernel
theorem d_AR_wayFrom_56 : decode b_AR_wayFrom 56 = .ok (.ireturn, 1) := by decide +kernel
theorem d_AR_wayFrom_57 : decode b_AR_wayFrom 57 = .ok (.aload_n 0, 1) := by decide +kernel
theorem d_AR_wayFrom_58 : decode b_AR_wayFrom 58 = .ok (.iload_n 1, 1) := by decide +kernel
theorem d_AR_wayFrom_59 : decode b_AR_wayFrom 59 = .ok (.iconst 2, 1) := by decide +kernel
theorem d_AR_wayFrom_60 : decode b_AR_wayFrom 60 = .ok (.invokevirtual 134, 3) := by decide +kernel
theorem d_AR_wayFrom_63 : decode b_AR_wayFrom 63 = .ok (.ifCond .eq 17, 3) := by decide +kernel
theorem d_AR_wayFrom_66 : decode b_AR_wayFrom 66 = .ok (.aload_n 0, 1) := by decide +kernel
theorem d_AR_wayFrom_67 : decode b_AR_wayFrom 67 = .ok (.iload_n 1, 1) := by decide +kernel
theorem d_AR_wayFrom_68 : decode b_AR_wayFrom 68 = .ok (.aload_n 0, 1) := by decide +kernel
theorem d_AR_wayFrom_69 : decode b_AR_wayFrom 69 = .ok (.getfield 9, 3) := by decide +kernel
theorem d_AR_wayFrom_72 : decode b_AR_wayFrom 72 = .ok (.iload_n 2, 1) := by decide +kernel
theorem d_AR_wayFrom_73 : decode b_AR_wayFrom 73 = .ok (.iaload, 1) := by decide +kernel
theorem d_AR_wayFrom_74 : decode b_AR_wayFrom 74 = .ok (.invokevirtual 269, 3) := by decide +kernel
theorem d_AR_wayFrom_77 : decode b_AR_wayFrom 77 = .ok (.goto 8, 3) := by decide +kernel
theorem d_AR_wayFrom_80 : decode b_AR_wayFrom 80 = .ok (.aload_n 0, 1) := by decide +kernel
theorem d_AR_wayFrom_81 : decode b_AR_wayFrom 81 = .ok (.iload_n 1, 1) := by decide +kernel
theorem d_AR_wayFrom_82 : decode b_AR_wayFrom 82 = .ok (.invokevirtual 272, 3) := by decide +kernel
theorem d_AR_wayFrom_85 : decode b_AR_wayFrom 85 = .ok (.ireturn, 1) := by decide +kernel
theorem d_AR_route_0 : decode b_AR_route 0 = .ok (.iload_n 1, 1) := by decide +kernel
theorem d_AR_route_1 : decode b_AR_route 1 = .ok (.invokestatic 51, 3) := by decide +kernel
theorem d_AR_route_4 : decode b_AR_route 4 = .ok (.ifCond .eq 15, 3) := by decide +kernel
theorem d_AR_route_7 : decode b_AR_route 7 = .ok (.iload_n 2, 1) := by decide +kernel
theorem d_AR_route_8 : decode b_AR_route 8 = .ok (.invokestatic 51, 3) := by decide +kernel
theorem d_AR_route_11 : decode b_AR_route 11 = .ok (.ifCond .eq 8, 3) := by decide +kernel
theorem d_AR_route_14 : decode b_AR_route 14 = .ok (.iload_n 1, 1) := by decide +kernel
theorem d_AR_route_15 : decode b_AR_route 15 = .ok (.iload_n 2, 1) := by decide +kernel
theorem d_AR_route_16 : decode b_AR_route 16 = .ok (.if_icmp .ne 5, 3) := by decide +kernel
theorem d_AR_route_19 : decode b_AR_route 19 = .ok (.iconst (-1), 1) := by decide +kernel
theorem d_AR_route_20 : decode b_AR_route 20 = .ok (.ireturn, 1) := by decide +kernel
theorem d_AR_route_21 : decode b_AR_route 21 = .ok (.aload_n 0, 1) := by decide +kernel
theorem d_AR_route_22 : decode b_AR_route 22 = .ok (.iload_n 1, 1) := by decide +kernel
theorem d_AR_route_23 : decode b_AR_route 23 = .ok (.iload_n 2, 1) := by decide +kernel
theorem d_AR_route_24 : decode b_AR_route 24 = .ok (.invokevirtual 171, 3) := by decide +kernel
theorem d_AR_route_27 : decode b_AR_route 27 = .ok (.ireturn, 1) := by decide +kernel
theorem d_AR_trace_0 : decode b_AR_trace 0 = .ok (.iload_n 1, 1) := by decide +kernel
theorem d_AR_trace_1 : decode b_AR_trace 1 = .ok (.invokestatic 51, 3) := by decide +kernel
theorem d_AR_trace_4 : decode b_AR_trace 4 = .ok (.ifCond .eq 10, 3) := by decide +kernel
theorem d_AR_trace_7 : decode b_AR_trace 7 = .ok (.iload_n 2, 1) := by decide +kernel
theorem d_AR_trace_8 : decode b_AR_trace 8 = .ok (.invokestatic 51, 3) := by decide +kernel
theorem d_AR_trace_11 : decode b_AR_trace 11 = .ok (.ifCond .ne 5, 3) := by decide +kernel
theorem d_AR_trace_14 : decode b_AR_trace 14 = .ok (.iconst (-1), 1) := by decide +kernel
theorem d_AR_trace_15 : decode b_AR_trace 15 = .ok (.ireturn, 1) := by decide +kernel
theorem d_AR_trace_16 : decode b_AR_trace 16 = .ok (.iload_n 1, 1) := by decide +kernel
theorem d_AR_trace_17 : decode b_AR_trace 17 = .ok (.istore_n 3, 1) := by decide +kernel
theorem d_AR_trace_18 : decode b_AR_trace 18 = .ok (.iconst 0, 1) := by decide +kernel
theorem d_AR_trace_19 : decode b_AR_trace 19 = .ok (.istore 4, 2) := by decide +kernel
theorem d_AR_trace_21 : decode b_AR_trace 21 = .ok (.iload 4, 2) := by decide +kernel
theorem d_AR_trace_23 : decode b_AR_trace 23 = .ok (.bipush 10, 2) := by decide +kernel
theorem d_AR_trace_25 : decode b_AR_trace 25 = .ok (.if_icmp .gt 38, 3) := by decide +kernel
theorem d_AR_trace_28 : decode b_AR_trace 28 = .ok (.iload_n 3, 1) := by decide +kernel
theorem d_AR_trace_29 : decode b_AR_trace 29 = .ok (.iload_n 2, 1) := by decide +kernel
theorem d_AR_trace_30 : decode b_AR_trace 30 = .ok (.if_icmp .ne 6, 3) := by decide +kernel
theorem d_AR_trace_33 : decode b_AR_trace 33 = .ok (.iload 4, 2) := by decide +kernel
theorem d_AR_trace_35 : decode b_AR_trace 35 = .ok (.ireturn, 1) := by decide +kernel
theorem d_AR_trace_36 : decode b_AR_trace 36 = .ok (.aload_n 0, 1) := by decide +kernel
theorem d_AR_trace_37 : decode b_AR_trace 37 = .ok (.iload_n 3, 1) := by decide +kernel
theorem d_AR_trace_38 : decode b_AR_trace 38 = .ok (.iload_n 2, 1) := by decide +kernel
theorem d_AR_trace_39 : decode b_AR_trace 39 = .ok (.invokevirtual 171, 3) := by decide +kernel
theorem d_AR_trace_42 : decode b_AR_trace 42 = .ok (.istore 5, 2) := by decide +kernel
theorem d_AR_trace_44 : decode b_AR_trace 44 = .ok (.iload 5, 2) := by decide +kernel
theorem d_AR_trace_46 : decode b_AR_trace 46 = .ok (.ifCond .ge 5, 3) := by decide +kernel
theorem d_AR_trace_49 : decode b_AR_trace 49 = .ok (.iconst (-1), 1) := by decide +kernel
theorem d_AR_trace_50 : decode b_AR_trace 50 = .ok (.ireturn, 1) := by decide +kernel
theorem d_AR_trace_51 : decode b_AR_trace 51 = .ok (.iload 5, 2) := by decide +kernel
theorem d_AR_trace_53 : decode b_AR_trace 53 = .ok (.bipush 8, 2) := by decide +kernel
theorem d_AR_trace_55 : decode b_AR_trace 55 = .ok (.irem, 1) := by decide +kernel
theorem d_AR_trace_56 : decode b_AR_trace 56 = .ok (.istore_n 3, 1) := by decide +kernel
theorem d_AR_trace_57 : decode b_AR_trace 57 = .ok (.iinc 4 1, 3) := by decide +kernel
theorem d_AR_trace_60 : decode b_AR_trace 60 = .ok (.goto (-39), 3) := by decide +kernel
theorem d_AR_trace_63 : decode b_AR_trace 63 = .ok (.iconst (-1), 1) := by decide +kernel
theorem d_AR_trace_64 : decode b_AR_trace 64 = .ok (.ireturn, 1) := by decide +kernel
