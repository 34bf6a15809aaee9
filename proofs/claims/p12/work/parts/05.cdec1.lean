/-! decode rows -/
theorem d_AR_isRouter_0 : decode b_AR_isRouter 0 = .ok (.iload_n 0, 1) := by decide +kernel
theorem d_AR_isRouter_1 : decode b_AR_isRouter 1 = .ok (.ifCond .lt 13, 3) := by decide +kernel
theorem d_AR_isRouter_4 : decode b_AR_isRouter 4 = .ok (.iload_n 0, 1) := by decide +kernel
theorem d_AR_isRouter_5 : decode b_AR_isRouter 5 = .ok (.bipush 6, 2) := by decide +kernel
theorem d_AR_isRouter_7 : decode b_AR_isRouter 7 = .ok (.if_icmp .ge 7, 3) := by decide +kernel
theorem d_AR_isRouter_10 : decode b_AR_isRouter 10 = .ok (.iconst 1, 1) := by decide +kernel
theorem d_AR_isRouter_11 : decode b_AR_isRouter 11 = .ok (.goto 4, 3) := by decide +kernel
theorem d_AR_isRouter_14 : decode b_AR_isRouter 14 = .ok (.iconst 0, 1) := by decide +kernel
theorem d_AR_isRouter_15 : decode b_AR_isRouter 15 = .ok (.ireturn, 1) := by decide +kernel
theorem d_Wi_isAttached_0 : decode b_Wi_isAttached 0 = .ok (.aload_n 0, 1) := by decide +kernel
theorem d_Wi_isAttached_1 : decode b_Wi_isAttached 1 = .ok (.getfield 9, 3) := by decide +kernel
theorem d_Wi_isAttached_4 : decode b_Wi_isAttached 4 = .ok (.iload_n 1, 1) := by decide +kernel
theorem d_Wi_isAttached_5 : decode b_Wi_isAttached 5 = .ok (.bipush 6, 2) := by decide +kernel
theorem d_Wi_isAttached_7 : decode b_Wi_isAttached 7 = .ok (.imul, 1) := by decide +kernel
theorem d_Wi_isAttached_8 : decode b_Wi_isAttached 8 = .ok (.iload_n 2, 1) := by decide +kernel
theorem d_Wi_isAttached_9 : decode b_Wi_isAttached 9 = .ok (.iadd, 1) := by decide +kernel
theorem d_Wi_isAttached_10 : decode b_Wi_isAttached 10 = .ok (.iaload, 1) := by decide +kernel
theorem d_Wi_isAttached_11 : decode b_Wi_isAttached 11 = .ok (.ifCond .le 7, 3) := by decide +kernel
theorem d_Wi_isAttached_14 : decode b_Wi_isAttached 14 = .ok (.iconst 1, 1) := by decide +kernel
theorem d_Wi_isAttached_15 : decode b_Wi_isAttached 15 = .ok (.goto 4, 3) := by decide +kernel
theorem d_Wi_isAttached_18 : decode b_Wi_isAttached 18 = .ok (.iconst 0, 1) := by decide +kernel
theorem d_Wi_isAttached_19 : decode b_Wi_isAttached 19 = .ok (.ireturn, 1) := by decide +kernel
theorem d_Wi_circuitsOf_0 : decode b_Wi_circuitsOf 0 = .ok (.iconst 0, 1) := by decide +kernel
theorem d_Wi_circuitsOf_1 : decode b_Wi_circuitsOf 1 = .ok (.istore_n 2, 1) := by decide +kernel
theorem d_Wi_circuitsOf_2 : decode b_Wi_circuitsOf 2 = .ok (.iconst 0, 1) := by decide +kernel
theorem d_Wi_circuitsOf_3 : decode b_Wi_circuitsOf 3 = .ok (.istore_n 3, 1) := by decide +kernel
theorem d_Wi_circuitsOf_4 : decode b_Wi_circuitsOf 4 = .ok (.iload_n 3, 1) := by decide +kernel
theorem d_Wi_circuitsOf_5 : decode b_Wi_circuitsOf 5 = .ok (.bipush 6, 2) := by decide +kernel
theorem d_Wi_circuitsOf_7 : decode b_Wi_circuitsOf 7 = .ok (.if_icmp .ge 24, 3) := by decide +kernel
theorem d_Wi_circuitsOf_10 : decode b_Wi_circuitsOf 10 = .ok (.aload_n 0, 1) := by decide +kernel
theorem d_Wi_circuitsOf_11 : decode b_Wi_circuitsOf 11 = .ok (.iload_n 1, 1) := by decide +kernel
theorem d_Wi_circuitsOf_12 : decode b_Wi_circuitsOf 12 = .ok (.iload_n 3, 1) := by decide +kernel
theorem d_Wi_circuitsOf_13 : decode b_Wi_circuitsOf 13 = .ok (.invokevirtual 18, 3) := by decide +kernel
theorem d_Wi_circuitsOf_16 : decode b_Wi_circuitsOf 16 = .ok (.ifCond .eq 9, 3) := by decide +kernel
theorem d_Wi_circuitsOf_19 : decode b_Wi_circuitsOf 19 = .ok (.iload_n 2, 1) := by decide +kernel
theorem d_Wi_circuitsOf_20 : decode b_Wi_circuitsOf 20 = .ok (.iconst 1, 1) := by decide +kernel
theorem d_Wi_circuitsOf_21 : decode b_Wi_circuitsOf 21 = .ok (.iload_n 3, 1) := by decide +kernel
theorem d_Wi_circuitsOf_22 : decode b_Wi_circuitsOf 22 = .ok (.ishl, 1) := by decide +kernel
theorem d_Wi_circuitsOf_23 : decode b_Wi_circuitsOf 23 = .ok (.ior, 1) := by decide +kernel
theorem d_Wi_circuitsOf_24 : decode b_Wi_circuitsOf 24 = .ok (.istore_n 2, 1) := by decide +kernel
theorem d_Wi_circuitsOf_25 : decode b_Wi_circuitsOf 25 = .ok (.iinc 3 1, 3) := by decide +kernel
theorem d_Wi_circuitsOf_28 : decode b_Wi_circuitsOf 28 = .ok (.goto (-24), 3) := by decide +kernel
theorem d_Wi_circuitsOf_31 : decode b_Wi_circuitsOf 31 = .ok (.iload_n 2, 1) := by decide +kernel
theorem d_Wi_circuitsOf_32 : decode b_Wi_circuitsOf 32 = .ok (.ireturn, 1) := by decide +kernel
theorem d_AR_place_0 : decode b_AR_place 0 = .ok (.iload_n 1, 1) := by decide +kernel
theorem d_AR_place_1 : decode b_AR_place 1 = .ok (.invokestatic 51, 3) := by decide +kernel
theorem d_AR_place_4 : decode b_AR_place 4 = .ok (.ifCond .eq 22, 3) := by decide +kernel
theorem d_AR_place_7 : decode b_AR_place 7 = .ok (.iload_n 2, 1) := by decide +kernel
theorem d_AR_place_8 : decode b_AR_place 8 = .ok (.ifCond .lt 18, 3) := by decide +kernel
theorem d_AR_place_11 : decode b_AR_place 11 = .ok (.iload_n 2, 1) := by decide +kernel
theorem d_AR_place_12 : decode b_AR_place 12 = .ok (.iconst 3, 1) := by decide +kernel
theorem d_AR_place_13 : decode b_AR_place 13 = .ok (.if_icmp .ge 13, 3) := by decide +kernel
theorem d_AR_place_16 : decode b_AR_place 16 = .ok (.iload_n 3, 1) := by decide +kernel
theorem d_AR_place_17 : decode b_AR_place 17 = .ok (.iconst 1, 1) := by decide +kernel
theorem d_AR_place_18 : decode b_AR_place 18 = .ok (.if_icmp .lt 8, 3) := by decide +kernel
theorem d_AR_place_21 : decode b_AR_place 21 = .ok (.iload_n 3, 1) := by decide +kernel
theorem d_AR_place_22 : decode b_AR_place 22 = .ok (.iconst 3, 1) := by decide +kernel
theorem d_AR_place_23 : decode b_AR_place 23 = .ok (.if_icmp .le 5, 3) := by decide +kernel
theorem d_AR_place_26 : decode b_AR_place 26 = .ok (.iconst 0, 1) := by decide +kernel
theorem d_AR_place_27 : decode b_AR_place 27 = .ok (.ireturn, 1) := by decide +kernel
theorem d_AR_place_28 : decode b_AR_place 28 = .ok (.aload_n 0, 1) := by decide +kernel
theorem d_AR_place_29 : decode b_AR_place 29 = .ok (.getfield 19, 3) := by decide +kernel
theorem d_AR_place_32 : decode b_AR_place 32 = .ok (.iload_n 1, 1) := by decide +kernel
theorem d_AR_place_33 : decode b_AR_place 33 = .ok (.invokevirtual 55, 3) := by decide +kernel
theorem d_AR_place_36 : decode b_AR_place 36 = .ok (.ifCond .eq 5, 3) := by decide +kernel
theorem d_AR_place_39 : decode b_AR_place 39 = .ok (.iconst 0, 1) := by decide +kernel
theorem d_AR_place_40 : decode b_AR_place 40 = .ok (.ireturn, 1) := by decide +kernel
theorem d_AR_place_41 : decode b_AR_place 41 = .ok (.aload_n 0, 1) := by decide +kernel
theorem d_AR_place_42 : decode b_AR_place 42 = .ok (.getfield 9, 3) := by decide +kernel
theorem d_AR_place_45 : decode b_AR_place 45 = .ok (.iload_n 1, 1) := by decide +kernel
theorem d_AR_place_46 : decode b_AR_place 46 = .ok (.iload_n 2, 1) := by decide +kernel
theorem d_AR_place_47 : decode b_AR_place 47 = .ok (.iastore, 1) := by decide +kernel
theorem d_AR_place_48 : decode b_AR_place 48 = .ok (.aload_n 0, 1) := by decide +kernel
theorem d_AR_place_49 : decode b_AR_place 49 = .ok (.getfield 13, 3) := by decide +kernel
theorem d_AR_place_52 : decode b_AR_place 52 = .ok (.iload_n 1, 1) := by decide +kernel
theorem d_AR_place_53 : decode b_AR_place 53 = .ok (.iload_n 3, 1) := by decide +kernel
theorem d_AR_place_54 : decode b_AR_place 54 = .ok (.iastore, 1) := by decide +kernel
theorem d_AR_place_55 : decode b_AR_place 55 = .ok (.iconst 1, 1) := by decide +kernel
theorem d_AR_place_56 : decode b_AR_place 56 = .ok (.ireturn, 1) := by decide +kernel
theorem d_AR_isCircuit_0 : decode b_AR_isCircuit 0 = .ok (.iload_n 0, 1) := by decide +kernel
theorem d_AR_isCircuit_1 : decode b_AR_isCircuit 1 = .ok (.ifCond .lt 13, 3) := by decide +kernel
theorem d_AR_isCircuit_4 : decode b_AR_isCircuit 4 = .ok (.iload_n 0, 1) := by decide +kernel
theorem d_AR_isCircuit_5 : decode b_AR_isCircuit 5 = .ok (.bipush 6, 2) := by decide +kernel
theorem d_AR_isCircuit_7 : decode b_AR_isCircuit 7 = .ok (.if_icmp .ge 7, 3) := by decide +kernel
theorem d_AR_isCircuit_10 : decode b_AR_isCircuit 10 = .ok (.iconst 1, 1) := by decide +kernel
theorem d_AR_isCircuit_11 : decode b_AR_isCircuit 11 = .ok (.goto 4, 3) := by decide +kernel
theorem d_AR_isCircuit_14 : decode b_AR_isCircuit 14 = .ok (.iconst 0, 1) := by decide +kernel
theorem d_AR_isCircuit_15 : decode b_AR_isCircuit 15 = .ok (.ireturn, 1) := by decide +kernel
theorem d_Wi_countOn_0 : decode b_Wi_countOn 0 = .ok (.iconst 0, 1) := by decide +kernel
theorem d_Wi_countOn_1 : decode b_Wi_countOn 1 = .ok (.istore_n 2, 1) := by decide +kernel
theorem d_Wi_countOn_2 : decode b_Wi_countOn 2 = .ok (.iconst 0, 1) := by decide +kernel
theorem d_Wi_countOn_3 : decode b_Wi_countOn 3 = .ok (.istore_n 3, 1) := by decide +kernel
theorem d_Wi_countOn_4 : decode b_Wi_countOn 4 = .ok (.iload_n 3, 1) := by decide +kernel
theorem d_Wi_countOn_5 : decode b_Wi_countOn 5 = .ok (.bipush 6, 2) := by decide +kernel
theorem d_Wi_countOn_7 : decode b_Wi_countOn 7 = .ok (.if_icmp .ge 21, 3) := by decide +kernel
theorem d_Wi_countOn_10 : decode b_Wi_countOn 10 = .ok (.aload_n 0, 1) := by decide +kernel
theorem d_Wi_countOn_11 : decode b_Wi_countOn 11 = .ok (.iload_n 3, 1) := by decide +kernel
theorem d_Wi_countOn_12 : decode b_Wi_countOn 12 = .ok (.iload_n 1, 1) := by decide +kernel
theorem d_Wi_countOn_13 : decode b_Wi_countOn 13 = .ok (.invokevirtual 18, 3) := by decide +kernel
theorem d_Wi_countOn_16 : decode b_Wi_countOn 16 = .ok (.ifCond .eq 6, 3) := by decide +kernel
theorem d_Wi_countOn_19 : decode b_Wi_countOn 19 = .ok (.iinc 2 1, 3) := by decide +kernel
theorem d_Wi_countOn_22 : decode b_Wi_countOn 22 = .ok (.iinc 3 1, 3) := by decide +kernel
theorem d_Wi_countOn_25 : decode b_Wi_countOn 25 = .ok (.goto (-21), 3) := by decide +kernel
theorem d_Wi_countOn_28 : decode b_Wi_countOn 28 = .ok (.iload_n 2, 1) := by decide +kernel
theorem d_Wi_countOn_29 : decode b_Wi_countOn 29 = .ok (.ireturn, 1) := by decide +kernel
theorem d_Wi_join_0 : decode b_Wi_join 0 = .ok (.aload_n 0, 1) := by decide +kernel
theorem d_Wi_join_1 : decode b_Wi_join 1 = .ok (.getfield 9, 3) := by decide +kernel
theorem d_Wi_join_4 : decode b_Wi_join 4 = .ok (.iload_n 1, 1) := by decide +kernel
theorem d_Wi_join_5 : decode b_Wi_join 5 = .ok (.bipush 6, 2) := by decide +kernel
theorem d_Wi_join_7 : decode b_Wi_join 7 = .ok (.imul, 1) := by decide +kernel
theorem d_Wi_join_8 : decode b_Wi_join 8 = .ok (.iload_n 2, 1) := by decide +kernel
theorem d_Wi_join_9 : decode b_Wi_join 9 = .ok (.iadd, 1) := by decide +kernel
theorem d_Wi_join_10 : decode b_Wi_join 10 = .ok (.iload_n 3, 1) := by decide +kernel
theorem d_Wi_join_11 : decode b_Wi_join 11 = .ok (.iastore, 1) := by decide +kernel
theorem d_Wi_join_12 : decode b_Wi_join 12 = .ok (.aload_n 0, 1) := by decide +kernel
theorem d_Wi_join_13 : decode b_Wi_join 13 = .ok (.getfield 15, 3) := by decide +kernel
theorem d_Wi_join_16 : decode b_Wi_join 16 = .ok (.iload_n 1, 1) := by decide +kernel
theorem d_Wi_join_17 : decode b_Wi_join 17 = .ok (.bipush 6, 2) := by decide +kernel
theorem d_Wi_join_19 : decode b_Wi_join 19 = .ok (.imul, 1) := by decide +kernel
theorem d_Wi_join_20 : decode b_Wi_join 20 = .ok (.iload_n 2, 1) := by decide +kernel
theorem d_Wi_join_21 : decode b_Wi_join 21 = .ok (.iadd, 1) := by decide +kernel
theorem d_Wi_join_22 : decode b_Wi_join 22 = .ok (.iload 4, 2) := by decide +kernel
theorem d_Wi_join_24 : decode b_Wi_join 24 = .ok (.iastore, 1) := by decide +kernel
theorem d_Wi_join_25 : decode b_Wi_join 25 = .ok (.return_, 1) := by decide +kernel
theorem d_AR_attach_0 : decode b_AR_attach 0 = .ok (.iload_n 1, 1) := by decide +kernel
theorem d_AR_attach_1 : decode b_AR_attach 1 = .ok (.invokestatic 51, 3) := by decide +kernel
theorem d_AR_attach_4 : decode b_AR_attach 4 = .ok (.ifCond .eq 10, 3) := by decide +kernel
theorem d_AR_attach_7 : decode b_AR_attach 7 = .ok (.iload_n 2, 1) := by decide +kernel
theorem d_AR_attach_8 : decode b_AR_attach 8 = .ok (.invokestatic 59, 3) := by decide +kernel
theorem d_AR_attach_11 : decode b_AR_attach 11 = .ok (.ifCond .ne 5, 3) := by decide +kernel
theorem d_AR_attach_14 : decode b_AR_attach 14 = .ok (.iconst 0, 1) := by decide +kernel
theorem d_AR_attach_15 : decode b_AR_attach 15 = .ok (.ireturn, 1) := by decide +kernel
theorem d_AR_attach_16 : decode b_AR_attach 16 = .ok (.iload_n 3, 1) := by decide +kernel
theorem d_AR_attach_17 : decode b_AR_attach 17 = .ok (.iconst 1, 1) := by decide +kernel
theorem d_AR_attach_18 : decode b_AR_attach 18 = .ok (.if_icmp .lt 21, 3) := by decide +kernel
theorem d_AR_attach_21 : decode b_AR_attach 21 = .ok (.iload_n 3, 1) := by decide +kernel
theorem d_AR_attach_22 : decode b_AR_attach 22 = .ok (.bipush 60, 2) := by decide +kernel
theorem d_AR_attach_24 : decode b_AR_attach 24 = .ok (.if_icmp .gt 15, 3) := by decide +kernel
theorem d_AR_attach_27 : decode b_AR_attach 27 = .ok (.iload 4, 2) := by decide +kernel
theorem d_AR_attach_29 : decode b_AR_attach 29 = .ok (.ifCond .lt 10, 3) := by decide +kernel
theorem d_AR_attach_32 : decode b_AR_attach 32 = .ok (.iload 4, 2) := by decide +kernel
theorem d_AR_attach_34 : decode b_AR_attach 34 = .ok (.bipush 100, 2) := by decide +kernel
theorem d_AR_attach_36 : decode b_AR_attach 36 = .ok (.if_icmp .le 5, 3) := by decide +kernel
theorem d_AR_attach_39 : decode b_AR_attach 39 = .ok (.iconst 0, 1) := by decide +kernel
theorem d_AR_attach_40 : decode b_AR_attach 40 = .ok (.ireturn, 1) := by decide +kernel
theorem d_AR_attach_41 : decode b_AR_attach 41 = .ok (.aload_n 0, 1) := by decide +kernel
theorem d_AR_attach_42 : decode b_AR_attach 42 = .ok (.getfield 19, 3) := by decide +kernel
theorem d_AR_attach_45 : decode b_AR_attach 45 = .ok (.iload_n 1, 1) := by decide +kernel
theorem d_AR_attach_46 : decode b_AR_attach 46 = .ok (.iload_n 2, 1) := by decide +kernel
theorem d_AR_attach_47 : decode b_AR_attach 47 = .ok (.invokevirtual 62, 3) := by decide +kernel
theorem d_AR_attach_50 : decode b_AR_attach 50 = .ok (.ifCond .ne 17, 3) := by decide +kernel
theorem d_AR_attach_53 : decode b_AR_attach 53 = .ok (.aload_n 0, 1) := by decide +kernel
theorem d_AR_attach_54 : decode b_AR_attach 54 = .ok (.getfield 19, 3) := by decide +kernel
theorem d_AR_attach_57 : decode b_AR_attach 57 = .ok (.iload_n 2, 1) := by decide +kernel
theorem d_AR_attach_58 : decode b_AR_attach 58 = .ok (.invokevirtual 66, 3) := by decide +kernel
theorem d_AR_attach_61 : decode b_AR_attach 61 = .ok (.iconst 4, 1) := by decide +kernel
theorem d_AR_attach_62 : decode b_AR_attach 62 = .ok (.if_icmp .lt 5, 3) := by decide +kernel
theorem d_AR_attach_65 : decode b_AR_attach 65 = .ok (.iconst 0, 1) := by decide +kernel
theorem d_AR_attach_66 : decode b_AR_attach 66 = .ok (.ireturn, 1) := by decide +kernel
theorem d_AR_attach_67 : decode b_AR_attach 67 = .ok (.aload_n 0, 1) := by decide +kernel
theorem d_AR_attach_68 : decode b_AR_attach 68 = .ok (.getfield 19, 3) := by decide +kernel
theorem d_AR_attach_71 : decode b_AR_attach 71 = .ok (.iload_n 1, 1) := by decide +kernel
theorem d_AR_attach_72 : decode b_AR_attach 72 = .ok (.iload_n 2, 1) := by decide +kernel
theorem d_AR_attach_73 : decode b_AR_attach 73 = .ok (.iload_n 3, 1) := by decide +kernel
theorem d_AR_attach_74 : decode b_AR_attach 74 = .ok (.iload 4, 2) := by decide +kernel
theorem d_AR_attach_76 : decode b_AR_attach 76 = .ok (.invokevirtual 69, 3) := by decide +kernel
theorem d_AR_attach_79 : decode b_AR_attach 79 = .ok (.iconst 1, 1) := by decide +kernel
theorem d_AR_attach_80 : decode b_AR_attach 80 = .ok (.ireturn, 1) := by decide +kernel
theorem d_AR_checkSender_0 : decode b_AR_checkSender 0 = .ok (.iload_n 1, 1) := by decide +kernel
theorem d_AR_checkSender_1 : decode b_AR_checkSender 1 = .ok (.invokestatic 51, 3) := by decide +kernel
theorem d_AR_checkSender_4 : decode b_AR_checkSender 4 = .ok (.ifCond .eq 10, 3) := by decide +kernel
theorem d_AR_checkSender_7 : decode b_AR_checkSender 7 = .ok (.iload_n 2, 1) := by decide +kernel
theorem d_AR_checkSender_8 : decode b_AR_checkSender 8 = .ok (.invokestatic 59, 3) := by decide +kernel
theorem d_AR_checkSender_11 : decode b_AR_checkSender 11 = .ok (.ifCond .ne 13, 3) := by decide +kernel
theorem d_AR_checkSender_24 : decode b_AR_checkSender 24 = .ok (.aload_n 0, 1) := by decide +kernel
theorem d_AR_checkSender_25 : decode b_AR_checkSender 25 = .ok (.getfield 19, 3) := by decide +kernel
theorem d_AR_checkSender_28 : decode b_AR_checkSender 28 = .ok (.iload_n 1, 1) := by decide +kernel
theorem d_AR_checkSender_29 : decode b_AR_checkSender 29 = .ok (.iload_n 2, 1) := by decide +kernel
theorem d_AR_checkSender_30 : decode b_AR_checkSender 30 = .ok (.invokevirtual 62, 3) := by decide +kernel
theorem d_AR_checkSender_33 : decode b_AR_checkSender 33 = .ok (.ifCond .ne 13, 3) := by decide +kernel
theorem d_AR_checkSender_46 : decode b_AR_checkSender 46 = .ok (.return_, 1) := by decide +kernel
theorem d_AR_isMeant_0 : decode b_AR_isMeant 0 = .ok (.iload_n 1, 1) := by decide +kernel
theorem d_AR_isMeant_1 : decode b_AR_isMeant 1 = .ok (.iload_n 0, 1) := by decide +kernel
theorem d_AR_isMeant_2 : decode b_AR_isMeant 2 = .ok (.ishr, 1) := by decide +kernel
theorem d_AR_isMeant_3 : decode b_AR_isMeant 3 = .ok (.iconst 1, 1) := by decide +kernel
theorem d_AR_isMeant_4 : decode b_AR_isMeant 4 = .ok (.iand, 1) := by decide +kernel
theorem d_AR_isMeant_5 : decode b_AR_isMeant 5 = .ok (.ifCond .eq 7, 3) := by decide +kernel
theorem d_AR_isMeant_8 : decode b_AR_isMeant 8 = .ok (.iconst 1, 1) := by decide +kernel
theorem d_AR_isMeant_9 : decode b_AR_isMeant 9 = .ok (.goto 4, 3) := by decide +kernel
theorem d_AR_isMeant_12 : decode b_AR_isMeant 12 = .ok (.iconst 0, 1) := by decide +kernel
theorem d_AR_isMeant_13 : decode b_AR_isMeant 13 = .ok (.ireturn, 1) := by decide +kernel
theorem d_AR_isLevel_0 : decode b_AR_isLevel 0 = .ok (.iload_n 0, 1) := by decide +kernel
theorem d_AR_isLevel_1 : decode b_AR_isLevel 1 = .ok (.iconst 1, 1) := by decide +kernel
theorem d_AR_isLevel_2 : decode b_AR_isLevel 2 = .ok (.if_icmp .lt 12, 3) := by decide +kernel
theorem d_AR_isLevel_5 : decode b_AR_isLevel 5 = .ok (.iload_n 0, 1) := by decide +kernel
theorem d_AR_isLevel_6 : decode b_AR_isLevel 6 = .ok (.iconst 2, 1) := by decide +kernel
theorem d_AR_isLevel_7 : decode b_AR_isLevel 7 = .ok (.if_icmp .gt 7, 3) := by decide +kernel
theorem d_AR_isLevel_10 : decode b_AR_isLevel 10 = .ok (.iconst 1, 1) := by decide +kernel
theorem d_AR_isLevel_11 : decode b_AR_isLevel 11 = .ok (.goto 4, 3) := by decide +kernel
theorem d_AR_isLevel_14 : decode b_AR_isLevel 14 = .ok (.iconst 0, 1) := by decide +kernel
theorem d_AR_isLevel_15 : decode b_AR_isLevel 15 = .ok (.ireturn, 1) := by decide +kernel
theorem d_AR_hasLevel_0 : decode b_AR_hasLevel 0 = .ok (.iload_n 2, 1) := by decide +kernel
theorem d_AR_hasLevel_1 : decode b_AR_hasLevel 1 = .ok (.invokestatic 147, 3) := by decide +kernel
theorem d_AR_hasLevel_4 : decode b_AR_hasLevel 4 = .ok (.ifCond .eq 18, 3) := by decide +kernel
theorem d_AR_hasLevel_7 : decode b_AR_hasLevel 7 = .ok (.aload_n 0, 1) := by decide +kernel
theorem d_AR_hasLevel_8 : decode b_AR_hasLevel 8 = .ok (.getfield 13, 3) := by decide +kernel
theorem d_AR_hasLevel_11 : decode b_AR_hasLevel 11 = .ok (.iload_n 1, 1) := by decide +kernel
theorem d_AR_hasLevel_12 : decode b_AR_hasLevel 12 = .ok (.iaload, 1) := by decide +kernel
theorem d_AR_hasLevel_13 : decode b_AR_hasLevel 13 = .ok (.iload_n 2, 1) := by decide +kernel
theorem d_AR_hasLevel_14 : decode b_AR_hasLevel 14 = .ok (.iand, 1) := by decide +kernel
theorem d_AR_hasLevel_15 : decode b_AR_hasLevel 15 = .ok (.ifCond .eq 7, 3) := by decide +kernel
theorem d_AR_hasLevel_18 : decode b_AR_hasLevel 18 = .ok (.iconst 1, 1) := by decide +kernel
theorem d_AR_hasLevel_19 : decode b_AR_hasLevel 19 = .ok (.goto 4, 3) := by decide +kernel
theorem d_AR_hasLevel_22 : decode b_AR_hasLevel 22 = .ok (.iconst 0, 1) := by decide +kernel
theorem d_AR_hasLevel_23 : decode b_AR_hasLevel 23 = .ok (.ireturn, 1) := by decide +kernel
theorem d_AR_hearingAt_0 : decode b_AR_hearingAt 0 = .ok (.aload_n 0, 1) := by decide +kernel
theorem d_AR_hearingAt_1 : decode b_AR_hearingAt 1 = .ok (.getfield 25, 3) := by decide +kernel
theorem d_AR_hearingAt_4 : decode b_AR_hearingAt 4 = .ok (.iload_n 1, 1) := by decide +kernel
theorem d_AR_hearingAt_5 : decode b_AR_hearingAt 5 = .ok (.iconst 1, 1) := by decide +kernel
theorem d_AR_hearingAt_6 : decode b_AR_hearingAt 6 = .ok (.isub, 1) := by decide +kernel
theorem d_AR_hearingAt_7 : decode b_AR_hearingAt 7 = .ok (.aaload, 1) := by decide +kernel
theorem d_AR_hearingAt_8 : decode b_AR_hearingAt 8 = .ok (.areturn, 1) := by decide +kernel
theorem d_He_isHeard_0 : decode b_He_isHeard 0 = .ok (.aload_n 0, 1) := by decide +kernel
theorem d_He_isHeard_1 : decode b_He_isHeard 1 = .ok (.getfield 11, 3) := by decide +kernel
theorem d_He_isHeard_4 : decode b_He_isHeard 4 = .ok (.iload_n 1, 1) := by decide +kernel
theorem d_He_isHeard_5 : decode b_He_isHeard 5 = .ok (.bipush 6, 2) := by decide +kernel
theorem d_He_isHeard_7 : decode b_He_isHeard 7 = .ok (.imul, 1) := by decide +kernel
theorem d_He_isHeard_8 : decode b_He_isHeard 8 = .ok (.iload_n 2, 1) := by decide +kernel
theorem d_He_isHeard_9 : decode b_He_isHeard 9 = .ok (.iadd, 1) := by decide +kernel
theorem d_He_isHeard_10 : decode b_He_isHeard 10 = .ok (.bipush 6, 2) := by decide +kernel
theorem d_He_isHeard_12 : decode b_He_isHeard 12 = .ok (.imul, 1) := by decide +kernel
theorem d_He_isHeard_13 : decode b_He_isHeard 13 = .ok (.iload_n 3, 1) := by decide +kernel
theorem d_He_isHeard_14 : decode b_He_isHeard 14 = .ok (.iadd, 1) := by decide +kernel
theorem d_He_isHeard_15 : decode b_He_isHeard 15 = .ok (.iaload, 1) := by decide +kernel
theorem d_He_isHeard_16 : decode b_He_isHeard 16 = .ok (.ifCond .le 7, 3) := by decide +kernel
theorem d_He_isHeard_19 : decode b_He_isHeard 19 = .ok (.iconst 1, 1) := by decide +kernel
theorem d_He_isHeard_20 : decode b_He_isHeard 20 = .ok (.goto 4, 3) := by decide +kernel
theorem d_He_isHeard_23 : decode b_He_isHeard 23 = .ok (.iconst 0, 1) := by decide +kernel
theorem d_He_isHeard_24 : decode b_He_isHeard 24 = .ok (.ireturn, 1) := by decide +kernel
theorem d_He_note_0 : decode b_He_note 0 = .ok (.iload_n 1, 1) := by decide +kernel
theorem d_He_note_1 : decode b_He_note 1 = .ok (.bipush 6, 2) := by decide +kernel
theorem d_He_note_3 : decode b_He_note 3 = .ok (.imul, 1) := by decide +kernel
theorem d_He_note_4 : decode b_He_note 4 = .ok (.iload_n 2, 1) := by decide +kernel
theorem d_He_note_5 : decode b_He_note 5 = .ok (.iadd, 1) := by decide +kernel
theorem d_He_note_6 : decode b_He_note 6 = .ok (.bipush 6, 2) := by decide +kernel
theorem d_He_note_8 : decode b_He_note 8 = .ok (.imul, 1) := by decide +kernel
theorem d_He_note_9 : decode b_He_note 9 = .ok (.iload_n 3, 1) := by decide +kernel
theorem d_He_note_10 : decode b_He_note 10 = .ok (.iadd, 1) := by decide +kernel
theorem d_He_note_11 : decode b_He_note 11 = .ok (.istore 5, 2) := by decide +kernel
theorem d_He_note_13 : decode b_He_note 13 = .ok (.aload_n 0, 1) := by decide +kernel
theorem d_He_note_14 : decode b_He_note 14 = .ok (.getfield 11, 3) := by decide +kernel
theorem d_He_note_17 : decode b_He_note 17 = .ok (.iload 5, 2) := by decide +kernel
theorem d_He_note_19 : decode b_He_note 19 = .ok (.iconst 4, 1) := by decide +kernel
theorem d_He_note_20 : decode b_He_note 20 = .ok (.iastore, 1) := by decide +kernel
theorem d_He_note_21 : decode b_He_note 21 = .ok (.aload_n 0, 1) := by decide +kernel
theorem d_He_note_22 : decode b_He_note 22 = .ok (.getfield 15, 3) := by decide +kernel
theorem d_He_note_25 : decode b_He_note 25 = .ok (.iload 5, 2) := by decide +kernel
theorem d_He_note_27 : decode b_He_note 27 = .ok (.iload 4, 2) := by decide +kernel
theorem d_He_note_29 : decode b_He_note 29 = .ok (.bastore, 1) := by decide +kernel
theorem d_He_note_30 : decode b_He_note 30 = .ok (.return_, 1) := by decide +kernel
theorem d_AR_noteHello_0 : decode b_AR_noteHello 0 = .ok (.iconst 1, 1) := by decide +kernel
theorem d_AR_noteHello_1 : decode b_AR_noteHello 1 = .ok (.istore 4, 2) := by decide +kernel
theorem d_AR_noteHello_3 : decode b_AR_noteHello 3 = .ok (.iload 4, 2) := by decide +kernel
theorem d_AR_noteHello_5 : decode b_AR_noteHello 5 = .ok (.iconst 2, 1) := by decide +kernel
theorem d_AR_noteHello_6 : decode b_AR_noteHello 6 = .ok (.if_icmp .gt 86, 3) := by decide +kernel
theorem d_AR_noteHello_9 : decode b_AR_noteHello 9 = .ok (.aload_n 0, 1) := by decide +kernel
theorem d_AR_noteHello_10 : decode b_AR_noteHello 10 = .ok (.iload_n 1, 1) := by decide +kernel
theorem d_AR_noteHello_11 : decode b_AR_noteHello 11 = .ok (.iload 4, 2) := by decide +kernel
theorem d_AR_noteHello_13 : decode b_AR_noteHello 13 = .ok (.invokevirtual 134, 3) := by decide +kernel
theorem d_AR_noteHello_16 : decode b_AR_noteHello 16 = .ok (.ifCond .eq 17, 3) := by decide +kernel
theorem d_AR_noteHello_19 : decode b_AR_noteHello 19 = .ok (.aload_n 0, 1) := by decide +kernel
theorem d_AR_noteHello_20 : decode b_AR_noteHello 20 = .ok (.iload_n 3, 1) := by decide +kernel
theorem d_AR_noteHello_21 : decode b_AR_noteHello 21 = .ok (.iload 4, 2) := by decide +kernel
theorem d_AR_noteHello_23 : decode b_AR_noteHello 23 = .ok (.invokevirtual 134, 3) := by decide +kernel
theorem d_AR_noteHello_26 : decode b_AR_noteHello 26 = .ok (.ifCond .eq 7, 3) := by decide +kernel
theorem d_AR_noteHello_29 : decode b_AR_noteHello 29 = .ok (.iconst 1, 1) := by decide +kernel
theorem d_AR_noteHello_30 : decode b_AR_noteHello 30 = .ok (.goto 4, 3) := by decide +kernel
theorem d_AR_noteHello_33 : decode b_AR_noteHello 33 = .ok (.iconst 0, 1) := by decide +kernel
theorem d_AR_noteHello_34 : decode b_AR_noteHello 34 = .ok (.istore 5, 2) := by decide +kernel
theorem d_AR_noteHello_36 : decode b_AR_noteHello 36 = .ok (.iload 5, 2) := by decide +kernel
theorem d_AR_noteHello_38 : decode b_AR_noteHello 38 = .ok (.ifCond .eq 48, 3) := by decide +kernel
theorem d_AR_noteHello_41 : decode b_AR_noteHello 41 = .ok (.iload 4, 2) := by decide +kernel
theorem d_AR_noteHello_43 : decode b_AR_noteHello 43 = .ok (.iconst 2, 1) := by decide +kernel
theorem d_AR_noteHello_44 : decode b_AR_noteHello 44 = .ok (.if_icmp .eq 18, 3) := by decide +kernel
theorem d_AR_noteHello_47 : decode b_AR_noteHello 47 = .ok (.aload_n 0, 1) := by decide +kernel
theorem d_AR_noteHello_48 : decode b_AR_noteHello 48 = .ok (.getfield 9, 3) := by decide +kernel
theorem d_AR_noteHello_51 : decode b_AR_noteHello 51 = .ok (.iload_n 1, 1) := by decide +kernel
theorem d_AR_noteHello_52 : decode b_AR_noteHello 52 = .ok (.iaload, 1) := by decide +kernel
theorem d_AR_noteHello_53 : decode b_AR_noteHello 53 = .ok (.aload_n 0, 1) := by decide +kernel
theorem d_AR_noteHello_54 : decode b_AR_noteHello 54 = .ok (.getfield 9, 3) := by decide +kernel
theorem d_AR_noteHello_57 : decode b_AR_noteHello 57 = .ok (.iload_n 3, 1) := by decide +kernel
theorem d_AR_noteHello_58 : decode b_AR_noteHello 58 = .ok (.iaload, 1) := by decide +kernel
theorem d_AR_noteHello_59 : decode b_AR_noteHello 59 = .ok (.if_icmp .ne 27, 3) := by decide +kernel
theorem d_AR_noteHello_62 : decode b_AR_noteHello 62 = .ok (.aload_n 0, 1) := by decide +kernel
theorem d_AR_noteHello_63 : decode b_AR_noteHello 63 = .ok (.iload 4, 2) := by decide +kernel
theorem d_AR_noteHello_65 : decode b_AR_noteHello 65 = .ok (.invokevirtual 150, 3) := by decide +kernel
theorem d_AR_noteHello_68 : decode b_AR_noteHello 68 = .ok (.astore 6, 2) := by decide +kernel
theorem d_AR_noteHello_70 : decode b_AR_noteHello 70 = .ok (.aload 6, 2) := by decide +kernel
theorem d_AR_noteHello_72 : decode b_AR_noteHello 72 = .ok (.iload_n 1, 1) := by decide +kernel
theorem d_AR_noteHello_73 : decode b_AR_noteHello 73 = .ok (.iload_n 2, 1) := by decide +kernel
theorem d_AR_noteHello_74 : decode b_AR_noteHello 74 = .ok (.iload_n 3, 1) := by decide +kernel
theorem d_AR_noteHello_75 : decode b_AR_noteHello 75 = .ok (.aload 6, 2) := by decide +kernel
theorem d_AR_noteHello_77 : decode b_AR_noteHello 77 = .ok (.iload_n 3, 1) := by decide +kernel
theorem d_AR_noteHello_78 : decode b_AR_noteHello 78 = .ok (.iload_n 2, 1) := by decide +kernel
theorem d_AR_noteHello_79 : decode b_AR_noteHello 79 = .ok (.iload_n 1, 1) := by decide +kernel
theorem d_AR_noteHello_80 : decode b_AR_noteHello 80 = .ok (.invokevirtual 186, 3) := by decide +kernel
theorem d_AR_noteHello_83 : decode b_AR_noteHello 83 = .ok (.invokevirtual 189, 3) := by decide +kernel
theorem d_AR_noteHello_86 : decode b_AR_noteHello 86 = .ok (.iinc 4 1, 3) := by decide +kernel
theorem d_AR_noteHello_89 : decode b_AR_noteHello 89 = .ok (.goto (-86), 3) := by decide +kernel
theorem d_AR_noteHello_92 : decode b_AR_noteHello 92 = .ok (.return_, 1) := by decide +kernel
theorem d_AR_hello_0 : decode b_AR_hello 0 = .ok (.aload_n 0, 1) := by decide +kernel
theorem d_AR_hello_1 : decode b_AR_hello 1 = .ok (.iload_n 1, 1) := by decide +kernel
theorem d_AR_hello_2 : decode b_AR_hello 2 = .ok (.iload_n 2, 1) := by decide +kernel
theorem d_AR_hello_3 : decode b_AR_hello 3 = .ok (.invokevirtual 73, 3) := by decide +kernel
theorem d_AR_hello_6 : decode b_AR_hello 6 = .ok (.iconst 0, 1) := by decide +kernel
theorem d_AR_hello_7 : decode b_AR_hello 7 = .ok (.istore 4, 2) := by decide +kernel
theorem d_AR_hello_9 : decode b_AR_hello 9 = .ok (.iconst 0, 1) := by decide +kernel
theorem d_AR_hello_10 : decode b_AR_hello 10 = .ok (.istore 5, 2) := by decide +kernel
theorem d_AR_hello_12 : decode b_AR_hello 12 = .ok (.iload 5, 2) := by decide +kernel
theorem d_AR_hello_14 : decode b_AR_hello 14 = .ok (.bipush 6, 2) := by decide +kernel
theorem d_AR_hello_16 : decode b_AR_hello 16 = .ok (.if_icmp .ge 48, 3) := by decide +kernel
theorem d_AR_hello_19 : decode b_AR_hello 19 = .ok (.iload 5, 2) := by decide +kernel
theorem d_AR_hello_21 : decode b_AR_hello 21 = .ok (.iload_n 1, 1) := by decide +kernel
theorem d_AR_hello_22 : decode b_AR_hello 22 = .ok (.if_icmp .eq 36, 3) := by decide +kernel
theorem d_AR_hello_25 : decode b_AR_hello 25 = .ok (.iload 5, 2) := by decide +kernel
theorem d_AR_hello_27 : decode b_AR_hello 27 = .ok (.iload_n 3, 1) := by decide +kernel
theorem d_AR_hello_28 : decode b_AR_hello 28 = .ok (.invokestatic 77, 3) := by decide +kernel
theorem d_AR_hello_31 : decode b_AR_hello 31 = .ok (.ifCond .eq 27, 3) := by decide +kernel
theorem d_AR_hello_34 : decode b_AR_hello 34 = .ok (.aload_n 0, 1) := by decide +kernel
theorem d_AR_hello_35 : decode b_AR_hello 35 = .ok (.getfield 19, 3) := by decide +kernel
theorem d_AR_hello_38 : decode b_AR_hello 38 = .ok (.iload 5, 2) := by decide +kernel
theorem d_AR_hello_40 : decode b_AR_hello 40 = .ok (.iload_n 2, 1) := by decide +kernel
theorem d_AR_hello_41 : decode b_AR_hello 41 = .ok (.invokevirtual 62, 3) := by decide +kernel
theorem d_AR_hello_44 : decode b_AR_hello 44 = .ok (.ifCond .eq 14, 3) := by decide +kernel
theorem d_AR_hello_47 : decode b_AR_hello 47 = .ok (.aload_n 0, 1) := by decide +kernel
theorem d_AR_hello_48 : decode b_AR_hello 48 = .ok (.iload 5, 2) := by decide +kernel
theorem d_AR_hello_50 : decode b_AR_hello 50 = .ok (.iload_n 2, 1) := by decide +kernel
theorem d_AR_hello_51 : decode b_AR_hello 51 = .ok (.iload_n 1, 1) := by decide +kernel
theorem d_AR_hello_52 : decode b_AR_hello 52 = .ok (.invokevirtual 80, 3) := by decide +kernel
theorem d_AR_hello_55 : decode b_AR_hello 55 = .ok (.iinc 4 1, 3) := by decide +kernel
theorem d_AR_hello_58 : decode b_AR_hello 58 = .ok (.iinc 5 1, 3) := by decide +kernel
theorem d_AR_hello_61 : decode b_AR_hello 61 = .ok (.goto (-49), 3) := by decide +kernel
theorem d_AR_hello_64 : decode b_AR_hello 64 = .ok (.iload 4, 2) := by decide +kernel
theorem d_AR_hello_66 : decode b_AR_hello 66 = .ok (.ireturn, 1) := by decide +kernel
theorem d_AR_checkLevel_0 : decode b_AR_checkLevel 0 = .ok (.aload_n 0, 1) := by decide +kernel
theorem d_AR_checkLevel_1 : decode b_AR_checkLevel 1 = .ok (.iload_n 1, 1) := by decide +kernel
theorem d_AR_checkLevel_2 : decode b_AR_checkLevel 2 = .ok (.iload_n 2, 1) := by decide +kernel
theorem d_AR_checkLevel_3 : decode b_AR_checkLevel 3 = .ok (.invokevirtual 134, 3) := by decide +kernel
theorem d_AR_checkLevel_6 : decode b_AR_checkLevel 6 = .ok (.ifCond .ne 13, 3) := by decide +kernel
theorem d_AR_checkLevel_19 : decode b_AR_checkLevel 19 = .ok (.return_, 1) := by decide +kernel
theorem d_AR_baseOf_0 : decode b_AR_baseOf 0 = .ok (.aload_n 0, 1) := by decide +kernel
theorem d_AR_baseOf_1 : decode b_AR_baseOf 1 = .ok (.getfield 32, 3) := by decide +kernel
theorem d_AR_baseOf_4 : decode b_AR_baseOf 4 = .ok (.iload_n 2, 1) := by decide +kernel
theorem d_AR_baseOf_5 : decode b_AR_baseOf 5 = .ok (.iconst 1, 1) := by decide +kernel
theorem d_AR_baseOf_6 : decode b_AR_baseOf 6 = .ok (.isub, 1) := by decide +kernel
theorem d_AR_baseOf_7 : decode b_AR_baseOf 7 = .ok (.bipush 6, 2) := by decide +kernel
theorem d_AR_baseOf_9 : decode b_AR_baseOf 9 = .ok (.imul, 1) := by decide +kernel
theorem d_AR_baseOf_10 : decode b_AR_baseOf 10 = .ok (.iload_n 1, 1) := by decide +kernel
theorem d_AR_baseOf_11 : decode b_AR_baseOf 11 = .ok (.iadd, 1) := by decide +kernel
theorem d_AR_baseOf_12 : decode b_AR_baseOf 12 = .ok (.aaload, 1) := by decide +kernel
theorem d_AR_baseOf_13 : decode b_AR_baseOf 13 = .ok (.areturn, 1) := by decide +kernel
theorem d_Ba_isDue_0 : decode b_Ba_isDue 0 = .ok (.aload_n 0, 1) := by decide +kernel
theorem d_Ba_isDue_1 : decode b_Ba_isDue 1 = .ok (.getfield 37, 3) := by decide +kernel
theorem d_Ba_isDue_4 : decode b_Ba_isDue 4 = .ok (.iload_n 1, 1) := by decide +kernel
theorem d_Ba_isDue_5 : decode b_Ba_isDue 5 = .ok (.iaload, 1) := by decide +kernel
theorem d_Ba_isDue_6 : decode b_Ba_isDue 6 = .ok (.iload_n 2, 1) := by decide +kernel
theorem d_Ba_isDue_7 : decode b_Ba_isDue 7 = .ok (.ishr, 1) := by decide +kernel
theorem d_Ba_isDue_8 : decode b_Ba_isDue 8 = .ok (.iconst 1, 1) := by decide +kernel
theorem d_Ba_isDue_9 : decode b_Ba_isDue 9 = .ok (.iand, 1) := by decide +kernel
theorem d_Ba_isDue_10 : decode b_Ba_isDue 10 = .ok (.ifCond .eq 7, 3) := by decide +kernel
theorem d_Ba_isDue_13 : decode b_Ba_isDue 13 = .ok (.iconst 1, 1) := by decide +kernel
theorem d_Ba_isDue_14 : decode b_Ba_isDue 14 = .ok (.goto 4, 3) := by decide +kernel
theorem d_Ba_isDue_17 : decode b_Ba_isDue 17 = .ok (.iconst 0, 1) := by decide +kernel
theorem d_Ba_isDue_18 : decode b_Ba_isDue 18 = .ok (.ireturn, 1) := by decide +kernel
theorem d_He_isMutual_0 : decode b_He_isMutual 0 = .ok (.iload_n 1, 1) := by decide +kernel
theorem d_He_isMutual_1 : decode b_He_isMutual 1 = .ok (.bipush 6, 2) := by decide +kernel
theorem d_He_isMutual_3 : decode b_He_isMutual 3 = .ok (.imul, 1) := by decide +kernel
theorem d_He_isMutual_4 : decode b_He_isMutual 4 = .ok (.iload_n 2, 1) := by decide +kernel
theorem d_He_isMutual_5 : decode b_He_isMutual 5 = .ok (.iadd, 1) := by decide +kernel
theorem d_He_isMutual_6 : decode b_He_isMutual 6 = .ok (.bipush 6, 2) := by decide +kernel
theorem d_He_isMutual_8 : decode b_He_isMutual 8 = .ok (.imul, 1) := by decide +kernel
theorem d_He_isMutual_9 : decode b_He_isMutual 9 = .ok (.iload_n 3, 1) := by decide +kernel
theorem d_He_isMutual_10 : decode b_He_isMutual 10 = .ok (.iadd, 1) := by decide +kernel
theorem d_He_isMutual_11 : decode b_He_isMutual 11 = .ok (.istore 4, 2) := by decide +kernel
theorem d_He_isMutual_13 : decode b_He_isMutual 13 = .ok (.aload_n 0, 1) := by decide +kernel
theorem d_He_isMutual_14 : decode b_He_isMutual 14 = .ok (.getfield 11, 3) := by decide +kernel
theorem d_He_isMutual_17 : decode b_He_isMutual 17 = .ok (.iload 4, 2) := by decide +kernel
theorem d_He_isMutual_19 : decode b_He_isMutual 19 = .ok (.iaload, 1) := by decide +kernel
theorem d_He_isMutual_20 : decode b_He_isMutual 20 = .ok (.ifCond .le 17, 3) := by decide +kernel
theorem d_He_isMutual_23 : decode b_He_isMutual 23 = .ok (.aload_n 0, 1) := by decide +kernel
theorem d_He_isMutual_24 : decode b_He_isMutual 24 = .ok (.getfield 15, 3) := by decide +kernel
theorem d_He_isMutual_27 : decode b_He_isMutual 27 = .ok (.iload 4, 2) := by decide +kernel
theorem d_He_isMutual_29 : decode b_He_isMutual 29 = .ok (.baload, 1) := by decide +kernel
theorem d_He_isMutual_30 : decode b_He_isMutual 30 = .ok (.ifCond .eq 7, 3) := by decide +kernel
theorem d_He_isMutual_33 : decode b_He_isMutual 33 = .ok (.iconst 1, 1) := by decide +kernel
theorem d_He_isMutual_34 : decode b_He_isMutual 34 = .ok (.goto 4, 3) := by decide +kernel
theorem d_He_isMutual_37 : decode b_He_isMutual 37 = .ok (.iconst 0, 1) := by decide +kernel
theorem d_He_isMutual_38 : decode b_He_isMutual 38 = .ok (.ireturn, 1) := by decide +kernel
theorem d_AR_isReached_0 : decode b_AR_isReached 0 = .ok (.iload_n 1, 1) := by decide +kernel
theorem d_AR_isReached_1 : decode b_AR_isReached 1 = .ok (.iload 5, 2) := by decide +kernel
theorem d_AR_isReached_3 : decode b_AR_isReached 3 = .ok (.invokestatic 77, 3) := by decide +kernel
theorem d_AR_isReached_6 : decode b_AR_isReached 6 = .ok (.ifCond .eq 22, 3) := by decide +kernel
theorem d_AR_isReached_9 : decode b_AR_isReached 9 = .ok (.aload_n 0, 1) := by decide +kernel
theorem d_AR_isReached_10 : decode b_AR_isReached 10 = .ok (.iload 4, 2) := by decide +kernel
theorem d_AR_isReached_12 : decode b_AR_isReached 12 = .ok (.invokevirtual 150, 3) := by decide +kernel
theorem d_AR_isReached_15 : decode b_AR_isReached 15 = .ok (.iload_n 1, 1) := by decide +kernel
theorem d_AR_isReached_16 : decode b_AR_isReached 16 = .ok (.iload_n 3, 1) := by decide +kernel
theorem d_AR_isReached_17 : decode b_AR_isReached 17 = .ok (.iload_n 2, 1) := by decide +kernel
theorem d_AR_isReached_18 : decode b_AR_isReached 18 = .ok (.invokevirtual 154, 3) := by decide +kernel
theorem d_AR_isReached_21 : decode b_AR_isReached 21 = .ok (.ifCond .eq 7, 3) := by decide +kernel
theorem d_AR_isReached_24 : decode b_AR_isReached 24 = .ok (.iconst 1, 1) := by decide +kernel
theorem d_AR_isReached_25 : decode b_AR_isReached 25 = .ok (.goto 4, 3) := by decide +kernel
theorem d_AR_isReached_28 : decode b_AR_isReached 28 = .ok (.iconst 0, 1) := by decide +kernel
theorem d_AR_isReached_29 : decode b_AR_isReached 29 = .ok (.ireturn, 1) := by decide +kernel
theorem d_Ba_isAlive_0 : decode b_Ba_isAlive 0 = .ok (.aload_n 0, 1) := by decide +kernel
theorem d_Ba_isAlive_1 : decode b_Ba_isAlive 1 = .ok (.getfield 18, 3) := by decide +kernel
theorem d_Ba_isAlive_4 : decode b_Ba_isAlive 4 = .ok (.iload_n 1, 1) := by decide +kernel
theorem d_Ba_isAlive_5 : decode b_Ba_isAlive 5 = .ok (.iaload, 1) := by decide +kernel
theorem d_Ba_isAlive_6 : decode b_Ba_isAlive 6 = .ok (.ifCond .le 7, 3) := by decide +kernel
theorem d_Ba_isAlive_9 : decode b_Ba_isAlive 9 = .ok (.iconst 1, 1) := by decide +kernel
theorem d_Ba_isAlive_10 : decode b_Ba_isAlive 10 = .ok (.goto 4, 3) := by decide +kernel
theorem d_Ba_isAlive_13 : decode b_Ba_isAlive 13 = .ok (.iconst 0, 1) := by decide +kernel
theorem d_Ba_isAlive_14 : decode b_Ba_isAlive 14 = .ok (.ireturn, 1) := by decide +kernel
theorem d_Ba_orderAgainst_0 : decode b_Ba_orderAgainst 0 = .ok (.aload_n 0, 1) := by decide +kernel
theorem d_Ba_orderAgainst_1 : decode b_Ba_orderAgainst 1 = .ok (.getfield 9, 3) := by decide +kernel
theorem d_Ba_orderAgainst_4 : decode b_Ba_orderAgainst 4 = .ok (.iload_n 2, 1) := by decide +kernel
theorem d_Ba_orderAgainst_5 : decode b_Ba_orderAgainst 5 = .ok (.iaload, 1) := by decide +kernel
theorem d_Ba_orderAgainst_6 : decode b_Ba_orderAgainst 6 = .ok (.aload_n 1, 1) := by decide +kernel
theorem d_Ba_orderAgainst_7 : decode b_Ba_orderAgainst 7 = .ok (.getfield 9, 3) := by decide +kernel
theorem d_Ba_orderAgainst_10 : decode b_Ba_orderAgainst 10 = .ok (.iload_n 2, 1) := by decide +kernel
theorem d_Ba_orderAgainst_11 : decode b_Ba_orderAgainst 11 = .ok (.iaload, 1) := by decide +kernel
theorem d_Ba_orderAgainst_12 : decode b_Ba_orderAgainst 12 = .ok (.if_icmp .eq 17, 3) := by decide +kernel
theorem d_Ba_orderAgainst_15 : decode b_Ba_orderAgainst 15 = .ok (.aload_n 0, 1) := by decide +kernel
theorem d_Ba_orderAgainst_16 : decode b_Ba_orderAgainst 16 = .ok (.getfield 9, 3) := by decide +kernel
theorem d_Ba_orderAgainst_19 : decode b_Ba_orderAgainst 19 = .ok (.iload_n 2, 1) := by decide +kernel
theorem d_Ba_orderAgainst_20 : decode b_Ba_orderAgainst 20 = .ok (.iaload, 1) := by decide +kernel
theorem d_Ba_orderAgainst_21 : decode b_Ba_orderAgainst 21 = .ok (.aload_n 1, 1) := by decide +kernel
theorem d_Ba_orderAgainst_22 : decode b_Ba_orderAgainst 22 = .ok (.getfield 9, 3) := by decide +kernel
theorem d_Ba_orderAgainst_25 : decode b_Ba_orderAgainst 25 = .ok (.iload_n 2, 1) := by decide +kernel
theorem d_Ba_orderAgainst_26 : decode b_Ba_orderAgainst 26 = .ok (.iaload, 1) := by decide +kernel
theorem d_Ba_orderAgainst_27 : decode b_Ba_orderAgainst 27 = .ok (.isub, 1) := by decide +kernel
theorem d_Ba_orderAgainst_28 : decode b_Ba_orderAgainst 28 = .ok (.ireturn, 1) := by decide +kernel
theorem d_Ba_orderAgainst_29 : decode b_Ba_orderAgainst 29 = .ok (.aload_n 0, 1) := by decide +kernel
theorem d_Ba_orderAgainst_30 : decode b_Ba_orderAgainst 30 = .ok (.iload_n 2, 1) := by decide +kernel
theorem d_Ba_orderAgainst_31 : decode b_Ba_orderAgainst 31 = .ok (.invokevirtual 51, 3) := by decide +kernel
theorem d_Ba_orderAgainst_34 : decode b_Ba_orderAgainst 34 = .ok (.aload_n 1, 1) := by decide +kernel
theorem d_Ba_orderAgainst_35 : decode b_Ba_orderAgainst 35 = .ok (.iload_n 2, 1) := by decide +kernel
theorem d_Ba_orderAgainst_36 : decode b_Ba_orderAgainst 36 = .ok (.invokevirtual 51, 3) := by decide +kernel
theorem d_Ba_orderAgainst_39 : decode b_Ba_orderAgainst 39 = .ok (.if_icmp .ne 5, 3) := by decide +kernel
theorem d_Ba_orderAgainst_42 : decode b_Ba_orderAgainst 42 = .ok (.iconst 0, 1) := by decide +kernel
theorem d_Ba_orderAgainst_43 : decode b_Ba_orderAgainst 43 = .ok (.ireturn, 1) := by decide +kernel
theorem d_Ba_orderAgainst_44 : decode b_Ba_orderAgainst 44 = .ok (.aload_n 0, 1) := by decide +kernel
theorem d_Ba_orderAgainst_45 : decode b_Ba_orderAgainst 45 = .ok (.iload_n 2, 1) := by decide +kernel
theorem d_Ba_orderAgainst_46 : decode b_Ba_orderAgainst 46 = .ok (.invokevirtual 51, 3) := by decide +kernel
theorem d_Ba_orderAgainst_49 : decode b_Ba_orderAgainst 49 = .ok (.ifCond .eq 7, 3) := by decide +kernel
theorem d_Ba_orderAgainst_52 : decode b_Ba_orderAgainst 52 = .ok (.iconst (-1), 1) := by decide +kernel
theorem d_Ba_orderAgainst_53 : decode b_Ba_orderAgainst 53 = .ok (.goto 4, 3) := by decide +kernel
theorem d_Ba_orderAgainst_56 : decode b_Ba_orderAgainst 56 = .ok (.iconst 1, 1) := by decide +kernel
theorem d_Ba_orderAgainst_57 : decode b_Ba_orderAgainst 57 = .ok (.ireturn, 1) := by decide +kernel
theorem d_Ba_setDue_0 : decode b_Ba_setDue 0 = .ok (.aload_n 0, 1) := by decide +kernel
theorem d_Ba_setDue_1 : decode b_Ba_setDue 1 = .ok (.getfield 37, 3) := by decide +kernel
theorem d_Ba_setDue_4 : decode b_Ba_setDue 4 = .ok (.iload_n 1, 1) := by decide +kernel
theorem d_Ba_setDue_5 : decode b_Ba_setDue 5 = .ok (.iload_n 3, 1) := by decide +kernel
theorem d_Ba_setDue_6 : decode b_Ba_setDue 6 = .ok (.ifCond .eq 16, 3) := by decide +kernel
theorem d_Ba_setDue_9 : decode b_Ba_setDue 9 = .ok (.aload_n 0, 1) := by decide +kernel
theorem d_Ba_setDue_10 : decode b_Ba_setDue 10 = .ok (.getfield 37, 3) := by decide +kernel
theorem d_Ba_setDue_13 : decode b_Ba_setDue 13 = .ok (.iload_n 1, 1) := by decide +kernel
theorem d_Ba_setDue_14 : decode b_Ba_setDue 14 = .ok (.iaload, 1) := by decide +kernel
theorem d_Ba_setDue_15 : decode b_Ba_setDue 15 = .ok (.iconst 1, 1) := by decide +kernel
theorem d_Ba_setDue_16 : decode b_Ba_setDue 16 = .ok (.iload_n 2, 1) := by decide +kernel
theorem d_Ba_setDue_17 : decode b_Ba_setDue 17 = .ok (.ishl, 1) := by decide +kernel
theorem d_Ba_setDue_18 : decode b_Ba_setDue 18 = .ok (.ior, 1) := by decide +kernel
theorem d_Ba_setDue_19 : decode b_Ba_setDue 19 = .ok (.goto 15, 3) := by decide +kernel
theorem d_Ba_setDue_22 : decode b_Ba_setDue 22 = .ok (.aload_n 0, 1) := by decide +kernel
theorem d_Ba_setDue_23 : decode b_Ba_setDue 23 = .ok (.getfield 37, 3) := by decide +kernel
theorem d_Ba_setDue_26 : decode b_Ba_setDue 26 = .ok (.iload_n 1, 1) := by decide +kernel
theorem d_Ba_setDue_27 : decode b_Ba_setDue 27 = .ok (.iaload, 1) := by decide +kernel
theorem d_Ba_setDue_28 : decode b_Ba_setDue 28 = .ok (.iconst 1, 1) := by decide +kernel
theorem d_Ba_setDue_29 : decode b_Ba_setDue 29 = .ok (.iload_n 2, 1) := by decide +kernel
theorem d_Ba_setDue_30 : decode b_Ba_setDue 30 = .ok (.ishl, 1) := by decide +kernel
theorem d_Ba_setDue_31 : decode b_Ba_setDue 31 = .ok (.iconst (-1), 1) := by decide +kernel
theorem d_Ba_setDue_32 : decode b_Ba_setDue 32 = .ok (.ixor, 1) := by decide +kernel
theorem d_Ba_setDue_33 : decode b_Ba_setDue 33 = .ok (.iand, 1) := by decide +kernel
theorem d_Ba_setDue_34 : decode b_Ba_setDue 34 = .ok (.iastore, 1) := by decide +kernel
theorem d_Ba_setDue_35 : decode b_Ba_setDue 35 = .ok (.return_, 1) := by decide +kernel
theorem d_Ba_setAsked_0 : decode b_Ba_setAsked 0 = .ok (.aload_n 0, 1) := by decide +kernel
theorem d_Ba_setAsked_1 : decode b_Ba_setAsked 1 = .ok (.getfield 40, 3) := by decide +kernel
theorem d_Ba_setAsked_4 : decode b_Ba_setAsked 4 = .ok (.iload_n 1, 1) := by decide +kernel
theorem d_Ba_setAsked_5 : decode b_Ba_setAsked 5 = .ok (.iload_n 3, 1) := by decide +kernel
theorem d_Ba_setAsked_6 : decode b_Ba_setAsked 6 = .ok (.ifCond .eq 16, 3) := by decide +kernel
theorem d_Ba_setAsked_9 : decode b_Ba_setAsked 9 = .ok (.aload_n 0, 1) := by decide +kernel
theorem d_Ba_setAsked_10 : decode b_Ba_setAsked 10 = .ok (.getfield 40, 3) := by decide +kernel
theorem d_Ba_setAsked_13 : decode b_Ba_setAsked 13 = .ok (.iload_n 1, 1) := by decide +kernel
theorem d_Ba_setAsked_14 : decode b_Ba_setAsked 14 = .ok (.iaload, 1) := by decide +kernel
theorem d_Ba_setAsked_15 : decode b_Ba_setAsked 15 = .ok (.iconst 1, 1) := by decide +kernel
theorem d_Ba_setAsked_16 : decode b_Ba_setAsked 16 = .ok (.iload_n 2, 1) := by decide +kernel
theorem d_Ba_setAsked_17 : decode b_Ba_setAsked 17 = .ok (.ishl, 1) := by decide +kernel
theorem d_Ba_setAsked_18 : decode b_Ba_setAsked 18 = .ok (.ior, 1) := by decide +kernel
theorem d_Ba_setAsked_19 : decode b_Ba_setAsked 19 = .ok (.goto 15, 3) := by decide +kernel
theorem d_Ba_setAsked_22 : decode b_Ba_setAsked 22 = .ok (.aload_n 0, 1) := by decide +kernel
theorem d_Ba_setAsked_23 : decode b_Ba_setAsked 23 = .ok (.getfield 40, 3) := by decide +kernel
theorem d_Ba_setAsked_26 : decode b_Ba_setAsked 26 = .ok (.iload_n 1, 1) := by decide +kernel
theorem d_Ba_setAsked_27 : decode b_Ba_setAsked 27 = .ok (.iaload, 1) := by decide +kernel
theorem d_Ba_setAsked_28 : decode b_Ba_setAsked 28 = .ok (.iconst 1, 1) := by decide +kernel
theorem d_Ba_setAsked_29 : decode b_Ba_setAsked 29 = .ok (.iload_n 2, 1) := by decide +kernel
theorem d_Ba_setAsked_30 : decode b_Ba_setAsked 30 = .ok (.ishl, 1) := by decide +kernel
theorem d_Ba_setAsked_31 : decode b_Ba_setAsked 31 = .ok (.iconst (-1), 1) := by decide +kernel
theorem d_Ba_setAsked_32 : decode b_Ba_setAsked 32 = .ok (.ixor, 1) := by decide +kernel
theorem d_Ba_setAsked_33 : decode b_Ba_setAsked 33 = .ok (.iand, 1) := by decide +kernel
theorem d_Ba_setAsked_34 : decode b_Ba_setAsked 34 = .ok (.iastore, 1) := by decide +kernel
theorem d_Ba_setAsked_35 : decode b_Ba_setAsked 35 = .ok (.return_, 1) := by decide +kernel
theorem d_Ba_takeLinks_0 : decode b_Ba_takeLinks 0 = .ok (.aload_n 0, 1) := by decide +kernel
theorem d_Ba_takeLinks_1 : decode b_Ba_takeLinks 1 = .ok (.getfield 31, 3) := by decide +kernel
theorem d_Ba_takeLinks_4 : decode b_Ba_takeLinks 4 = .ok (.iload_n 1, 1) := by decide +kernel
theorem d_Ba_takeLinks_5 : decode b_Ba_takeLinks 5 = .ok (.iload 4, 2) := by decide +kernel
theorem d_Ba_takeLinks_7 : decode b_Ba_takeLinks 7 = .ok (.iastore, 1) := by decide +kernel
theorem d_Ba_takeLinks_8 : decode b_Ba_takeLinks 8 = .ok (.iconst 0, 1) := by decide +kernel
theorem d_Ba_takeLinks_9 : decode b_Ba_takeLinks 9 = .ok (.istore 5, 2) := by decide +kernel
theorem d_Ba_takeLinks_11 : decode b_Ba_takeLinks 11 = .ok (.iload 5, 2) := by decide +kernel
theorem d_Ba_takeLinks_13 : decode b_Ba_takeLinks 13 = .ok (.iload 4, 2) := by decide +kernel
theorem d_Ba_takeLinks_15 : decode b_Ba_takeLinks 15 = .ok (.if_icmp .ge 27, 3) := by decide +kernel
theorem d_Ba_takeLinks_18 : decode b_Ba_takeLinks 18 = .ok (.aload_n 0, 1) := by decide +kernel
theorem d_Ba_takeLinks_19 : decode b_Ba_takeLinks 19 = .ok (.getfield 34, 3) := by decide +kernel
theorem d_Ba_takeLinks_22 : decode b_Ba_takeLinks 22 = .ok (.iload_n 1, 1) := by decide +kernel
theorem d_Ba_takeLinks_23 : decode b_Ba_takeLinks 23 = .ok (.bipush 10, 2) := by decide +kernel
theorem d_Ba_takeLinks_25 : decode b_Ba_takeLinks 25 = .ok (.imul, 1) := by decide +kernel
theorem d_Ba_takeLinks_26 : decode b_Ba_takeLinks 26 = .ok (.iload 5, 2) := by decide +kernel
theorem d_Ba_takeLinks_28 : decode b_Ba_takeLinks 28 = .ok (.iadd, 1) := by decide +kernel
theorem d_Ba_takeLinks_29 : decode b_Ba_takeLinks 29 = .ok (.aload_n 2, 1) := by decide +kernel
theorem d_Ba_takeLinks_30 : decode b_Ba_takeLinks 30 = .ok (.iload_n 3, 1) := by decide +kernel
theorem d_Ba_takeLinks_31 : decode b_Ba_takeLinks 31 = .ok (.iload 5, 2) := by decide +kernel
theorem d_Ba_takeLinks_33 : decode b_Ba_takeLinks 33 = .ok (.iadd, 1) := by decide +kernel
theorem d_Ba_takeLinks_34 : decode b_Ba_takeLinks 34 = .ok (.iaload, 1) := by decide +kernel
theorem d_Ba_takeLinks_35 : decode b_Ba_takeLinks 35 = .ok (.iastore, 1) := by decide +kernel
theorem d_Ba_takeLinks_36 : decode b_Ba_takeLinks 36 = .ok (.iinc 5 1, 3) := by decide +kernel
theorem d_Ba_takeLinks_39 : decode b_Ba_takeLinks 39 = .ok (.goto (-28), 3) := by decide +kernel
theorem d_Ba_takeLinks_42 : decode b_Ba_takeLinks 42 = .ok (.return_, 1) := by decide +kernel
theorem d_Ba_copyFrom_0 : decode b_Ba_copyFrom 0 = .ok (.aload_n 0, 1) := by decide +kernel
theorem d_Ba_copyFrom_1 : decode b_Ba_copyFrom 1 = .ok (.getfield 9, 3) := by decide +kernel
theorem d_Ba_copyFrom_4 : decode b_Ba_copyFrom 4 = .ok (.iload_n 2, 1) := by decide +kernel
theorem d_Ba_copyFrom_5 : decode b_Ba_copyFrom 5 = .ok (.aload_n 1, 1) := by decide +kernel
theorem d_Ba_copyFrom_6 : decode b_Ba_copyFrom 6 = .ok (.getfield 9, 3) := by decide +kernel
theorem d_Ba_copyFrom_9 : decode b_Ba_copyFrom 9 = .ok (.iload_n 2, 1) := by decide +kernel
theorem d_Ba_copyFrom_10 : decode b_Ba_copyFrom 10 = .ok (.iaload, 1) := by decide +kernel
theorem d_Ba_copyFrom_11 : decode b_Ba_copyFrom 11 = .ok (.iastore, 1) := by decide +kernel
theorem d_Ba_copyFrom_12 : decode b_Ba_copyFrom 12 = .ok (.aload_n 0, 1) := by decide +kernel
theorem d_Ba_copyFrom_13 : decode b_Ba_copyFrom 13 = .ok (.getfield 15, 3) := by decide +kernel
theorem d_Ba_copyFrom_16 : decode b_Ba_copyFrom 16 = .ok (.iload_n 2, 1) := by decide +kernel
theorem d_Ba_copyFrom_17 : decode b_Ba_copyFrom 17 = .ok (.aload_n 0, 1) := by decide +kernel
theorem d_Ba_copyFrom_18 : decode b_Ba_copyFrom 18 = .ok (.getfield 15, 3) := by decide +kernel
theorem d_Ba_copyFrom_21 : decode b_Ba_copyFrom 21 = .ok (.iload_n 2, 1) := by decide +kernel
theorem d_Ba_copyFrom_22 : decode b_Ba_copyFrom 22 = .ok (.iaload, 1) := by decide +kernel
theorem d_Ba_copyFrom_23 : decode b_Ba_copyFrom 23 = .ok (.aload_n 0, 1) := by decide +kernel
theorem d_Ba_copyFrom_24 : decode b_Ba_copyFrom 24 = .ok (.getfield 9, 3) := by decide +kernel
theorem d_Ba_copyFrom_27 : decode b_Ba_copyFrom 27 = .ok (.iload_n 2, 1) := by decide +kernel
theorem d_Ba_copyFrom_28 : decode b_Ba_copyFrom 28 = .ok (.iaload, 1) := by decide +kernel
theorem d_Ba_copyFrom_29 : decode b_Ba_copyFrom 29 = .ok (.invokestatic 87, 3) := by decide +kernel
theorem d_Ba_copyFrom_32 : decode b_Ba_copyFrom 32 = .ok (.iastore, 1) := by decide +kernel
theorem d_Ba_copyFrom_33 : decode b_Ba_copyFrom 33 = .ok (.aload_n 0, 1) := by decide +kernel
theorem d_Ba_copyFrom_34 : decode b_Ba_copyFrom 34 = .ok (.getfield 18, 3) := by decide +kernel
theorem d_Ba_copyFrom_37 : decode b_Ba_copyFrom 37 = .ok (.iload_n 2, 1) := by decide +kernel
theorem d_Ba_copyFrom_38 : decode b_Ba_copyFrom 38 = .ok (.aload_n 1, 1) := by decide +kernel
theorem d_Ba_copyFrom_39 : decode b_Ba_copyFrom 39 = .ok (.getfield 18, 3) := by decide +kernel
theorem d_Ba_copyFrom_42 : decode b_Ba_copyFrom 42 = .ok (.iload_n 2, 1) := by decide +kernel
theorem d_Ba_copyFrom_43 : decode b_Ba_copyFrom 43 = .ok (.iaload, 1) := by decide +kernel
theorem d_Ba_copyFrom_44 : decode b_Ba_copyFrom 44 = .ok (.iastore, 1) := by decide +kernel
theorem d_Ba_copyFrom_45 : decode b_Ba_copyFrom 45 = .ok (.aload_n 0, 1) := by decide +kernel
theorem d_Ba_copyFrom_46 : decode b_Ba_copyFrom 46 = .ok (.getfield 21, 3) := by decide +kernel
theorem d_Ba_copyFrom_49 : decode b_Ba_copyFrom 49 = .ok (.iload_n 2, 1) := by decide +kernel
theorem d_Ba_copyFrom_50 : decode b_Ba_copyFrom 50 = .ok (.iconst 0, 1) := by decide +kernel
theorem d_Ba_copyFrom_51 : decode b_Ba_copyFrom 51 = .ok (.iastore, 1) := by decide +kernel
theorem d_Ba_copyFrom_52 : decode b_Ba_copyFrom 52 = .ok (.aload_n 0, 1) := by decide +kernel
theorem d_Ba_copyFrom_53 : decode b_Ba_copyFrom 53 = .ok (.getfield 24, 3) := by decide +kernel
theorem d_Ba_copyFrom_56 : decode b_Ba_copyFrom 56 = .ok (.iload_n 2, 1) := by decide +kernel
theorem d_Ba_copyFrom_57 : decode b_Ba_copyFrom 57 = .ok (.aload_n 1, 1) := by decide +kernel
theorem d_Ba_copyFrom_58 : decode b_Ba_copyFrom 58 = .ok (.getfield 24, 3) := by decide +kernel
theorem d_Ba_copyFrom_61 : decode b_Ba_copyFrom 61 = .ok (.iload_n 2, 1) := by decide +kernel
theorem d_Ba_copyFrom_62 : decode b_Ba_copyFrom 62 = .ok (.baload, 1) := by decide +kernel
theorem d_Ba_copyFrom_63 : decode b_Ba_copyFrom 63 = .ok (.bastore, 1) := by decide +kernel
theorem d_Ba_copyFrom_64 : decode b_Ba_copyFrom 64 = .ok (.aload_n 0, 1) := by decide +kernel
theorem d_Ba_copyFrom_65 : decode b_Ba_copyFrom 65 = .ok (.getfield 28, 3) := by decide +kernel
theorem d_Ba_copyFrom_68 : decode b_Ba_copyFrom 68 = .ok (.iload_n 2, 1) := by decide +kernel
theorem d_Ba_copyFrom_69 : decode b_Ba_copyFrom 69 = .ok (.aload_n 1, 1) := by decide +kernel
theorem d_Ba_copyFrom_70 : decode b_Ba_copyFrom 70 = .ok (.getfield 28, 3) := by decide +kernel
theorem d_Ba_copyFrom_73 : decode b_Ba_copyFrom 73 = .ok (.iload_n 2, 1) := by decide +kernel
theorem d_Ba_copyFrom_74 : decode b_Ba_copyFrom 74 = .ok (.iaload, 1) := by decide +kernel
theorem d_Ba_copyFrom_75 : decode b_Ba_copyFrom 75 = .ok (.iastore, 1) := by decide +kernel
theorem d_Ba_copyFrom_76 : decode b_Ba_copyFrom 76 = .ok (.aload_n 0, 1) := by decide +kernel
theorem d_Ba_copyFrom_77 : decode b_Ba_copyFrom 77 = .ok (.iload_n 2, 1) := by decide +kernel
theorem d_Ba_copyFrom_78 : decode b_Ba_copyFrom 78 = .ok (.aload_n 1, 1) := by decide +kernel
theorem d_Ba_copyFrom_79 : decode b_Ba_copyFrom 79 = .ok (.getfield 34, 3) := by decide +kernel
theorem d_Ba_copyFrom_82 : decode b_Ba_copyFrom 82 = .ok (.iload_n 2, 1) := by decide +kernel
theorem d_Ba_copyFrom_83 : decode b_Ba_copyFrom 83 = .ok (.bipush 10, 2) := by decide +kernel
theorem d_Ba_copyFrom_85 : decode b_Ba_copyFrom 85 = .ok (.imul, 1) := by decide +kernel
theorem d_Ba_copyFrom_86 : decode b_Ba_copyFrom 86 = .ok (.aload_n 1, 1) := by decide +kernel
theorem d_Ba_copyFrom_87 : decode b_Ba_copyFrom 87 = .ok (.getfield 31, 3) := by decide +kernel
theorem d_Ba_copyFrom_90 : decode b_Ba_copyFrom 90 = .ok (.iload_n 2, 1) := by decide +kernel
theorem d_Ba_copyFrom_91 : decode b_Ba_copyFrom 91 = .ok (.iaload, 1) := by decide +kernel
theorem d_Ba_copyFrom_92 : decode b_Ba_copyFrom 92 = .ok (.invokevirtual 83, 3) := by decide +kernel
theorem d_Ba_copyFrom_95 : decode b_Ba_copyFrom 95 = .ok (.return_, 1) := by decide +kernel
theorem d_AR_routerOf_0 : decode b_AR_routerOf 0 = .ok (.iload_n 0, 1) := by decide +kernel
theorem d_AR_routerOf_1 : decode b_AR_routerOf 1 = .ok (.bipush 7, 2) := by decide +kernel
theorem d_AR_routerOf_3 : decode b_AR_routerOf 3 = .ok (.idiv, 1) := by decide +kernel
theorem d_AR_routerOf_4 : decode b_AR_routerOf 4 = .ok (.ireturn, 1) := by decide +kernel
theorem d_AR_partOf_0 : decode b_AR_partOf 0 = .ok (.iload_n 0, 1) := by decide +kernel
theorem d_AR_partOf_1 : decode b_AR_partOf 1 = .ok (.bipush 7, 2) := by decide +kernel
theorem d_AR_partOf_3 : decode b_AR_partOf 3 = .ok (.irem, 1) := by decide +kernel
theorem d_AR_partOf_4 : decode b_AR_partOf 4 = .ok (.ireturn, 1) := by decide +kernel
theorem d_Dr_begin_0 : decode b_Dr_begin 0 = .ok (.aload_n 0, 1) := by decide +kernel
theorem d_Dr_begin_1 : decode b_Dr_begin 1 = .ok (.iconst 0, 1) := by decide +kernel
theorem d_Dr_begin_2 : decode b_Dr_begin 2 = .ok (.putfield 15, 3) := by decide +kernel
theorem d_Dr_begin_5 : decode b_Dr_begin 5 = .ok (.aload_n 0, 1) := by decide +kernel
theorem d_Dr_begin_6 : decode b_Dr_begin 6 = .ok (.iload_n 1, 1) := by decide +kernel
theorem d_Dr_begin_7 : decode b_Dr_begin 7 = .ok (.putfield 19, 3) := by decide +kernel
theorem d_Dr_begin_10 : decode b_Dr_begin 10 = .ok (.aload_n 0, 1) := by decide +kernel
theorem d_Dr_begin_11 : decode b_Dr_begin 11 = .ok (.iconst 0, 1) := by decide +kernel
theorem d_Dr_begin_12 : decode b_Dr_begin 12 = .ok (.putfield 22, 3) := by decide +kernel
theorem d_Dr_begin_15 : decode b_Dr_begin 15 = .ok (.return_, 1) := by decide +kernel
theorem d_AR_hasLevelTwoNeighbourElsewhere_0 : decode b_AR_hasLevelTwoNeighbourElsewhere 0 = .ok (.iconst 0, 1) := by decide +kernel
theorem d_AR_hasLevelTwoNeighbourElsewhere_1 : decode b_AR_hasLevelTwoNeighbourElsewhere 1 = .ok (.istore_n 2, 1) := by decide +kernel
theorem d_AR_hasLevelTwoNeighbourElsewhere_2 : decode b_AR_hasLevelTwoNeighbourElsewhere 2 = .ok (.iload_n 2, 1) := by decide +kernel
theorem d_AR_hasLevelTwoNeighbourElsewhere_3 : decode b_AR_hasLevelTwoNeighbourElsewhere 3 = .ok (.bipush 6, 2) := by decide +kernel
theorem d_AR_hasLevelTwoNeighbourElsewhere_5 : decode b_AR_hasLevelTwoNeighbourElsewhere 5 = .ok (.if_icmp .ge 54, 3) := by decide +kernel
theorem d_AR_hasLevelTwoNeighbourElsewhere_8 : decode b_AR_hasLevelTwoNeighbourElsewhere 8 = .ok (.iconst 0, 1) := by decide +kernel
theorem d_AR_hasLevelTwoNeighbourElsewhere_9 : decode b_AR_hasLevelTwoNeighbourElsewhere 9 = .ok (.istore_n 3, 1) := by decide +kernel
theorem d_AR_hasLevelTwoNeighbourElsewhere_10 : decode b_AR_hasLevelTwoNeighbourElsewhere 10 = .ok (.iload_n 3, 1) := by decide +kernel
theorem d_AR_hasLevelTwoNeighbourElsewhere_11 : decode b_AR_hasLevelTwoNeighbourElsewhere 11 = .ok (.bipush 6, 2) := by decide +kernel
theorem d_AR_hasLevelTwoNeighbourElsewhere_13 : decode b_AR_hasLevelTwoNeighbourElsewhere 13 = .ok (.if_icmp .ge 40, 3) := by decide +kernel
theorem d_AR_hasLevelTwoNeighbourElsewhere_16 : decode b_AR_hasLevelTwoNeighbourElsewhere 16 = .ok (.aload_n 0, 1) := by decide +kernel
theorem d_AR_hasLevelTwoNeighbourElsewhere_17 : decode b_AR_hasLevelTwoNeighbourElsewhere 17 = .ok (.getfield 9, 3) := by decide +kernel
theorem d_AR_hasLevelTwoNeighbourElsewhere_20 : decode b_AR_hasLevelTwoNeighbourElsewhere 20 = .ok (.iload_n 3, 1) := by decide +kernel
theorem d_AR_hasLevelTwoNeighbourElsewhere_21 : decode b_AR_hasLevelTwoNeighbourElsewhere 21 = .ok (.iaload, 1) := by decide +kernel
theorem d_AR_hasLevelTwoNeighbourElsewhere_22 : decode b_AR_hasLevelTwoNeighbourElsewhere 22 = .ok (.aload_n 0, 1) := by decide +kernel
theorem d_AR_hasLevelTwoNeighbourElsewhere_23 : decode b_AR_hasLevelTwoNeighbourElsewhere 23 = .ok (.getfield 9, 3) := by decide +kernel
theorem d_AR_hasLevelTwoNeighbourElsewhere_26 : decode b_AR_hasLevelTwoNeighbourElsewhere 26 = .ok (.iload_n 1, 1) := by decide +kernel
theorem d_AR_hasLevelTwoNeighbourElsewhere_27 : decode b_AR_hasLevelTwoNeighbourElsewhere 27 = .ok (.iaload, 1) := by decide +kernel
theorem d_AR_hasLevelTwoNeighbourElsewhere_28 : decode b_AR_hasLevelTwoNeighbourElsewhere 28 = .ok (.if_icmp .eq 19, 3) := by decide +kernel
theorem d_AR_hasLevelTwoNeighbourElsewhere_31 : decode b_AR_hasLevelTwoNeighbourElsewhere 31 = .ok (.aload_n 0, 1) := by decide +kernel
theorem d_AR_hasLevelTwoNeighbourElsewhere_32 : decode b_AR_hasLevelTwoNeighbourElsewhere 32 = .ok (.iconst 2, 1) := by decide +kernel
theorem d_AR_hasLevelTwoNeighbourElsewhere_33 : decode b_AR_hasLevelTwoNeighbourElsewhere 33 = .ok (.invokevirtual 150, 3) := by decide +kernel
theorem d_AR_hasLevelTwoNeighbourElsewhere_36 : decode b_AR_hasLevelTwoNeighbourElsewhere 36 = .ok (.iload_n 1, 1) := by decide +kernel
theorem d_AR_hasLevelTwoNeighbourElsewhere_37 : decode b_AR_hasLevelTwoNeighbourElsewhere 37 = .ok (.iload_n 2, 1) := by decide +kernel
theorem d_AR_hasLevelTwoNeighbourElsewhere_38 : decode b_AR_hasLevelTwoNeighbourElsewhere 38 = .ok (.iload_n 3, 1) := by decide +kernel
theorem d_AR_hasLevelTwoNeighbourElsewhere_39 : decode b_AR_hasLevelTwoNeighbourElsewhere 39 = .ok (.invokevirtual 154, 3) := by decide +kernel
theorem d_AR_hasLevelTwoNeighbourElsewhere_42 : decode b_AR_hasLevelTwoNeighbourElsewhere 42 = .ok (.ifCond .eq 5, 3) := by decide +kernel
theorem d_AR_hasLevelTwoNeighbourElsewhere_45 : decode b_AR_hasLevelTwoNeighbourElsewhere 45 = .ok (.iconst 1, 1) := by decide +kernel
theorem d_AR_hasLevelTwoNeighbourElsewhere_46 : decode b_AR_hasLevelTwoNeighbourElsewhere 46 = .ok (.ireturn, 1) := by decide +kernel
theorem d_AR_hasLevelTwoNeighbourElsewhere_47 : decode b_AR_hasLevelTwoNeighbourElsewhere 47 = .ok (.iinc 3 1, 3) := by decide +kernel
theorem d_AR_hasLevelTwoNeighbourElsewhere_50 : decode b_AR_hasLevelTwoNeighbourElsewhere 50 = .ok (.goto (-40), 3) := by decide +kernel
theorem d_AR_hasLevelTwoNeighbourElsewhere_53 : decode b_AR_hasLevelTwoNeighbourElsewhere 53 = .ok (.iinc 2 1, 3) := by decide +kernel
theorem d_AR_hasLevelTwoNeighbourElsewhere_56 : decode b_AR_hasLevelTwoNeighbourElsewhere 56 = .ok (.goto (-54), 3) := by decide +kernel
theorem d_AR_hasLevelTwoNeighbourElsewhere_59 : decode b_AR_hasLevelTwoNeighbourElsewhere 59 = .ok (.iconst 0, 1) := by decide +kernel
theorem d_AR_hasLevelTwoNeighbourElsewhere_60 : decode b_AR_hasLevelTwoNeighbourElsewhere 60 = .ok (.ireturn, 1) := by decide +kernel
theorem d_He_firstMutual_0 : decode b_He_firstMutual 0 = .ok (.iconst 0, 1) := by decide +kernel
theorem d_He_firstMutual_1 : decode b_He_firstMutual 1 = .ok (.istore_n 3, 1) := by decide +kernel
theorem d_He_firstMutual_2 : decode b_He_firstMutual 2 = .ok (.iload_n 3, 1) := by decide +kernel
theorem d_He_firstMutual_3 : decode b_He_firstMutual 3 = .ok (.bipush 6, 2) := by decide +kernel
theorem d_He_firstMutual_5 : decode b_He_firstMutual 5 = .ok (.if_icmp .ge 21, 3) := by decide +kernel
theorem d_He_firstMutual_8 : decode b_He_firstMutual 8 = .ok (.aload_n 0, 1) := by decide +kernel
theorem d_He_firstMutual_9 : decode b_He_firstMutual 9 = .ok (.iload_n 1, 1) := by decide +kernel
theorem d_He_firstMutual_10 : decode b_He_firstMutual 10 = .ok (.iload_n 2, 1) := by decide +kernel
theorem d_He_firstMutual_11 : decode b_He_firstMutual 11 = .ok (.iload_n 3, 1) := by decide +kernel
theorem d_He_firstMutual_12 : decode b_He_firstMutual 12 = .ok (.invokevirtual 19, 3) := by decide +kernel
theorem d_He_firstMutual_15 : decode b_He_firstMutual 15 = .ok (.ifCond .eq 5, 3) := by decide +kernel
theorem d_He_firstMutual_18 : decode b_He_firstMutual 18 = .ok (.iload_n 3, 1) := by decide +kernel
theorem d_He_firstMutual_19 : decode b_He_firstMutual 19 = .ok (.ireturn, 1) := by decide +kernel
theorem d_He_firstMutual_20 : decode b_He_firstMutual 20 = .ok (.iinc 3 1, 3) := by decide +kernel
theorem d_He_firstMutual_23 : decode b_He_firstMutual 23 = .ok (.goto (-21), 3) := by decide +kernel
theorem d_He_firstMutual_26 : decode b_He_firstMutual 26 = .ok (.iconst (-1), 1) := by decide +kernel
theorem d_He_firstMutual_27 : decode b_He_firstMutual 27 = .ok (.ireturn, 1) := by decide +kernel
theorem d_Wi_isShared_0 : decode b_Wi_isShared 0 = .ok (.aload_n 0, 1) := by decide +kernel
theorem d_Wi_isShared_1 : decode b_Wi_isShared 1 = .ok (.iload_n 1, 1) := by decide +kernel
theorem d_Wi_isShared_2 : decode b_Wi_isShared 2 = .ok (.invokevirtual 22, 3) := by decide +kernel
theorem d_Wi_isShared_5 : decode b_Wi_isShared 5 = .ok (.iconst 2, 1) := by decide +kernel
theorem d_Wi_isShared_6 : decode b_Wi_isShared 6 = .ok (.if_icmp .le 7, 3) := by decide +kernel
theorem d_Wi_isShared_9 : decode b_Wi_isShared 9 = .ok (.iconst 1, 1) := by decide +kernel
theorem d_Wi_isShared_10 : decode b_Wi_isShared 10 = .ok (.goto 4, 3) := by decide +kernel
theorem d_Wi_isShared_13 : decode b_Wi_isShared 13 = .ok (.iconst 0, 1) := by decide +kernel
theorem d_Wi_isShared_14 : decode b_Wi_isShared 14 = .ok (.ireturn, 1) := by decide +kernel
theorem d_Wi_priorityOf_0 : decode b_Wi_priorityOf 0 = .ok (.aload_n 0, 1) := by decide +kernel
theorem d_Wi_priorityOf_1 : decode b_Wi_priorityOf 1 = .ok (.getfield 15, 3) := by decide +kernel
theorem d_Wi_priorityOf_4 : decode b_Wi_priorityOf 4 = .ok (.iload_n 1, 1) := by decide +kernel
theorem d_Wi_priorityOf_5 : decode b_Wi_priorityOf 5 = .ok (.bipush 6, 2) := by decide +kernel
theorem d_Wi_priorityOf_7 : decode b_Wi_priorityOf 7 = .ok (.imul, 1) := by decide +kernel
theorem d_Wi_priorityOf_8 : decode b_Wi_priorityOf 8 = .ok (.iload_n 2, 1) := by decide +kernel
theorem d_Wi_priorityOf_9 : decode b_Wi_priorityOf 9 = .ok (.iadd, 1) := by decide +kernel
theorem d_Wi_priorityOf_10 : decode b_Wi_priorityOf 10 = .ok (.iaload, 1) := by decide +kernel
theorem d_Wi_priorityOf_11 : decode b_Wi_priorityOf 11 = .ok (.ireturn, 1) := by decide +kernel
theorem d_AR_speakerSeenBy_0 : decode b_AR_speakerSeenBy 0 = .ok (.iload_n 1, 1) := by decide +kernel
theorem d_AR_speakerSeenBy_1 : decode b_AR_speakerSeenBy 1 = .ok (.istore 4, 2) := by decide +kernel
theorem d_AR_speakerSeenBy_3 : decode b_AR_speakerSeenBy 3 = .ok (.iconst 0, 1) := by decide +kernel
theorem d_AR_speakerSeenBy_4 : decode b_AR_speakerSeenBy 4 = .ok (.istore 5, 2) := by decide +kernel
theorem d_AR_speakerSeenBy_6 : decode b_AR_speakerSeenBy 6 = .ok (.iload 5, 2) := by decide +kernel
theorem d_AR_speakerSeenBy_8 : decode b_AR_speakerSeenBy 8 = .ok (.bipush 6, 2) := by decide +kernel
theorem d_AR_speakerSeenBy_10 : decode b_AR_speakerSeenBy 10 = .ok (.if_icmp .ge 68, 3) := by decide +kernel
theorem d_AR_speakerSeenBy_13 : decode b_AR_speakerSeenBy 13 = .ok (.aload_n 0, 1) := by decide +kernel
theorem d_AR_speakerSeenBy_14 : decode b_AR_speakerSeenBy 14 = .ok (.iload_n 3, 1) := by decide +kernel
theorem d_AR_speakerSeenBy_15 : decode b_AR_speakerSeenBy 15 = .ok (.invokevirtual 150, 3) := by decide +kernel
theorem d_AR_speakerSeenBy_18 : decode b_AR_speakerSeenBy 18 = .ok (.iload_n 1, 1) := by decide +kernel
theorem d_AR_speakerSeenBy_19 : decode b_AR_speakerSeenBy 19 = .ok (.iload_n 2, 1) := by decide +kernel
theorem d_AR_speakerSeenBy_20 : decode b_AR_speakerSeenBy 20 = .ok (.iload 5, 2) := by decide +kernel
theorem d_AR_speakerSeenBy_22 : decode b_AR_speakerSeenBy 22 = .ok (.invokevirtual 154, 3) := by decide +kernel
theorem d_AR_speakerSeenBy_25 : decode b_AR_speakerSeenBy 25 = .ok (.ifCond .eq 47, 3) := by decide +kernel
theorem d_AR_speakerSeenBy_28 : decode b_AR_speakerSeenBy 28 = .ok (.aload_n 0, 1) := by decide +kernel
theorem d_AR_speakerSeenBy_29 : decode b_AR_speakerSeenBy 29 = .ok (.getfield 19, 3) := by decide +kernel
theorem d_AR_speakerSeenBy_32 : decode b_AR_speakerSeenBy 32 = .ok (.iload 5, 2) := by decide +kernel
theorem d_AR_speakerSeenBy_34 : decode b_AR_speakerSeenBy 34 = .ok (.iload_n 2, 1) := by decide +kernel
theorem d_AR_speakerSeenBy_35 : decode b_AR_speakerSeenBy 35 = .ok (.invokevirtual 193, 3) := by decide +kernel
theorem d_AR_speakerSeenBy_38 : decode b_AR_speakerSeenBy 38 = .ok (.aload_n 0, 1) := by decide +kernel
theorem d_AR_speakerSeenBy_39 : decode b_AR_speakerSeenBy 39 = .ok (.getfield 19, 3) := by decide +kernel
theorem d_AR_speakerSeenBy_42 : decode b_AR_speakerSeenBy 42 = .ok (.iload 4, 2) := by decide +kernel
theorem d_AR_speakerSeenBy_44 : decode b_AR_speakerSeenBy 44 = .ok (.iload_n 2, 1) := by decide +kernel
theorem d_AR_speakerSeenBy_45 : decode b_AR_speakerSeenBy 45 = .ok (.invokevirtual 193, 3) := by decide +kernel
theorem d_AR_speakerSeenBy_48 : decode b_AR_speakerSeenBy 48 = .ok (.isub, 1) := by decide +kernel
theorem d_AR_speakerSeenBy_49 : decode b_AR_speakerSeenBy 49 = .ok (.istore 6, 2) := by decide +kernel
theorem d_AR_speakerSeenBy_51 : decode b_AR_speakerSeenBy 51 = .ok (.iload 6, 2) := by decide +kernel
theorem d_AR_speakerSeenBy_53 : decode b_AR_speakerSeenBy 53 = .ok (.ifCond .gt 15, 3) := by decide +kernel
theorem d_AR_speakerSeenBy_56 : decode b_AR_speakerSeenBy 56 = .ok (.iload 6, 2) := by decide +kernel
theorem d_AR_speakerSeenBy_58 : decode b_AR_speakerSeenBy 58 = .ok (.ifCond .ne 14, 3) := by decide +kernel
theorem d_AR_speakerSeenBy_61 : decode b_AR_speakerSeenBy 61 = .ok (.iload 5, 2) := by decide +kernel
theorem d_AR_speakerSeenBy_63 : decode b_AR_speakerSeenBy 63 = .ok (.iload 4, 2) := by decide +kernel
theorem d_AR_speakerSeenBy_65 : decode b_AR_speakerSeenBy 65 = .ok (.if_icmp .le 7, 3) := by decide +kernel
theorem d_AR_speakerSeenBy_68 : decode b_AR_speakerSeenBy 68 = .ok (.iload 5, 2) := by decide +kernel
theorem d_AR_speakerSeenBy_70 : decode b_AR_speakerSeenBy 70 = .ok (.istore 4, 2) := by decide +kernel
theorem d_AR_speakerSeenBy_72 : decode b_AR_speakerSeenBy 72 = .ok (.iinc 5 1, 3) := by decide +kernel
theorem d_AR_speakerSeenBy_75 : decode b_AR_speakerSeenBy 75 = .ok (.goto (-69), 3) := by decide +kernel
theorem d_AR_speakerSeenBy_78 : decode b_AR_speakerSeenBy 78 = .ok (.iload 4, 2) := by decide +kernel
theorem d_AR_speakerSeenBy_80 : decode b_AR_speakerSeenBy 80 = .ok (.ireturn, 1) := by decide +kernel
theorem d_AR_nameOf_0 : decode b_AR_nameOf 0 = .ok (.bipush 7, 2) := by decide +kernel
theorem d_AR_nameOf_2 : decode b_AR_nameOf 2 = .ok (.iload_n 0, 1) := by decide +kernel
theorem d_AR_nameOf_3 : decode b_AR_nameOf 3 = .ok (.imul, 1) := by decide +kernel
theorem d_AR_nameOf_4 : decode b_AR_nameOf 4 = .ok (.iload_n 1, 1) := by decide +kernel
theorem d_AR_nameOf_5 : decode b_AR_nameOf 5 = .ok (.iadd, 1) := by decide +kernel
theorem d_AR_nameOf_6 : decode b_AR_nameOf 6 = .ok (.ireturn, 1) := by decide +kernel
theorem d_Wi_metricOf_0 : decode b_Wi_metricOf 0 = .ok (.aload_n 0, 1) := by decide +kernel
theorem d_Wi_metricOf_1 : decode b_Wi_metricOf 1 = .ok (.getfield 9, 3) := by decide +kernel
theorem d_Wi_metricOf_4 : decode b_Wi_metricOf 4 = .ok (.iload_n 1, 1) := by decide +kernel
theorem d_Wi_metricOf_5 : decode b_Wi_metricOf 5 = .ok (.bipush 6, 2) := by decide +kernel
theorem d_Wi_metricOf_7 : decode b_Wi_metricOf 7 = .ok (.imul, 1) := by decide +kernel
theorem d_Wi_metricOf_8 : decode b_Wi_metricOf 8 = .ok (.iload_n 2, 1) := by decide +kernel
theorem d_Wi_metricOf_9 : decode b_Wi_metricOf 9 = .ok (.iadd, 1) := by decide +kernel
theorem d_Wi_metricOf_10 : decode b_Wi_metricOf 10 = .ok (.iaload, 1) := by decide +kernel
theorem d_Wi_metricOf_11 : decode b_Wi_metricOf 11 = .ok (.ireturn, 1) := by decide +kernel
theorem d_Dr_addLink_0 : decode b_Dr_addLink 0 = .ok (.aload_n 0, 1) := by decide +kernel
theorem d_Dr_addLink_1 : decode b_Dr_addLink 1 = .ok (.getfield 15, 3) := by decide +kernel
theorem d_Dr_addLink_4 : decode b_Dr_addLink 4 = .ok (.bipush 10, 2) := by decide +kernel
theorem d_Dr_addLink_6 : decode b_Dr_addLink 6 = .ok (.if_icmp .ge 28, 3) := by decide +kernel
theorem d_Dr_addLink_9 : decode b_Dr_addLink 9 = .ok (.aload_n 0, 1) := by decide +kernel
theorem d_Dr_addLink_10 : decode b_Dr_addLink 10 = .ok (.getfield 9, 3) := by decide +kernel
theorem d_Dr_addLink_13 : decode b_Dr_addLink 13 = .ok (.aload_n 0, 1) := by decide +kernel
theorem d_Dr_addLink_14 : decode b_Dr_addLink 14 = .ok (.getfield 15, 3) := by decide +kernel
theorem d_Dr_addLink_17 : decode b_Dr_addLink 17 = .ok (.iload_n 1, 1) := by decide +kernel
theorem d_Dr_addLink_18 : decode b_Dr_addLink 18 = .ok (.bipush 64, 2) := by decide +kernel
theorem d_Dr_addLink_20 : decode b_Dr_addLink 20 = .ok (.iload_n 2, 1) := by decide +kernel
theorem d_Dr_addLink_21 : decode b_Dr_addLink 21 = .ok (.imul, 1) := by decide +kernel
theorem d_Dr_addLink_22 : decode b_Dr_addLink 22 = .ok (.iadd, 1) := by decide +kernel
theorem d_Dr_addLink_23 : decode b_Dr_addLink 23 = .ok (.iastore, 1) := by decide +kernel
theorem d_Dr_addLink_24 : decode b_Dr_addLink 24 = .ok (.aload_n 0, 1) := by decide +kernel
theorem d_Dr_addLink_25 : decode b_Dr_addLink 25 = .ok (.dup, 1) := by decide +kernel
theorem d_Dr_addLink_26 : decode b_Dr_addLink 26 = .ok (.getfield 15, 3) := by decide +kernel
theorem d_Dr_addLink_29 : decode b_Dr_addLink 29 = .ok (.iconst 1, 1) := by decide +kernel
theorem d_Dr_addLink_30 : decode b_Dr_addLink 30 = .ok (.iadd, 1) := by decide +kernel
theorem d_Dr_addLink_31 : decode b_Dr_addLink 31 = .ok (.putfield 15, 3) := by decide +kernel
theorem d_Dr_addLink_34 : decode b_Dr_addLink 34 = .ok (.return_, 1) := by decide +kernel
theorem d_AR_draftItself_0 : decode b_AR_draftItself 0 = .ok (.aload_n 0, 1) := by decide +kernel
theorem d_AR_draftItself_1 : decode b_AR_draftItself 1 = .ok (.getfield 40, 3) := by decide +kernel
theorem d_AR_draftItself_4 : decode b_AR_draftItself 4 = .ok (.iload_n 2, 1) := by decide +kernel
theorem d_AR_draftItself_5 : decode b_AR_draftItself 5 = .ok (.iconst 1, 1) := by decide +kernel
theorem d_AR_draftItself_6 : decode b_AR_draftItself 6 = .ok (.if_icmp .ne 25, 3) := by decide +kernel
theorem d_AR_draftItself_9 : decode b_AR_draftItself 9 = .ok (.aload_n 0, 1) := by decide +kernel
theorem d_AR_draftItself_10 : decode b_AR_draftItself 10 = .ok (.getfield 13, 3) := by decide +kernel
theorem d_AR_draftItself_13 : decode b_AR_draftItself 13 = .ok (.iload_n 1, 1) := by decide +kernel
theorem d_AR_draftItself_14 : decode b_AR_draftItself 14 = .ok (.iaload, 1) := by decide +kernel
theorem d_AR_draftItself_15 : decode b_AR_draftItself 15 = .ok (.iconst 3, 1) := by decide +kernel
theorem d_AR_draftItself_16 : decode b_AR_draftItself 16 = .ok (.if_icmp .ne 15, 3) := by decide +kernel
theorem d_AR_draftItself_19 : decode b_AR_draftItself 19 = .ok (.aload_n 0, 1) := by decide +kernel
theorem d_AR_draftItself_20 : decode b_AR_draftItself 20 = .ok (.iload_n 1, 1) := by decide +kernel
theorem d_AR_draftItself_21 : decode b_AR_draftItself 21 = .ok (.invokevirtual 205, 3) := by decide +kernel
theorem d_AR_draftItself_24 : decode b_AR_draftItself 24 = .ok (.ifCond .eq 7, 3) := by decide +kernel
theorem d_AR_draftItself_27 : decode b_AR_draftItself 27 = .ok (.iconst 1, 1) := by decide +kernel
theorem d_AR_draftItself_28 : decode b_AR_draftItself 28 = .ok (.goto 4, 3) := by decide +kernel
theorem d_AR_draftItself_31 : decode b_AR_draftItself 31 = .ok (.iconst 0, 1) := by decide +kernel
theorem d_AR_draftItself_32 : decode b_AR_draftItself 32 = .ok (.putfield 208, 3) := by decide +kernel
theorem d_AR_draftItself_35 : decode b_AR_draftItself 35 = .ok (.iconst 0, 1) := by decide +kernel
theorem d_AR_draftItself_36 : decode b_AR_draftItself 36 = .ok (.istore_n 3, 1) := by decide +kernel
theorem d_AR_draftItself_37 : decode b_AR_draftItself 37 = .ok (.iload_n 3, 1) := by decide +kernel
theorem d_AR_draftItself_38 : decode b_AR_draftItself 38 = .ok (.bipush 6, 2) := by decide +kernel
theorem d_AR_draftItself_40 : decode b_AR_draftItself 40 = .ok (.if_icmp .ge 79, 3) := by decide +kernel
theorem d_AR_draftItself_43 : decode b_AR_draftItself 43 = .ok (.aload_n 0, 1) := by decide +kernel
theorem d_AR_draftItself_44 : decode b_AR_draftItself 44 = .ok (.iload_n 2, 1) := by decide +kernel
theorem d_AR_draftItself_45 : decode b_AR_draftItself 45 = .ok (.invokevirtual 150, 3) := by decide +kernel
theorem d_AR_draftItself_48 : decode b_AR_draftItself 48 = .ok (.iload_n 1, 1) := by decide +kernel
theorem d_AR_draftItself_49 : decode b_AR_draftItself 49 = .ok (.iload_n 3, 1) := by decide +kernel
theorem d_AR_draftItself_50 : decode b_AR_draftItself 50 = .ok (.invokevirtual 212, 3) := by decide +kernel
theorem d_AR_draftItself_53 : decode b_AR_draftItself 53 = .ok (.istore 4, 2) := by decide +kernel
theorem d_AR_draftItself_55 : decode b_AR_draftItself 55 = .ok (.iload 4, 2) := by decide +kernel
theorem d_AR_draftItself_57 : decode b_AR_draftItself 57 = .ok (.ifCond .lt 56, 3) := by decide +kernel
theorem d_AR_draftItself_60 : decode b_AR_draftItself 60 = .ok (.aload_n 0, 1) := by decide +kernel
theorem d_AR_draftItself_61 : decode b_AR_draftItself 61 = .ok (.getfield 19, 3) := by decide +kernel
theorem d_AR_draftItself_64 : decode b_AR_draftItself 64 = .ok (.iload_n 3, 1) := by decide +kernel
theorem d_AR_draftItself_65 : decode b_AR_draftItself 65 = .ok (.invokevirtual 102, 3) := by decide +kernel
theorem d_AR_draftItself_68 : decode b_AR_draftItself 68 = .ok (.ifCond .eq 19, 3) := by decide +kernel
theorem d_AR_draftItself_71 : decode b_AR_draftItself 71 = .ok (.aload_n 0, 1) := by decide +kernel
theorem d_AR_draftItself_72 : decode b_AR_draftItself 72 = .ok (.iload_n 1, 1) := by decide +kernel
theorem d_AR_draftItself_73 : decode b_AR_draftItself 73 = .ok (.iload_n 3, 1) := by decide +kernel
theorem d_AR_draftItself_74 : decode b_AR_draftItself 74 = .ok (.iload_n 2, 1) := by decide +kernel
theorem d_AR_draftItself_75 : decode b_AR_draftItself 75 = .ok (.invokevirtual 157, 3) := by decide +kernel
theorem d_AR_draftItself_78 : decode b_AR_draftItself 78 = .ok (.iconst 1, 1) := by decide +kernel
theorem d_AR_draftItself_79 : decode b_AR_draftItself 79 = .ok (.iload_n 3, 1) := by decide +kernel
theorem d_AR_draftItself_80 : decode b_AR_draftItself 80 = .ok (.iadd, 1) := by decide +kernel
theorem d_AR_draftItself_81 : decode b_AR_draftItself 81 = .ok (.invokestatic 215, 3) := by decide +kernel
theorem d_AR_draftItself_84 : decode b_AR_draftItself 84 = .ok (.goto 9, 3) := by decide +kernel
theorem d_AR_draftItself_87 : decode b_AR_draftItself 87 = .ok (.iload 4, 2) := by decide +kernel
theorem d_AR_draftItself_89 : decode b_AR_draftItself 89 = .ok (.iconst 0, 1) := by decide +kernel
theorem d_AR_draftItself_90 : decode b_AR_draftItself 90 = .ok (.invokestatic 215, 3) := by decide +kernel
theorem d_AR_draftItself_93 : decode b_AR_draftItself 93 = .ok (.istore 5, 2) := by decide +kernel
theorem d_AR_draftItself_95 : decode b_AR_draftItself 95 = .ok (.aload_n 0, 1) := by decide +kernel
theorem d_AR_draftItself_96 : decode b_AR_draftItself 96 = .ok (.getfield 40, 3) := by decide +kernel
theorem d_AR_draftItself_99 : decode b_AR_draftItself 99 = .ok (.iload 5, 2) := by decide +kernel
theorem d_AR_draftItself_101 : decode b_AR_draftItself 101 = .ok (.aload_n 0, 1) := by decide +kernel
theorem d_AR_draftItself_102 : decode b_AR_draftItself 102 = .ok (.getfield 19, 3) := by decide +kernel
theorem d_AR_draftItself_105 : decode b_AR_draftItself 105 = .ok (.iload_n 1, 1) := by decide +kernel
theorem d_AR_draftItself_106 : decode b_AR_draftItself 106 = .ok (.iload_n 3, 1) := by decide +kernel
theorem d_AR_draftItself_107 : decode b_AR_draftItself 107 = .ok (.invokevirtual 218, 3) := by decide +kernel
theorem d_AR_draftItself_110 : decode b_AR_draftItself 110 = .ok (.invokevirtual 221, 3) := by decide +kernel
theorem d_AR_draftItself_113 : decode b_AR_draftItself 113 = .ok (.iinc 3 1, 3) := by decide +kernel
theorem d_AR_draftItself_116 : decode b_AR_draftItself 116 = .ok (.goto (-79), 3) := by decide +kernel
theorem d_AR_draftItself_119 : decode b_AR_draftItself 119 = .ok (.return_, 1) := by decide +kernel
theorem d_AR_draftCircuit_0 : decode b_AR_draftCircuit 0 = .ok (.aload_n 0, 1) := by decide +kernel
theorem d_AR_draftCircuit_1 : decode b_AR_draftCircuit 1 = .ok (.iload_n 2, 1) := by decide +kernel
theorem d_AR_draftCircuit_2 : decode b_AR_draftCircuit 2 = .ok (.invokevirtual 150, 3) := by decide +kernel
theorem d_AR_draftCircuit_5 : decode b_AR_draftCircuit 5 = .ok (.astore 4, 2) := by decide +kernel
theorem d_AR_draftCircuit_7 : decode b_AR_draftCircuit 7 = .ok (.aload_n 0, 1) := by decide +kernel
theorem d_AR_draftCircuit_8 : decode b_AR_draftCircuit 8 = .ok (.getfield 19, 3) := by decide +kernel
theorem d_AR_draftCircuit_11 : decode b_AR_draftCircuit 11 = .ok (.iload_n 3, 1) := by decide +kernel
theorem d_AR_draftCircuit_12 : decode b_AR_draftCircuit 12 = .ok (.invokevirtual 102, 3) := by decide +kernel
theorem d_AR_draftCircuit_15 : decode b_AR_draftCircuit 15 = .ok (.ifCond .eq 24, 3) := by decide +kernel
theorem d_AR_draftCircuit_18 : decode b_AR_draftCircuit 18 = .ok (.aload 4, 2) := by decide +kernel
theorem d_AR_draftCircuit_20 : decode b_AR_draftCircuit 20 = .ok (.iload_n 1, 1) := by decide +kernel
theorem d_AR_draftCircuit_21 : decode b_AR_draftCircuit 21 = .ok (.iload_n 3, 1) := by decide +kernel
theorem d_AR_draftCircuit_22 : decode b_AR_draftCircuit 22 = .ok (.invokevirtual 212, 3) := by decide +kernel
theorem d_AR_draftCircuit_25 : decode b_AR_draftCircuit 25 = .ok (.ifCond .lt 14, 3) := by decide +kernel
theorem d_AR_draftCircuit_28 : decode b_AR_draftCircuit 28 = .ok (.aload_n 0, 1) := by decide +kernel
theorem d_AR_draftCircuit_29 : decode b_AR_draftCircuit 29 = .ok (.iload_n 1, 1) := by decide +kernel
theorem d_AR_draftCircuit_30 : decode b_AR_draftCircuit 30 = .ok (.iload_n 3, 1) := by decide +kernel
theorem d_AR_draftCircuit_31 : decode b_AR_draftCircuit 31 = .ok (.iload_n 2, 1) := by decide +kernel
theorem d_AR_draftCircuit_32 : decode b_AR_draftCircuit 32 = .ok (.invokevirtual 157, 3) := by decide +kernel
theorem d_AR_draftCircuit_35 : decode b_AR_draftCircuit 35 = .ok (.iload_n 1, 1) := by decide +kernel
theorem d_AR_draftCircuit_36 : decode b_AR_draftCircuit 36 = .ok (.if_icmp .eq 5, 3) := by decide +kernel
theorem d_AR_draftCircuit_39 : decode b_AR_draftCircuit 39 = .ok (.iconst 0, 1) := by decide +kernel
theorem d_AR_draftCircuit_40 : decode b_AR_draftCircuit 40 = .ok (.ireturn, 1) := by decide +kernel
theorem d_AR_draftCircuit_41 : decode b_AR_draftCircuit 41 = .ok (.aload_n 0, 1) := by decide +kernel
theorem d_AR_draftCircuit_42 : decode b_AR_draftCircuit 42 = .ok (.getfield 40, 3) := by decide +kernel
theorem d_AR_draftCircuit_45 : decode b_AR_draftCircuit 45 = .ok (.iload_n 1, 1) := by decide +kernel
theorem d_AR_draftCircuit_46 : decode b_AR_draftCircuit 46 = .ok (.iconst 0, 1) := by decide +kernel
theorem d_AR_draftCircuit_47 : decode b_AR_draftCircuit 47 = .ok (.invokestatic 215, 3) := by decide +kernel
theorem d_AR_draftCircuit_50 : decode b_AR_draftCircuit 50 = .ok (.iconst 0, 1) := by decide +kernel
theorem d_AR_draftCircuit_51 : decode b_AR_draftCircuit 51 = .ok (.invokevirtual 221, 3) := by decide +kernel
theorem d_AR_draftCircuit_54 : decode b_AR_draftCircuit 54 = .ok (.iconst 0, 1) := by decide +kernel
theorem d_AR_draftCircuit_55 : decode b_AR_draftCircuit 55 = .ok (.istore 5, 2) := by decide +kernel
theorem d_AR_draftCircuit_57 : decode b_AR_draftCircuit 57 = .ok (.iload 5, 2) := by decide +kernel
theorem d_AR_draftCircuit_59 : decode b_AR_draftCircuit 59 = .ok (.bipush 6, 2) := by decide +kernel
theorem d_AR_draftCircuit_61 : decode b_AR_draftCircuit 61 = .ok (.if_icmp .ge 35, 3) := by decide +kernel
theorem d_AR_draftCircuit_64 : decode b_AR_draftCircuit 64 = .ok (.aload 4, 2) := by decide +kernel
theorem d_AR_draftCircuit_66 : decode b_AR_draftCircuit 66 = .ok (.iload_n 1, 1) := by decide +kernel
theorem d_AR_draftCircuit_67 : decode b_AR_draftCircuit 67 = .ok (.iload_n 3, 1) := by decide +kernel
theorem d_AR_draftCircuit_68 : decode b_AR_draftCircuit 68 = .ok (.iload 5, 2) := by decide +kernel
theorem d_AR_draftCircuit_70 : decode b_AR_draftCircuit 70 = .ok (.invokevirtual 154, 3) := by decide +kernel
theorem d_AR_draftCircuit_73 : decode b_AR_draftCircuit 73 = .ok (.ifCond .eq 17, 3) := by decide +kernel
theorem d_AR_draftCircuit_76 : decode b_AR_draftCircuit 76 = .ok (.aload_n 0, 1) := by decide +kernel
theorem d_AR_draftCircuit_77 : decode b_AR_draftCircuit 77 = .ok (.getfield 40, 3) := by decide +kernel
theorem d_AR_draftCircuit_80 : decode b_AR_draftCircuit 80 = .ok (.iload 5, 2) := by decide +kernel
theorem d_AR_draftCircuit_82 : decode b_AR_draftCircuit 82 = .ok (.iconst 0, 1) := by decide +kernel
theorem d_AR_draftCircuit_83 : decode b_AR_draftCircuit 83 = .ok (.invokestatic 215, 3) := by decide +kernel
theorem d_AR_draftCircuit_86 : decode b_AR_draftCircuit 86 = .ok (.iconst 0, 1) := by decide +kernel
theorem d_AR_draftCircuit_87 : decode b_AR_draftCircuit 87 = .ok (.invokevirtual 221, 3) := by decide +kernel
theorem d_AR_draftCircuit_90 : decode b_AR_draftCircuit 90 = .ok (.iinc 5 1, 3) := by decide +kernel
theorem d_AR_draftCircuit_93 : decode b_AR_draftCircuit 93 = .ok (.goto (-36), 3) := by decide +kernel
theorem d_AR_draftCircuit_96 : decode b_AR_draftCircuit 96 = .ok (.iconst 1, 1) := by decide +kernel
theorem d_AR_draftCircuit_97 : decode b_AR_draftCircuit 97 = .ok (.ireturn, 1) := by decide +kernel
theorem d_AR_draftPart_0 : decode b_AR_draftPart 0 = .ok (.aload_n 0, 1) := by decide +kernel
theorem d_AR_draftPart_1 : decode b_AR_draftPart 1 = .ok (.getfield 40, 3) := by decide +kernel
theorem d_AR_draftPart_4 : decode b_AR_draftPart 4 = .ok (.aload_n 0, 1) := by decide +kernel
theorem d_AR_draftPart_5 : decode b_AR_draftPart 5 = .ok (.getfield 9, 3) := by decide +kernel
theorem d_AR_draftPart_8 : decode b_AR_draftPart 8 = .ok (.iload_n 1, 1) := by decide +kernel
theorem d_AR_draftPart_9 : decode b_AR_draftPart 9 = .ok (.iaload, 1) := by decide +kernel
theorem d_AR_draftPart_10 : decode b_AR_draftPart 10 = .ok (.invokevirtual 196, 3) := by decide +kernel
theorem d_AR_draftPart_13 : decode b_AR_draftPart 13 = .ok (.iload_n 3, 1) := by decide +kernel
theorem d_AR_draftPart_14 : decode b_AR_draftPart 14 = .ok (.ifCond .ne 11, 3) := by decide +kernel
theorem d_AR_draftPart_17 : decode b_AR_draftPart 17 = .ok (.aload_n 0, 1) := by decide +kernel
theorem d_AR_draftPart_18 : decode b_AR_draftPart 18 = .ok (.iload_n 1, 1) := by decide +kernel
theorem d_AR_draftPart_19 : decode b_AR_draftPart 19 = .ok (.iload_n 2, 1) := by decide +kernel
theorem d_AR_draftPart_20 : decode b_AR_draftPart 20 = .ok (.invokevirtual 199, 3) := by decide +kernel
theorem d_AR_draftPart_23 : decode b_AR_draftPart 23 = .ok (.iconst 1, 1) := by decide +kernel
theorem d_AR_draftPart_24 : decode b_AR_draftPart 24 = .ok (.ireturn, 1) := by decide +kernel
theorem d_AR_draftPart_25 : decode b_AR_draftPart 25 = .ok (.aload_n 0, 1) := by decide +kernel
theorem d_AR_draftPart_26 : decode b_AR_draftPart 26 = .ok (.iload_n 1, 1) := by decide +kernel
theorem d_AR_draftPart_27 : decode b_AR_draftPart 27 = .ok (.iload_n 2, 1) := by decide +kernel
theorem d_AR_draftPart_28 : decode b_AR_draftPart 28 = .ok (.iload_n 3, 1) := by decide +kernel
theorem d_AR_draftPart_29 : decode b_AR_draftPart 29 = .ok (.iconst 1, 1) := by decide +kernel
theorem d_AR_draftPart_30 : decode b_AR_draftPart 30 = .ok (.isub, 1) := by decide +kernel
theorem d_AR_draftPart_31 : decode b_AR_draftPart 31 = .ok (.invokevirtual 202, 3) := by decide +kernel
theorem d_AR_draftPart_34 : decode b_AR_draftPart 34 = .ok (.ireturn, 1) := by decide +kernel
theorem d_Ba_renew_0 : decode b_Ba_renew 0 = .ok (.aload_n 0, 1) := by decide +kernel
theorem d_Ba_renew_1 : decode b_Ba_renew 1 = .ok (.getfield 15, 3) := by decide +kernel
theorem d_Ba_renew_4 : decode b_Ba_renew 4 = .ok (.iload_n 1, 1) := by decide +kernel
theorem d_Ba_renew_5 : decode b_Ba_renew 5 = .ok (.dup2, 1) := by decide +kernel
theorem d_Ba_renew_6 : decode b_Ba_renew 6 = .ok (.iaload, 1) := by decide +kernel
theorem d_Ba_renew_7 : decode b_Ba_renew 7 = .ok (.iconst 1, 1) := by decide +kernel
theorem d_Ba_renew_8 : decode b_Ba_renew 8 = .ok (.iadd, 1) := by decide +kernel
theorem d_Ba_renew_9 : decode b_Ba_renew 9 = .ok (.iastore, 1) := by decide +kernel
theorem d_Ba_renew_10 : decode b_Ba_renew 10 = .ok (.aload_n 0, 1) := by decide +kernel
theorem d_Ba_renew_11 : decode b_Ba_renew 11 = .ok (.getfield 9, 3) := by decide +kernel
theorem d_Ba_renew_14 : decode b_Ba_renew 14 = .ok (.iload_n 1, 1) := by decide +kernel
theorem d_Ba_renew_15 : decode b_Ba_renew 15 = .ok (.aload_n 0, 1) := by decide +kernel
theorem d_Ba_renew_16 : decode b_Ba_renew 16 = .ok (.getfield 15, 3) := by decide +kernel
theorem d_Ba_renew_19 : decode b_Ba_renew 19 = .ok (.iload_n 1, 1) := by decide +kernel
theorem d_Ba_renew_20 : decode b_Ba_renew 20 = .ok (.iaload, 1) := by decide +kernel
theorem d_Ba_renew_21 : decode b_Ba_renew 21 = .ok (.iastore, 1) := by decide +kernel
theorem d_Ba_renew_22 : decode b_Ba_renew 22 = .ok (.aload_n 0, 1) := by decide +kernel
theorem d_Ba_renew_23 : decode b_Ba_renew 23 = .ok (.getfield 18, 3) := by decide +kernel
theorem d_Ba_renew_26 : decode b_Ba_renew 26 = .ok (.iload_n 1, 1) := by decide +kernel
theorem d_Ba_renew_27 : decode b_Ba_renew 27 = .ok (.bipush 20, 2) := by decide +kernel
theorem d_Ba_renew_29 : decode b_Ba_renew 29 = .ok (.iastore, 1) := by decide +kernel
theorem d_Ba_renew_30 : decode b_Ba_renew 30 = .ok (.aload_n 0, 1) := by decide +kernel
theorem d_Ba_renew_31 : decode b_Ba_renew 31 = .ok (.getfield 24, 3) := by decide +kernel
theorem d_Ba_renew_34 : decode b_Ba_renew 34 = .ok (.iload_n 1, 1) := by decide +kernel
theorem d_Ba_renew_35 : decode b_Ba_renew 35 = .ok (.aload_n 2, 1) := by decide +kernel
theorem d_Ba_renew_36 : decode b_Ba_renew 36 = .ok (.getfield 69, 3) := by decide +kernel
theorem d_Ba_renew_39 : decode b_Ba_renew 39 = .ok (.bastore, 1) := by decide +kernel
theorem d_Ba_renew_40 : decode b_Ba_renew 40 = .ok (.aload_n 0, 1) := by decide +kernel
theorem d_Ba_renew_41 : decode b_Ba_renew 41 = .ok (.getfield 28, 3) := by decide +kernel
theorem d_Ba_renew_44 : decode b_Ba_renew 44 = .ok (.iload_n 1, 1) := by decide +kernel
theorem d_Ba_renew_45 : decode b_Ba_renew 45 = .ok (.aload_n 2, 1) := by decide +kernel
theorem d_Ba_renew_46 : decode b_Ba_renew 46 = .ok (.getfield 80, 3) := by decide +kernel
theorem d_Ba_renew_49 : decode b_Ba_renew 49 = .ok (.iastore, 1) := by decide +kernel
theorem d_Ba_renew_50 : decode b_Ba_renew 50 = .ok (.aload_n 0, 1) := by decide +kernel
theorem d_Ba_renew_51 : decode b_Ba_renew 51 = .ok (.iload_n 1, 1) := by decide +kernel
theorem d_Ba_renew_52 : decode b_Ba_renew 52 = .ok (.aload_n 2, 1) := by decide +kernel
theorem d_Ba_renew_53 : decode b_Ba_renew 53 = .ok (.getfield 79, 3) := by decide +kernel
theorem d_Ba_renew_56 : decode b_Ba_renew 56 = .ok (.iconst 0, 1) := by decide +kernel
theorem d_Ba_renew_57 : decode b_Ba_renew 57 = .ok (.aload_n 2, 1) := by decide +kernel
theorem d_Ba_renew_58 : decode b_Ba_renew 58 = .ok (.getfield 75, 3) := by decide +kernel
theorem d_Ba_renew_61 : decode b_Ba_renew 61 = .ok (.invokevirtual 83, 3) := by decide +kernel
theorem d_Ba_renew_64 : decode b_Ba_renew 64 = .ok (.aload_n 0, 1) := by decide +kernel
theorem d_Ba_renew_65 : decode b_Ba_renew 65 = .ok (.getfield 37, 3) := by decide +kernel
theorem d_Ba_renew_68 : decode b_Ba_renew 68 = .ok (.iload_n 1, 1) := by decide +kernel
theorem d_Ba_renew_69 : decode b_Ba_renew 69 = .ok (.iload_n 3, 1) := by decide +kernel
theorem d_Ba_renew_70 : decode b_Ba_renew 70 = .ok (.iastore, 1) := by decide +kernel
theorem d_Ba_renew_71 : decode b_Ba_renew 71 = .ok (.aload_n 0, 1) := by decide +kernel
theorem d_Ba_renew_72 : decode b_Ba_renew 72 = .ok (.getfield 40, 3) := by decide +kernel
theorem d_Ba_renew_75 : decode b_Ba_renew 75 = .ok (.iload_n 1, 1) := by decide +kernel
theorem d_Ba_renew_76 : decode b_Ba_renew 76 = .ok (.iconst 0, 1) := by decide +kernel
theorem d_Ba_renew_77 : decode b_Ba_renew 77 = .ok (.iastore, 1) := by decide +kernel
theorem d_Ba_renew_78 : decode b_Ba_renew 78 = .ok (.return_, 1) := by decide +kernel
theorem d_Ba_end_0 : decode b_Ba_end 0 = .ok (.aload_n 0, 1) := by decide +kernel
theorem d_Ba_end_1 : decode b_Ba_end 1 = .ok (.getfield 18, 3) := by decide +kernel
theorem d_Ba_end_4 : decode b_Ba_end 4 = .ok (.iload_n 1, 1) := by decide +kernel
theorem d_Ba_end_5 : decode b_Ba_end 5 = .ok (.iconst 0, 1) := by decide +kernel
theorem d_Ba_end_6 : decode b_Ba_end 6 = .ok (.iastore, 1) := by decide +kernel
theorem d_Ba_end_7 : decode b_Ba_end 7 = .ok (.aload_n 0, 1) := by decide +kernel
theorem d_Ba_end_8 : decode b_Ba_end 8 = .ok (.getfield 21, 3) := by decide +kernel
theorem d_Ba_end_11 : decode b_Ba_end 11 = .ok (.iload_n 1, 1) := by decide +kernel
theorem d_Ba_end_12 : decode b_Ba_end 12 = .ok (.iconst 0, 1) := by decide +kernel
theorem d_Ba_end_13 : decode b_Ba_end 13 = .ok (.iastore, 1) := by decide +kernel
theorem d_Ba_end_14 : decode b_Ba_end 14 = .ok (.aload_n 0, 1) := by decide +kernel
theorem d_Ba_end_15 : decode b_Ba_end 15 = .ok (.getfield 37, 3) := by decide +kernel
theorem d_Ba_end_18 : decode b_Ba_end 18 = .ok (.iload_n 1, 1) := by decide +kernel
theorem d_Ba_end_19 : decode b_Ba_end 19 = .ok (.iload_n 2, 1) := by decide +kernel
theorem d_Ba_end_20 : decode b_Ba_end 20 = .ok (.iastore, 1) := by decide +kernel
theorem d_Ba_end_21 : decode b_Ba_end 21 = .ok (.return_, 1) := by decide +kernel
theorem d_Ba_askNowhere_0 : decode b_Ba_askNowhere 0 = .ok (.aload_n 0, 1) := by decide +kernel
theorem d_Ba_askNowhere_1 : decode b_Ba_askNowhere 1 = .ok (.getfield 40, 3) := by decide +kernel
theorem d_Ba_askNowhere_4 : decode b_Ba_askNowhere 4 = .ok (.iload_n 1, 1) := by decide +kernel
theorem d_Ba_askNowhere_5 : decode b_Ba_askNowhere 5 = .ok (.iconst 0, 1) := by decide +kernel
theorem d_Ba_askNowhere_6 : decode b_Ba_askNowhere 6 = .ok (.iastore, 1) := by decide +kernel
theorem d_Ba_askNowhere_7 : decode b_Ba_askNowhere 7 = .ok (.return_, 1) := by decide +kernel
theorem d_AR_answerForOwn_0 : decode b_AR_answerForOwn 0 = .ok (.aload_n 0, 1) := by decide +kernel
theorem d_AR_answerForOwn_1 : decode b_AR_answerForOwn 1 = .ok (.iload_n 1, 1) := by decide +kernel
theorem d_AR_answerForOwn_2 : decode b_AR_answerForOwn 2 = .ok (.iload_n 2, 1) := by decide +kernel
theorem d_AR_answerForOwn_3 : decode b_AR_answerForOwn 3 = .ok (.invokevirtual 87, 3) := by decide +kernel
theorem d_AR_answerForOwn_6 : decode b_AR_answerForOwn 6 = .ok (.astore 4, 2) := by decide +kernel
theorem d_AR_answerForOwn_8 : decode b_AR_answerForOwn 8 = .ok (.aload_n 0, 1) := by decide +kernel
theorem d_AR_answerForOwn_9 : decode b_AR_answerForOwn 9 = .ok (.iload_n 1, 1) := by decide +kernel
theorem d_AR_answerForOwn_10 : decode b_AR_answerForOwn 10 = .ok (.iload_n 2, 1) := by decide +kernel
theorem d_AR_answerForOwn_11 : decode b_AR_answerForOwn 11 = .ok (.iload_n 3, 1) := by decide +kernel
theorem d_AR_answerForOwn_12 : decode b_AR_answerForOwn 12 = .ok (.invokestatic 257, 3) := by decide +kernel
theorem d_AR_answerForOwn_15 : decode b_AR_answerForOwn 15 = .ok (.invokevirtual 224, 3) := by decide +kernel
theorem d_AR_answerForOwn_18 : decode b_AR_answerForOwn 18 = .ok (.ifCond .eq 24, 3) := by decide +kernel
theorem d_AR_answerForOwn_21 : decode b_AR_answerForOwn 21 = .ok (.aload 4, 2) := by decide +kernel
theorem d_AR_answerForOwn_23 : decode b_AR_answerForOwn 23 = .ok (.iload_n 3, 1) := by decide +kernel
theorem d_AR_answerForOwn_24 : decode b_AR_answerForOwn 24 = .ok (.aload_n 0, 1) := by decide +kernel
theorem d_AR_answerForOwn_25 : decode b_AR_answerForOwn 25 = .ok (.getfield 40, 3) := by decide +kernel
theorem d_AR_answerForOwn_28 : decode b_AR_answerForOwn 28 = .ok (.aload_n 0, 1) := by decide +kernel
theorem d_AR_answerForOwn_29 : decode b_AR_answerForOwn 29 = .ok (.getfield 19, 3) := by decide +kernel
theorem d_AR_answerForOwn_32 : decode b_AR_answerForOwn 32 = .ok (.iload_n 1, 1) := by decide +kernel
theorem d_AR_answerForOwn_33 : decode b_AR_answerForOwn 33 = .ok (.invokevirtual 55, 3) := by decide +kernel
theorem d_AR_answerForOwn_36 : decode b_AR_answerForOwn 36 = .ok (.invokevirtual 231, 3) := by decide +kernel
theorem d_AR_answerForOwn_39 : decode b_AR_answerForOwn 39 = .ok (.goto 23, 3) := by decide +kernel
theorem d_AR_answerForOwn_42 : decode b_AR_answerForOwn 42 = .ok (.aload 4, 2) := by decide +kernel
theorem d_AR_answerForOwn_44 : decode b_AR_answerForOwn 44 = .ok (.iload_n 3, 1) := by decide +kernel
theorem d_AR_answerForOwn_45 : decode b_AR_answerForOwn 45 = .ok (.aload_n 0, 1) := by decide +kernel
theorem d_AR_answerForOwn_46 : decode b_AR_answerForOwn 46 = .ok (.getfield 19, 3) := by decide +kernel
theorem d_AR_answerForOwn_49 : decode b_AR_answerForOwn 49 = .ok (.iload_n 1, 1) := by decide +kernel
theorem d_AR_answerForOwn_50 : decode b_AR_answerForOwn 50 = .ok (.invokevirtual 55, 3) := by decide +kernel
theorem d_AR_answerForOwn_53 : decode b_AR_answerForOwn 53 = .ok (.invokevirtual 238, 3) := by decide +kernel
theorem d_AR_answerForOwn_56 : decode b_AR_answerForOwn 56 = .ok (.aload 4, 2) := by decide +kernel
theorem d_AR_answerForOwn_58 : decode b_AR_answerForOwn 58 = .ok (.iload_n 3, 1) := by decide +kernel
theorem d_AR_answerForOwn_59 : decode b_AR_answerForOwn 59 = .ok (.invokevirtual 260, 3) := by decide +kernel
theorem d_AR_answerForOwn_62 : decode b_AR_answerForOwn 62 = .ok (.return_, 1) := by decide +kernel
theorem d_Ba_setDueOn_0 : decode b_Ba_setDueOn 0 = .ok (.aload_n 0, 1) := by decide +kernel
theorem d_Ba_setDueOn_1 : decode b_Ba_setDueOn 1 = .ok (.getfield 37, 3) := by decide +kernel
theorem d_Ba_setDueOn_4 : decode b_Ba_setDueOn 4 = .ok (.iload_n 1, 1) := by decide +kernel
theorem d_Ba_setDueOn_5 : decode b_Ba_setDueOn 5 = .ok (.iload_n 2, 1) := by decide +kernel
theorem d_Ba_setDueOn_6 : decode b_Ba_setDueOn 6 = .ok (.iastore, 1) := by decide +kernel
theorem d_Ba_setDueOn_7 : decode b_Ba_setDueOn 7 = .ok (.return_, 1) := by decide +kernel
theorem d_AR_receive_0 : decode b_AR_receive 0 = .ok (.aload_n 0, 1) := by decide +kernel
theorem d_AR_receive_1 : decode b_AR_receive 1 = .ok (.iload_n 1, 1) := by decide +kernel
theorem d_AR_receive_2 : decode b_AR_receive 2 = .ok (.iload_n 3, 1) := by decide +kernel
theorem d_AR_receive_3 : decode b_AR_receive 3 = .ok (.invokevirtual 87, 3) := by decide +kernel
theorem d_AR_receive_6 : decode b_AR_receive 6 = .ok (.astore 6, 2) := by decide +kernel
theorem d_AR_receive_8 : decode b_AR_receive 8 = .ok (.aload 6, 2) := by decide +kernel
theorem d_AR_receive_10 : decode b_AR_receive 10 = .ok (.aload 4, 2) := by decide +kernel
theorem d_AR_receive_12 : decode b_AR_receive 12 = .ok (.iload 5, 2) := by decide +kernel
theorem d_AR_receive_14 : decode b_AR_receive 14 = .ok (.invokevirtual 241, 3) := by decide +kernel
theorem d_AR_receive_17 : decode b_AR_receive 17 = .ok (.istore 7, 2) := by decide +kernel
theorem d_AR_receive_19 : decode b_AR_receive 19 = .ok (.iload 7, 2) := by decide +kernel
theorem d_AR_receive_21 : decode b_AR_receive 21 = .ok (.ifCond .le 22, 3) := by decide +kernel
theorem d_AR_receive_24 : decode b_AR_receive 24 = .ok (.aload 6, 2) := by decide +kernel
theorem d_AR_receive_26 : decode b_AR_receive 26 = .ok (.iload 5, 2) := by decide +kernel
theorem d_AR_receive_28 : decode b_AR_receive 28 = .ok (.iload_n 2, 1) := by decide +kernel
theorem d_AR_receive_29 : decode b_AR_receive 29 = .ok (.iconst 1, 1) := by decide +kernel
theorem d_AR_receive_30 : decode b_AR_receive 30 = .ok (.invokevirtual 105, 3) := by decide +kernel
theorem d_AR_receive_33 : decode b_AR_receive 33 = .ok (.aload 6, 2) := by decide +kernel
theorem d_AR_receive_35 : decode b_AR_receive 35 = .ok (.iload 5, 2) := by decide +kernel
theorem d_AR_receive_37 : decode b_AR_receive 37 = .ok (.iload_n 2, 1) := by decide +kernel
theorem d_AR_receive_38 : decode b_AR_receive 38 = .ok (.iconst 0, 1) := by decide +kernel
theorem d_AR_receive_39 : decode b_AR_receive 39 = .ok (.invokevirtual 120, 3) := by decide +kernel
theorem d_AR_receive_42 : decode b_AR_receive 42 = .ok (.return_, 1) := by decide +kernel
theorem d_AR_receive_43 : decode b_AR_receive 43 = .ok (.iload 7, 2) := by decide +kernel
theorem d_AR_receive_45 : decode b_AR_receive 45 = .ok (.ifCond .ge 55, 3) := by decide +kernel
theorem d_AR_receive_48 : decode b_AR_receive 48 = .ok (.aload 6, 2) := by decide +kernel
theorem d_AR_receive_50 : decode b_AR_receive 50 = .ok (.aload 4, 2) := by decide +kernel
theorem d_AR_receive_52 : decode b_AR_receive 52 = .ok (.iload 5, 2) := by decide +kernel
theorem d_AR_receive_54 : decode b_AR_receive 54 = .ok (.invokevirtual 245, 3) := by decide +kernel
theorem d_AR_receive_57 : decode b_AR_receive 57 = .ok (.iload 5, 2) := by decide +kernel
theorem d_AR_receive_59 : decode b_AR_receive 59 = .ok (.invokestatic 248, 3) := by decide +kernel
theorem d_AR_receive_62 : decode b_AR_receive 62 = .ok (.iload_n 1, 1) := by decide +kernel
theorem d_AR_receive_63 : decode b_AR_receive 63 = .ok (.if_icmp .ne 22, 3) := by decide +kernel
theorem d_AR_receive_66 : decode b_AR_receive 66 = .ok (.aload 6, 2) := by decide +kernel
theorem d_AR_receive_68 : decode b_AR_receive 68 = .ok (.iload 5, 2) := by decide +kernel
theorem d_AR_receive_70 : decode b_AR_receive 70 = .ok (.invokevirtual 235, 3) := by decide +kernel
theorem d_AR_receive_73 : decode b_AR_receive 73 = .ok (.ifCond .eq 12, 3) := by decide +kernel
theorem d_AR_receive_76 : decode b_AR_receive 76 = .ok (.aload_n 0, 1) := by decide +kernel
theorem d_AR_receive_77 : decode b_AR_receive 77 = .ok (.iload_n 1, 1) := by decide +kernel
theorem d_AR_receive_78 : decode b_AR_receive 78 = .ok (.iload_n 3, 1) := by decide +kernel
theorem d_AR_receive_79 : decode b_AR_receive 79 = .ok (.iload 5, 2) := by decide +kernel
theorem d_AR_receive_81 : decode b_AR_receive 81 = .ok (.invokevirtual 251, 3) := by decide +kernel
theorem d_AR_receive_84 : decode b_AR_receive 84 = .ok (.return_, 1) := by decide +kernel
theorem d_AR_receive_85 : decode b_AR_receive 85 = .ok (.aload 6, 2) := by decide +kernel
theorem d_AR_receive_87 : decode b_AR_receive 87 = .ok (.iload 5, 2) := by decide +kernel
theorem d_AR_receive_89 : decode b_AR_receive 89 = .ok (.aload_n 0, 1) := by decide +kernel
theorem d_AR_receive_90 : decode b_AR_receive 90 = .ok (.getfield 19, 3) := by decide +kernel
theorem d_AR_receive_93 : decode b_AR_receive 93 = .ok (.iload_n 1, 1) := by decide +kernel
theorem d_AR_receive_94 : decode b_AR_receive 94 = .ok (.invokevirtual 55, 3) := by decide +kernel
theorem d_AR_receive_97 : decode b_AR_receive 97 = .ok (.invokevirtual 254, 3) := by decide +kernel
theorem d_AR_receive_100 : decode b_AR_receive 100 = .ok (.aload 6, 2) := by decide +kernel
theorem d_AR_receive_102 : decode b_AR_receive 102 = .ok (.iload 5, 2) := by decide +kernel
theorem d_AR_receive_104 : decode b_AR_receive 104 = .ok (.iload_n 2, 1) := by decide +kernel
theorem d_AR_receive_105 : decode b_AR_receive 105 = .ok (.iconst 0, 1) := by decide +kernel
theorem d_AR_receive_106 : decode b_AR_receive 106 = .ok (.invokevirtual 105, 3) := by decide +kernel
theorem d_AR_receive_109 : decode b_AR_receive 109 = .ok (.aload_n 0, 1) := by decide +kernel
theorem d_AR_receive_110 : decode b_AR_receive 110 = .ok (.getfield 19, 3) := by decide +kernel
theorem d_AR_receive_113 : decode b_AR_receive 113 = .ok (.iload_n 2, 1) := by decide +kernel
theorem d_AR_receive_114 : decode b_AR_receive 114 = .ok (.invokevirtual 102, 3) := by decide +kernel
theorem d_AR_receive_117 : decode b_AR_receive 117 = .ok (.ifCond .ne 12, 3) := by decide +kernel
theorem d_AR_receive_120 : decode b_AR_receive 120 = .ok (.aload 6, 2) := by decide +kernel
theorem d_AR_receive_122 : decode b_AR_receive 122 = .ok (.iload 5, 2) := by decide +kernel
theorem d_AR_receive_124 : decode b_AR_receive 124 = .ok (.iload_n 2, 1) := by decide +kernel
theorem d_AR_receive_125 : decode b_AR_receive 125 = .ok (.iconst 1, 1) := by decide +kernel
theorem d_AR_receive_126 : decode b_AR_receive 126 = .ok (.invokevirtual 120, 3) := by decide +kernel
theorem d_AR_receive_129 : decode b_AR_receive 129 = .ok (.return_, 1) := by decide +kernel
theorem d_AR_spread_0 : decode b_AR_spread 0 = .ok (.aload_n 0, 1) := by decide +kernel
theorem d_AR_spread_1 : decode b_AR_spread 1 = .ok (.iload_n 1, 1) := by decide +kernel
theorem d_AR_spread_2 : decode b_AR_spread 2 = .ok (.iload_n 2, 1) := by decide +kernel
theorem d_AR_spread_3 : decode b_AR_spread 3 = .ok (.invokevirtual 73, 3) := by decide +kernel
theorem d_AR_spread_6 : decode b_AR_spread 6 = .ok (.aload_n 0, 1) := by decide +kernel
theorem d_AR_spread_7 : decode b_AR_spread 7 = .ok (.iload_n 1, 1) := by decide +kernel
theorem d_AR_spread_8 : decode b_AR_spread 8 = .ok (.iload_n 3, 1) := by decide +kernel
theorem d_AR_spread_9 : decode b_AR_spread 9 = .ok (.invokevirtual 84, 3) := by decide +kernel
theorem d_AR_spread_12 : decode b_AR_spread 12 = .ok (.aload_n 0, 1) := by decide +kernel
theorem d_AR_spread_13 : decode b_AR_spread 13 = .ok (.iload_n 1, 1) := by decide +kernel
theorem d_AR_spread_14 : decode b_AR_spread 14 = .ok (.iload_n 3, 1) := by decide +kernel
theorem d_AR_spread_15 : decode b_AR_spread 15 = .ok (.invokevirtual 87, 3) := by decide +kernel
theorem d_AR_spread_18 : decode b_AR_spread 18 = .ok (.astore 5, 2) := by decide +kernel
theorem d_AR_spread_20 : decode b_AR_spread 20 = .ok (.iconst 0, 1) := by decide +kernel
theorem d_AR_spread_21 : decode b_AR_spread 21 = .ok (.istore 6, 2) := by decide +kernel
theorem d_AR_spread_23 : decode b_AR_spread 23 = .ok (.iconst 0, 1) := by decide +kernel
theorem d_AR_spread_24 : decode b_AR_spread 24 = .ok (.istore 7, 2) := by decide +kernel
theorem d_AR_spread_26 : decode b_AR_spread 26 = .ok (.iload 7, 2) := by decide +kernel
theorem d_AR_spread_28 : decode b_AR_spread 28 = .ok (.bipush 42, 2) := by decide +kernel
theorem d_AR_spread_30 : decode b_AR_spread 30 = .ok (.if_icmp .ge 85, 3) := by decide +kernel
theorem d_AR_spread_33 : decode b_AR_spread 33 = .ok (.aload 5, 2) := by decide +kernel
theorem d_AR_spread_35 : decode b_AR_spread 35 = .ok (.iload 7, 2) := by decide +kernel
theorem d_AR_spread_37 : decode b_AR_spread 37 = .ok (.iload_n 2, 1) := by decide +kernel
theorem d_AR_spread_38 : decode b_AR_spread 38 = .ok (.invokevirtual 91, 3) := by decide +kernel
theorem d_AR_spread_41 : decode b_AR_spread 41 = .ok (.ifCond .eq 68, 3) := by decide +kernel
theorem d_AR_spread_44 : decode b_AR_spread 44 = .ok (.iinc 6 1, 3) := by decide +kernel
theorem d_AR_spread_47 : decode b_AR_spread 47 = .ok (.iconst 0, 1) := by decide +kernel
theorem d_AR_spread_48 : decode b_AR_spread 48 = .ok (.istore 8, 2) := by decide +kernel
theorem d_AR_spread_50 : decode b_AR_spread 50 = .ok (.iload 8, 2) := by decide +kernel
theorem d_AR_spread_52 : decode b_AR_spread 52 = .ok (.bipush 6, 2) := by decide +kernel
theorem d_AR_spread_54 : decode b_AR_spread 54 = .ok (.if_icmp .ge 35, 3) := by decide +kernel
theorem d_AR_spread_57 : decode b_AR_spread 57 = .ok (.aload_n 0, 1) := by decide +kernel
theorem d_AR_spread_58 : decode b_AR_spread 58 = .ok (.iload 8, 2) := by decide +kernel
theorem d_AR_spread_60 : decode b_AR_spread 60 = .ok (.iload_n 1, 1) := by decide +kernel
theorem d_AR_spread_61 : decode b_AR_spread 61 = .ok (.iload_n 2, 1) := by decide +kernel
theorem d_AR_spread_62 : decode b_AR_spread 62 = .ok (.iload_n 3, 1) := by decide +kernel
theorem d_AR_spread_63 : decode b_AR_spread 63 = .ok (.iload 4, 2) := by decide +kernel
theorem d_AR_spread_65 : decode b_AR_spread 65 = .ok (.invokevirtual 94, 3) := by decide +kernel
theorem d_AR_spread_68 : decode b_AR_spread 68 = .ok (.ifCond .eq 15, 3) := by decide +kernel
theorem d_AR_spread_71 : decode b_AR_spread 71 = .ok (.aload_n 0, 1) := by decide +kernel
