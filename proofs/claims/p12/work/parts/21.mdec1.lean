/-! decode rows -/
theorem d_Mo_raise_0 : decode b_Mo_raise 0 = .ok (.aload_n 0, 1) := by decide +kernel
theorem d_Mo_raise_1 : decode b_Mo_raise 1 = .ok (.iload_n 1, 1) := by decide +kernel
theorem d_Mo_raise_2 : decode b_Mo_raise 2 = .ok (.putfield 71, 3) := by decide +kernel
theorem d_Mo_raise_5 : decode b_Mo_raise 5 = .ok (.iconst 0, 1) := by decide +kernel
theorem d_Mo_raise_6 : decode b_Mo_raise 6 = .ok (.ireturn, 1) := by decide +kernel
theorem d_Mo_isOne_0 : decode b_Mo_isOne 0 = .ok (.iload_n 0, 1) := by decide +kernel
theorem d_Mo_isOne_1 : decode b_Mo_isOne 1 = .ok (.ifCond .lt 12, 3) := by decide +kernel
theorem d_Mo_isOne_4 : decode b_Mo_isOne 4 = .ok (.iload_n 0, 1) := by decide +kernel
theorem d_Mo_isOne_5 : decode b_Mo_isOne 5 = .ok (.iconst 5, 1) := by decide +kernel
theorem d_Mo_isOne_6 : decode b_Mo_isOne 6 = .ok (.if_icmp .gt 7, 3) := by decide +kernel
theorem d_Mo_isOne_9 : decode b_Mo_isOne 9 = .ok (.iconst 1, 1) := by decide +kernel
theorem d_Mo_isOne_10 : decode b_Mo_isOne 10 = .ok (.goto 4, 3) := by decide +kernel
theorem d_Mo_isOne_13 : decode b_Mo_isOne 13 = .ok (.iconst 0, 1) := by decide +kernel
theorem d_Mo_isOne_14 : decode b_Mo_isOne 14 = .ok (.ireturn, 1) := by decide +kernel
theorem d_Mo_has_0 : decode b_Mo_has 0 = .ok (.iload_n 2, 1) := by decide +kernel
theorem d_Mo_has_1 : decode b_Mo_has 1 = .ok (.iconst 1, 1) := by decide +kernel
theorem d_Mo_has_2 : decode b_Mo_has 2 = .ok (.if_icmp .eq 8, 3) := by decide +kernel
theorem d_Mo_has_5 : decode b_Mo_has 5 = .ok (.iload_n 2, 1) := by decide +kernel
theorem d_Mo_has_6 : decode b_Mo_has 6 = .ok (.iconst 2, 1) := by decide +kernel
theorem d_Mo_has_7 : decode b_Mo_has 7 = .ok (.if_icmp .ne 18, 3) := by decide +kernel
theorem d_Mo_has_10 : decode b_Mo_has 10 = .ok (.aload_n 0, 1) := by decide +kernel
theorem d_Mo_has_11 : decode b_Mo_has 11 = .ok (.getfield 13, 3) := by decide +kernel
theorem d_Mo_has_14 : decode b_Mo_has 14 = .ok (.iload_n 1, 1) := by decide +kernel
theorem d_Mo_has_15 : decode b_Mo_has 15 = .ok (.iaload, 1) := by decide +kernel
theorem d_Mo_has_16 : decode b_Mo_has 16 = .ok (.iload_n 2, 1) := by decide +kernel
theorem d_Mo_has_17 : decode b_Mo_has 17 = .ok (.iand, 1) := by decide +kernel
theorem d_Mo_has_18 : decode b_Mo_has 18 = .ok (.ifCond .eq 7, 3) := by decide +kernel
theorem d_Mo_has_21 : decode b_Mo_has 21 = .ok (.iconst 1, 1) := by decide +kernel
theorem d_Mo_has_22 : decode b_Mo_has 22 = .ok (.goto 4, 3) := by decide +kernel
theorem d_Mo_has_25 : decode b_Mo_has 25 = .ok (.iconst 0, 1) := by decide +kernel
theorem d_Mo_has_26 : decode b_Mo_has 26 = .ok (.ireturn, 1) := by decide +kernel
theorem d_Mo_isOn_0 : decode b_Mo_isOn 0 = .ok (.aload_n 0, 1) := by decide +kernel
theorem d_Mo_isOn_1 : decode b_Mo_isOn 1 = .ok (.getfield 20, 3) := by decide +kernel
theorem d_Mo_isOn_4 : decode b_Mo_isOn 4 = .ok (.bipush 6, 2) := by decide +kernel
theorem d_Mo_isOn_6 : decode b_Mo_isOn 6 = .ok (.iload_n 1, 1) := by decide +kernel
theorem d_Mo_isOn_7 : decode b_Mo_isOn 7 = .ok (.imul, 1) := by decide +kernel
theorem d_Mo_isOn_8 : decode b_Mo_isOn 8 = .ok (.iload_n 2, 1) := by decide +kernel
theorem d_Mo_isOn_9 : decode b_Mo_isOn 9 = .ok (.iadd, 1) := by decide +kernel
theorem d_Mo_isOn_10 : decode b_Mo_isOn 10 = .ok (.iaload, 1) := by decide +kernel
theorem d_Mo_isOn_11 : decode b_Mo_isOn 11 = .ok (.ifCond .le 7, 3) := by decide +kernel
theorem d_Mo_isOn_14 : decode b_Mo_isOn 14 = .ok (.iconst 1, 1) := by decide +kernel
theorem d_Mo_isOn_15 : decode b_Mo_isOn 15 = .ok (.goto 4, 3) := by decide +kernel
theorem d_Mo_isOn_18 : decode b_Mo_isOn 18 = .ok (.iconst 0, 1) := by decide +kernel
theorem d_Mo_isOn_19 : decode b_Mo_isOn 19 = .ok (.ireturn, 1) := by decide +kernel
theorem d_Mo_circuits_0 : decode b_Mo_circuits 0 = .ok (.iconst 0, 1) := by decide +kernel
theorem d_Mo_circuits_1 : decode b_Mo_circuits 1 = .ok (.istore_n 2, 1) := by decide +kernel
theorem d_Mo_circuits_2 : decode b_Mo_circuits 2 = .ok (.iconst 0, 1) := by decide +kernel
theorem d_Mo_circuits_3 : decode b_Mo_circuits 3 = .ok (.istore_n 3, 1) := by decide +kernel
theorem d_Mo_circuits_4 : decode b_Mo_circuits 4 = .ok (.iload_n 3, 1) := by decide +kernel
theorem d_Mo_circuits_5 : decode b_Mo_circuits 5 = .ok (.bipush 6, 2) := by decide +kernel
theorem d_Mo_circuits_7 : decode b_Mo_circuits 7 = .ok (.if_icmp .ge 28, 3) := by decide +kernel
theorem d_Mo_circuits_10 : decode b_Mo_circuits 10 = .ok (.iload_n 2, 1) := by decide +kernel
theorem d_Mo_circuits_11 : decode b_Mo_circuits 11 = .ok (.aload_n 0, 1) := by decide +kernel
theorem d_Mo_circuits_12 : decode b_Mo_circuits 12 = .ok (.iload_n 1, 1) := by decide +kernel
theorem d_Mo_circuits_13 : decode b_Mo_circuits 13 = .ok (.iload_n 3, 1) := by decide +kernel
theorem d_Mo_circuits_14 : decode b_Mo_circuits 14 = .ok (.invokevirtual 75, 3) := by decide +kernel
theorem d_Mo_circuits_17 : decode b_Mo_circuits 17 = .ok (.ifCond .eq 9, 3) := by decide +kernel
theorem d_Mo_circuits_20 : decode b_Mo_circuits 20 = .ok (.iconst 1, 1) := by decide +kernel
theorem d_Mo_circuits_21 : decode b_Mo_circuits 21 = .ok (.iload_n 3, 1) := by decide +kernel
theorem d_Mo_circuits_22 : decode b_Mo_circuits 22 = .ok (.ishl, 1) := by decide +kernel
theorem d_Mo_circuits_23 : decode b_Mo_circuits 23 = .ok (.goto 4, 3) := by decide +kernel
theorem d_Mo_circuits_26 : decode b_Mo_circuits 26 = .ok (.iconst 0, 1) := by decide +kernel
theorem d_Mo_circuits_27 : decode b_Mo_circuits 27 = .ok (.ior, 1) := by decide +kernel
theorem d_Mo_circuits_28 : decode b_Mo_circuits 28 = .ok (.istore_n 2, 1) := by decide +kernel
theorem d_Mo_circuits_29 : decode b_Mo_circuits 29 = .ok (.iinc 3 1, 3) := by decide +kernel
theorem d_Mo_circuits_32 : decode b_Mo_circuits 32 = .ok (.goto (-28), 3) := by decide +kernel
theorem d_Mo_circuits_35 : decode b_Mo_circuits 35 = .ok (.iload_n 2, 1) := by decide +kernel
theorem d_Mo_circuits_36 : decode b_Mo_circuits 36 = .ok (.ireturn, 1) := by decide +kernel
theorem d_Mo_attached_0 : decode b_Mo_attached 0 = .ok (.iconst 0, 1) := by decide +kernel
theorem d_Mo_attached_1 : decode b_Mo_attached 1 = .ok (.istore_n 2, 1) := by decide +kernel
theorem d_Mo_attached_2 : decode b_Mo_attached 2 = .ok (.iconst 0, 1) := by decide +kernel
theorem d_Mo_attached_3 : decode b_Mo_attached 3 = .ok (.istore_n 3, 1) := by decide +kernel
theorem d_Mo_attached_4 : decode b_Mo_attached 4 = .ok (.iload_n 3, 1) := by decide +kernel
theorem d_Mo_attached_5 : decode b_Mo_attached 5 = .ok (.bipush 6, 2) := by decide +kernel
theorem d_Mo_attached_7 : decode b_Mo_attached 7 = .ok (.if_icmp .ge 26, 3) := by decide +kernel
theorem d_Mo_attached_10 : decode b_Mo_attached 10 = .ok (.iload_n 2, 1) := by decide +kernel
theorem d_Mo_attached_11 : decode b_Mo_attached 11 = .ok (.aload_n 0, 1) := by decide +kernel
theorem d_Mo_attached_12 : decode b_Mo_attached 12 = .ok (.iload_n 3, 1) := by decide +kernel
theorem d_Mo_attached_13 : decode b_Mo_attached 13 = .ok (.iload_n 1, 1) := by decide +kernel
theorem d_Mo_attached_14 : decode b_Mo_attached 14 = .ok (.invokevirtual 75, 3) := by decide +kernel
theorem d_Mo_attached_17 : decode b_Mo_attached 17 = .ok (.ifCond .eq 7, 3) := by decide +kernel
theorem d_Mo_attached_20 : decode b_Mo_attached 20 = .ok (.iconst 1, 1) := by decide +kernel
theorem d_Mo_attached_21 : decode b_Mo_attached 21 = .ok (.goto 4, 3) := by decide +kernel
theorem d_Mo_attached_24 : decode b_Mo_attached 24 = .ok (.iconst 0, 1) := by decide +kernel
theorem d_Mo_attached_25 : decode b_Mo_attached 25 = .ok (.iadd, 1) := by decide +kernel
theorem d_Mo_attached_26 : decode b_Mo_attached 26 = .ok (.istore_n 2, 1) := by decide +kernel
theorem d_Mo_attached_27 : decode b_Mo_attached 27 = .ok (.iinc 3 1, 3) := by decide +kernel
theorem d_Mo_attached_30 : decode b_Mo_attached 30 = .ok (.goto (-26), 3) := by decide +kernel
theorem d_Mo_attached_33 : decode b_Mo_attached 33 = .ok (.iload_n 2, 1) := by decide +kernel
theorem d_Mo_attached_34 : decode b_Mo_attached 34 = .ok (.ireturn, 1) := by decide +kernel
theorem d_Mo_isShared_0 : decode b_Mo_isShared 0 = .ok (.aload_n 0, 1) := by decide +kernel
theorem d_Mo_isShared_1 : decode b_Mo_isShared 1 = .ok (.iload_n 1, 1) := by decide +kernel
theorem d_Mo_isShared_2 : decode b_Mo_isShared 2 = .ok (.invokevirtual 79, 3) := by decide +kernel
theorem d_Mo_isShared_5 : decode b_Mo_isShared 5 = .ok (.iconst 2, 1) := by decide +kernel
theorem d_Mo_isShared_6 : decode b_Mo_isShared 6 = .ok (.if_icmp .le 7, 3) := by decide +kernel
theorem d_Mo_isShared_9 : decode b_Mo_isShared 9 = .ok (.iconst 1, 1) := by decide +kernel
theorem d_Mo_isShared_10 : decode b_Mo_isShared 10 = .ok (.goto 4, 3) := by decide +kernel
theorem d_Mo_isShared_13 : decode b_Mo_isShared 13 = .ok (.iconst 0, 1) := by decide +kernel
theorem d_Mo_isShared_14 : decode b_Mo_isShared 14 = .ok (.ireturn, 1) := by decide +kernel
theorem d_Mo_ear_0 : decode b_Mo_ear 0 = .ok (.sipush 216, 3) := by decide +kernel
theorem d_Mo_ear_3 : decode b_Mo_ear 3 = .ok (.iload_n 2, 1) := by decide +kernel
theorem d_Mo_ear_4 : decode b_Mo_ear 4 = .ok (.iconst 1, 1) := by decide +kernel
theorem d_Mo_ear_5 : decode b_Mo_ear 5 = .ok (.isub, 1) := by decide +kernel
theorem d_Mo_ear_6 : decode b_Mo_ear 6 = .ok (.imul, 1) := by decide +kernel
theorem d_Mo_ear_7 : decode b_Mo_ear 7 = .ok (.bipush 36, 2) := by decide +kernel
theorem d_Mo_ear_9 : decode b_Mo_ear 9 = .ok (.iload_n 0, 1) := by decide +kernel
theorem d_Mo_ear_10 : decode b_Mo_ear 10 = .ok (.imul, 1) := by decide +kernel
theorem d_Mo_ear_11 : decode b_Mo_ear 11 = .ok (.iadd, 1) := by decide +kernel
theorem d_Mo_ear_12 : decode b_Mo_ear 12 = .ok (.bipush 6, 2) := by decide +kernel
theorem d_Mo_ear_14 : decode b_Mo_ear 14 = .ok (.iload_n 1, 1) := by decide +kernel
theorem d_Mo_ear_15 : decode b_Mo_ear 15 = .ok (.imul, 1) := by decide +kernel
theorem d_Mo_ear_16 : decode b_Mo_ear 16 = .ok (.iadd, 1) := by decide +kernel
theorem d_Mo_ear_17 : decode b_Mo_ear 17 = .ok (.iload_n 3, 1) := by decide +kernel
theorem d_Mo_ear_18 : decode b_Mo_ear 18 = .ok (.iadd, 1) := by decide +kernel
theorem d_Mo_ear_19 : decode b_Mo_ear 19 = .ok (.ireturn, 1) := by decide +kernel
theorem d_Mo_near_0 : decode b_Mo_near 0 = .ok (.iload_n 1, 1) := by decide +kernel
theorem d_Mo_near_1 : decode b_Mo_near 1 = .ok (.iload_n 2, 1) := by decide +kernel
theorem d_Mo_near_2 : decode b_Mo_near 2 = .ok (.iload_n 3, 1) := by decide +kernel
theorem d_Mo_near_3 : decode b_Mo_near 3 = .ok (.iload 4, 2) := by decide +kernel
theorem d_Mo_near_5 : decode b_Mo_near 5 = .ok (.invokestatic 83, 3) := by decide +kernel
theorem d_Mo_near_8 : decode b_Mo_near 8 = .ok (.istore 5, 2) := by decide +kernel
theorem d_Mo_near_10 : decode b_Mo_near 10 = .ok (.aload_n 0, 1) := by decide +kernel
theorem d_Mo_near_11 : decode b_Mo_near 11 = .ok (.getfield 26, 3) := by decide +kernel
theorem d_Mo_near_14 : decode b_Mo_near 14 = .ok (.iload 5, 2) := by decide +kernel
theorem d_Mo_near_16 : decode b_Mo_near 16 = .ok (.iaload, 1) := by decide +kernel
theorem d_Mo_near_17 : decode b_Mo_near 17 = .ok (.ifCond .le 17, 3) := by decide +kernel
theorem d_Mo_near_20 : decode b_Mo_near 20 = .ok (.aload_n 0, 1) := by decide +kernel
theorem d_Mo_near_21 : decode b_Mo_near 21 = .ok (.getfield 29, 3) := by decide +kernel
theorem d_Mo_near_24 : decode b_Mo_near 24 = .ok (.iload 5, 2) := by decide +kernel
theorem d_Mo_near_26 : decode b_Mo_near 26 = .ok (.baload, 1) := by decide +kernel
theorem d_Mo_near_27 : decode b_Mo_near 27 = .ok (.ifCond .eq 7, 3) := by decide +kernel
theorem d_Mo_near_30 : decode b_Mo_near 30 = .ok (.iconst 1, 1) := by decide +kernel
theorem d_Mo_near_31 : decode b_Mo_near 31 = .ok (.goto 4, 3) := by decide +kernel
theorem d_Mo_near_34 : decode b_Mo_near 34 = .ok (.iconst 0, 1) := by decide +kernel
theorem d_Mo_near_35 : decode b_Mo_near 35 = .ok (.ireturn, 1) := by decide +kernel
theorem d_Mo_anyNear_0 : decode b_Mo_anyNear 0 = .ok (.iconst 0, 1) := by decide +kernel
theorem d_Mo_anyNear_1 : decode b_Mo_anyNear 1 = .ok (.istore 4, 2) := by decide +kernel
theorem d_Mo_anyNear_3 : decode b_Mo_anyNear 3 = .ok (.iconst 0, 1) := by decide +kernel
theorem d_Mo_anyNear_4 : decode b_Mo_anyNear 4 = .ok (.istore 5, 2) := by decide +kernel
theorem d_Mo_anyNear_6 : decode b_Mo_anyNear 6 = .ok (.iload 5, 2) := by decide +kernel
theorem d_Mo_anyNear_8 : decode b_Mo_anyNear 8 = .ok (.bipush 6, 2) := by decide +kernel
theorem d_Mo_anyNear_10 : decode b_Mo_anyNear 10 = .ok (.if_icmp .ge 33, 3) := by decide +kernel
theorem d_Mo_anyNear_13 : decode b_Mo_anyNear 13 = .ok (.iload 4, 2) := by decide +kernel
theorem d_Mo_anyNear_15 : decode b_Mo_anyNear 15 = .ok (.ifCond .ne 15, 3) := by decide +kernel
theorem d_Mo_anyNear_18 : decode b_Mo_anyNear 18 = .ok (.aload_n 0, 1) := by decide +kernel
theorem d_Mo_anyNear_19 : decode b_Mo_anyNear 19 = .ok (.iload_n 1, 1) := by decide +kernel
theorem d_Mo_anyNear_20 : decode b_Mo_anyNear 20 = .ok (.iload_n 2, 1) := by decide +kernel
theorem d_Mo_anyNear_21 : decode b_Mo_anyNear 21 = .ok (.iload_n 3, 1) := by decide +kernel
theorem d_Mo_anyNear_22 : decode b_Mo_anyNear 22 = .ok (.iload 5, 2) := by decide +kernel
theorem d_Mo_anyNear_24 : decode b_Mo_anyNear 24 = .ok (.invokevirtual 87, 3) := by decide +kernel
theorem d_Mo_anyNear_27 : decode b_Mo_anyNear 27 = .ok (.ifCond .eq 7, 3) := by decide +kernel
theorem d_Mo_anyNear_30 : decode b_Mo_anyNear 30 = .ok (.iconst 1, 1) := by decide +kernel
theorem d_Mo_anyNear_31 : decode b_Mo_anyNear 31 = .ok (.goto 4, 3) := by decide +kernel
theorem d_Mo_anyNear_34 : decode b_Mo_anyNear 34 = .ok (.iconst 0, 1) := by decide +kernel
theorem d_Mo_anyNear_35 : decode b_Mo_anyNear 35 = .ok (.istore 4, 2) := by decide +kernel
theorem d_Mo_anyNear_37 : decode b_Mo_anyNear 37 = .ok (.iinc 5 1, 3) := by decide +kernel
theorem d_Mo_anyNear_40 : decode b_Mo_anyNear 40 = .ok (.goto (-34), 3) := by decide +kernel
theorem d_Mo_anyNear_43 : decode b_Mo_anyNear 43 = .ok (.iload 4, 2) := by decide +kernel
theorem d_Mo_anyNear_45 : decode b_Mo_anyNear 45 = .ok (.ireturn, 1) := by decide +kernel
theorem d_Mo_speakerOf_0 : decode b_Mo_speakerOf 0 = .ok (.iload_n 1, 1) := by decide +kernel
theorem d_Mo_speakerOf_1 : decode b_Mo_speakerOf 1 = .ok (.istore 4, 2) := by decide +kernel
theorem d_Mo_speakerOf_3 : decode b_Mo_speakerOf 3 = .ok (.iconst 0, 1) := by decide +kernel
theorem d_Mo_speakerOf_4 : decode b_Mo_speakerOf 4 = .ok (.istore 5, 2) := by decide +kernel
theorem d_Mo_speakerOf_6 : decode b_Mo_speakerOf 6 = .ok (.iload 5, 2) := by decide +kernel
theorem d_Mo_speakerOf_8 : decode b_Mo_speakerOf 8 = .ok (.bipush 6, 2) := by decide +kernel
theorem d_Mo_speakerOf_10 : decode b_Mo_speakerOf 10 = .ok (.if_icmp .ge 79, 3) := by decide +kernel
theorem d_Mo_speakerOf_13 : decode b_Mo_speakerOf 13 = .ok (.aload_n 0, 1) := by decide +kernel
theorem d_Mo_speakerOf_14 : decode b_Mo_speakerOf 14 = .ok (.iload_n 1, 1) := by decide +kernel
theorem d_Mo_speakerOf_15 : decode b_Mo_speakerOf 15 = .ok (.iload_n 2, 1) := by decide +kernel
theorem d_Mo_speakerOf_16 : decode b_Mo_speakerOf 16 = .ok (.iload_n 3, 1) := by decide +kernel
theorem d_Mo_speakerOf_17 : decode b_Mo_speakerOf 17 = .ok (.iload 5, 2) := by decide +kernel
theorem d_Mo_speakerOf_19 : decode b_Mo_speakerOf 19 = .ok (.invokevirtual 87, 3) := by decide +kernel
theorem d_Mo_speakerOf_22 : decode b_Mo_speakerOf 22 = .ok (.ifCond .eq 61, 3) := by decide +kernel
theorem d_Mo_speakerOf_25 : decode b_Mo_speakerOf 25 = .ok (.aload_n 0, 1) := by decide +kernel
theorem d_Mo_speakerOf_26 : decode b_Mo_speakerOf 26 = .ok (.getfield 23, 3) := by decide +kernel
theorem d_Mo_speakerOf_29 : decode b_Mo_speakerOf 29 = .ok (.bipush 6, 2) := by decide +kernel
theorem d_Mo_speakerOf_31 : decode b_Mo_speakerOf 31 = .ok (.iload 5, 2) := by decide +kernel
theorem d_Mo_speakerOf_33 : decode b_Mo_speakerOf 33 = .ok (.imul, 1) := by decide +kernel
theorem d_Mo_speakerOf_34 : decode b_Mo_speakerOf 34 = .ok (.iload_n 2, 1) := by decide +kernel
theorem d_Mo_speakerOf_35 : decode b_Mo_speakerOf 35 = .ok (.iadd, 1) := by decide +kernel
theorem d_Mo_speakerOf_36 : decode b_Mo_speakerOf 36 = .ok (.iaload, 1) := by decide +kernel
theorem d_Mo_speakerOf_37 : decode b_Mo_speakerOf 37 = .ok (.istore 6, 2) := by decide +kernel
theorem d_Mo_speakerOf_39 : decode b_Mo_speakerOf 39 = .ok (.aload_n 0, 1) := by decide +kernel
theorem d_Mo_speakerOf_40 : decode b_Mo_speakerOf 40 = .ok (.getfield 23, 3) := by decide +kernel
theorem d_Mo_speakerOf_43 : decode b_Mo_speakerOf 43 = .ok (.bipush 6, 2) := by decide +kernel
theorem d_Mo_speakerOf_45 : decode b_Mo_speakerOf 45 = .ok (.iload 4, 2) := by decide +kernel
theorem d_Mo_speakerOf_47 : decode b_Mo_speakerOf 47 = .ok (.imul, 1) := by decide +kernel
theorem d_Mo_speakerOf_48 : decode b_Mo_speakerOf 48 = .ok (.iload_n 2, 1) := by decide +kernel
theorem d_Mo_speakerOf_49 : decode b_Mo_speakerOf 49 = .ok (.iadd, 1) := by decide +kernel
theorem d_Mo_speakerOf_50 : decode b_Mo_speakerOf 50 = .ok (.iaload, 1) := by decide +kernel
theorem d_Mo_speakerOf_51 : decode b_Mo_speakerOf 51 = .ok (.istore 7, 2) := by decide +kernel
theorem d_Mo_speakerOf_53 : decode b_Mo_speakerOf 53 = .ok (.iload 6, 2) := by decide +kernel
theorem d_Mo_speakerOf_55 : decode b_Mo_speakerOf 55 = .ok (.iload 7, 2) := by decide +kernel
theorem d_Mo_speakerOf_57 : decode b_Mo_speakerOf 57 = .ok (.if_icmp .gt 17, 3) := by decide +kernel
theorem d_Mo_speakerOf_60 : decode b_Mo_speakerOf 60 = .ok (.iload 6, 2) := by decide +kernel
theorem d_Mo_speakerOf_62 : decode b_Mo_speakerOf 62 = .ok (.iload 7, 2) := by decide +kernel
theorem d_Mo_speakerOf_64 : decode b_Mo_speakerOf 64 = .ok (.if_icmp .ne 15, 3) := by decide +kernel
theorem d_Mo_speakerOf_67 : decode b_Mo_speakerOf 67 = .ok (.iload 5, 2) := by decide +kernel
theorem d_Mo_speakerOf_69 : decode b_Mo_speakerOf 69 = .ok (.iload 4, 2) := by decide +kernel
theorem d_Mo_speakerOf_71 : decode b_Mo_speakerOf 71 = .ok (.if_icmp .le 8, 3) := by decide +kernel
theorem d_Mo_speakerOf_74 : decode b_Mo_speakerOf 74 = .ok (.iload 5, 2) := by decide +kernel
theorem d_Mo_speakerOf_76 : decode b_Mo_speakerOf 76 = .ok (.goto 5, 3) := by decide +kernel
theorem d_Mo_speakerOf_79 : decode b_Mo_speakerOf 79 = .ok (.iload 4, 2) := by decide +kernel
theorem d_Mo_speakerOf_81 : decode b_Mo_speakerOf 81 = .ok (.istore 4, 2) := by decide +kernel
theorem d_Mo_speakerOf_83 : decode b_Mo_speakerOf 83 = .ok (.iinc 5 1, 3) := by decide +kernel
theorem d_Mo_speakerOf_86 : decode b_Mo_speakerOf 86 = .ok (.goto (-80), 3) := by decide +kernel
theorem d_Mo_speakerOf_89 : decode b_Mo_speakerOf 89 = .ok (.iload 4, 2) := by decide +kernel
theorem d_Mo_speakerOf_91 : decode b_Mo_speakerOf 91 = .ok (.ireturn, 1) := by decide +kernel
theorem d_Mo_barred_0 : decode b_Mo_barred 0 = .ok (.iload_n 1, 1) := by decide +kernel
theorem d_Mo_barred_1 : decode b_Mo_barred 1 = .ok (.invokestatic 91, 3) := by decide +kernel
theorem d_Mo_barred_4 : decode b_Mo_barred 4 = .ok (.ifCond .eq 10, 3) := by decide +kernel
theorem d_Mo_barred_7 : decode b_Mo_barred 7 = .ok (.iload_n 2, 1) := by decide +kernel
theorem d_Mo_barred_8 : decode b_Mo_barred 8 = .ok (.invokestatic 91, 3) := by decide +kernel
theorem d_Mo_barred_11 : decode b_Mo_barred 11 = .ok (.ifCond .ne 7, 3) := by decide +kernel
theorem d_Mo_barred_14 : decode b_Mo_barred 14 = .ok (.iconst 1, 1) := by decide +kernel
theorem d_Mo_barred_15 : decode b_Mo_barred 15 = .ok (.goto 17, 3) := by decide +kernel
theorem d_Mo_barred_18 : decode b_Mo_barred 18 = .ok (.aload_n 0, 1) := by decide +kernel
theorem d_Mo_barred_19 : decode b_Mo_barred 19 = .ok (.iload_n 1, 1) := by decide +kernel
theorem d_Mo_barred_20 : decode b_Mo_barred 20 = .ok (.iload_n 2, 1) := by decide +kernel
theorem d_Mo_barred_21 : decode b_Mo_barred 21 = .ok (.invokevirtual 75, 3) := by decide +kernel
theorem d_Mo_barred_24 : decode b_Mo_barred 24 = .ok (.ifCond .ne 7, 3) := by decide +kernel
theorem d_Mo_barred_27 : decode b_Mo_barred 27 = .ok (.iconst 2, 1) := by decide +kernel
theorem d_Mo_barred_28 : decode b_Mo_barred 28 = .ok (.goto 4, 3) := by decide +kernel
theorem d_Mo_barred_31 : decode b_Mo_barred 31 = .ok (.iconst 0, 1) := by decide +kernel
theorem d_Mo_barred_32 : decode b_Mo_barred 32 = .ok (.ireturn, 1) := by decide +kernel
theorem d_Mo_barredAt_0 : decode b_Mo_barredAt 0 = .ok (.aload_n 0, 1) := by decide +kernel
theorem d_Mo_barredAt_1 : decode b_Mo_barredAt 1 = .ok (.iload_n 1, 1) := by decide +kernel
theorem d_Mo_barredAt_2 : decode b_Mo_barredAt 2 = .ok (.iload_n 2, 1) := by decide +kernel
theorem d_Mo_barredAt_3 : decode b_Mo_barredAt 3 = .ok (.invokevirtual 95, 3) := by decide +kernel
theorem d_Mo_barredAt_6 : decode b_Mo_barredAt 6 = .ok (.istore 4, 2) := by decide +kernel
theorem d_Mo_barredAt_8 : decode b_Mo_barredAt 8 = .ok (.iload 4, 2) := by decide +kernel
theorem d_Mo_barredAt_10 : decode b_Mo_barredAt 10 = .ok (.ifCond .le 8, 3) := by decide +kernel
theorem d_Mo_barredAt_13 : decode b_Mo_barredAt 13 = .ok (.iload 4, 2) := by decide +kernel
theorem d_Mo_barredAt_15 : decode b_Mo_barredAt 15 = .ok (.goto 17, 3) := by decide +kernel
theorem d_Mo_barredAt_18 : decode b_Mo_barredAt 18 = .ok (.aload_n 0, 1) := by decide +kernel
theorem d_Mo_barredAt_19 : decode b_Mo_barredAt 19 = .ok (.iload_n 1, 1) := by decide +kernel
theorem d_Mo_barredAt_20 : decode b_Mo_barredAt 20 = .ok (.iload_n 3, 1) := by decide +kernel
theorem d_Mo_barredAt_21 : decode b_Mo_barredAt 21 = .ok (.invokevirtual 99, 3) := by decide +kernel
theorem d_Mo_barredAt_24 : decode b_Mo_barredAt 24 = .ok (.ifCond .ne 7, 3) := by decide +kernel
theorem d_Mo_barredAt_27 : decode b_Mo_barredAt 27 = .ok (.iconst 3, 1) := by decide +kernel
theorem d_Mo_barredAt_28 : decode b_Mo_barredAt 28 = .ok (.goto 4, 3) := by decide +kernel
theorem d_Mo_barredAt_31 : decode b_Mo_barredAt 31 = .ok (.iconst 0, 1) := by decide +kernel
theorem d_Mo_barredAt_32 : decode b_Mo_barredAt 32 = .ok (.ireturn, 1) := by decide +kernel
theorem d_Mo_receives_0 : decode b_Mo_receives 0 = .ok (.iload_n 1, 1) := by decide +kernel
theorem d_Mo_receives_1 : decode b_Mo_receives 1 = .ok (.iload_n 2, 1) := by decide +kernel
theorem d_Mo_receives_2 : decode b_Mo_receives 2 = .ok (.if_icmp .eq 26, 3) := by decide +kernel
theorem d_Mo_receives_5 : decode b_Mo_receives 5 = .ok (.aload_n 0, 1) := by decide +kernel
theorem d_Mo_receives_6 : decode b_Mo_receives 6 = .ok (.iload_n 1, 1) := by decide +kernel
theorem d_Mo_receives_7 : decode b_Mo_receives 7 = .ok (.iload_n 3, 1) := by decide +kernel
theorem d_Mo_receives_8 : decode b_Mo_receives 8 = .ok (.invokevirtual 75, 3) := by decide +kernel
theorem d_Mo_receives_11 : decode b_Mo_receives 11 = .ok (.ifCond .eq 17, 3) := by decide +kernel
theorem d_Mo_receives_14 : decode b_Mo_receives 14 = .ok (.iload 4, 2) := by decide +kernel
theorem d_Mo_receives_16 : decode b_Mo_receives 16 = .ok (.iload_n 1, 1) := by decide +kernel
theorem d_Mo_receives_17 : decode b_Mo_receives 17 = .ok (.ishr, 1) := by decide +kernel
theorem d_Mo_receives_18 : decode b_Mo_receives 18 = .ok (.iconst 1, 1) := by decide +kernel
theorem d_Mo_receives_19 : decode b_Mo_receives 19 = .ok (.iand, 1) := by decide +kernel
theorem d_Mo_receives_20 : decode b_Mo_receives 20 = .ok (.iconst 1, 1) := by decide +kernel
theorem d_Mo_receives_21 : decode b_Mo_receives 21 = .ok (.if_icmp .ne 7, 3) := by decide +kernel
theorem d_Mo_receives_24 : decode b_Mo_receives 24 = .ok (.iconst 1, 1) := by decide +kernel
theorem d_Mo_receives_25 : decode b_Mo_receives 25 = .ok (.goto 4, 3) := by decide +kernel
theorem d_Mo_receives_28 : decode b_Mo_receives 28 = .ok (.iconst 0, 1) := by decide +kernel
theorem d_Mo_receives_29 : decode b_Mo_receives 29 = .ok (.ireturn, 1) := by decide +kernel
theorem d_Mo_hello_0 : decode b_Mo_hello 0 = .ok (.aload_n 0, 1) := by decide +kernel
theorem d_Mo_hello_1 : decode b_Mo_hello 1 = .ok (.iload_n 1, 1) := by decide +kernel
theorem d_Mo_hello_2 : decode b_Mo_hello 2 = .ok (.iload_n 2, 1) := by decide +kernel
theorem d_Mo_hello_3 : decode b_Mo_hello 3 = .ok (.invokevirtual 95, 3) := by decide +kernel
theorem d_Mo_hello_6 : decode b_Mo_hello 6 = .ok (.istore 4, 2) := by decide +kernel
theorem d_Mo_hello_8 : decode b_Mo_hello 8 = .ok (.iload 4, 2) := by decide +kernel
theorem d_Mo_hello_10 : decode b_Mo_hello 10 = .ok (.ifCond .le 10, 3) := by decide +kernel
theorem d_Mo_hello_13 : decode b_Mo_hello 13 = .ok (.aload_n 0, 1) := by decide +kernel
theorem d_Mo_hello_14 : decode b_Mo_hello 14 = .ok (.iload 4, 2) := by decide +kernel
theorem d_Mo_hello_16 : decode b_Mo_hello 16 = .ok (.invokevirtual 102, 3) := by decide +kernel
theorem d_Mo_hello_19 : decode b_Mo_hello 19 = .ok (.ireturn, 1) := by decide +kernel
theorem d_Mo_hello_20 : decode b_Mo_hello 20 = .ok (.aload_n 0, 1) := by decide +kernel
theorem d_Mo_hello_21 : decode b_Mo_hello 21 = .ok (.iconst 0, 1) := by decide +kernel
theorem d_Mo_hello_22 : decode b_Mo_hello 22 = .ok (.putfield 71, 3) := by decide +kernel
theorem d_Mo_hello_25 : decode b_Mo_hello 25 = .ok (.iconst 0, 1) := by decide +kernel
theorem d_Mo_hello_26 : decode b_Mo_hello 26 = .ok (.istore 5, 2) := by decide +kernel
theorem d_Mo_hello_28 : decode b_Mo_hello 28 = .ok (.iconst 0, 1) := by decide +kernel
theorem d_Mo_hello_29 : decode b_Mo_hello 29 = .ok (.istore 6, 2) := by decide +kernel
theorem d_Mo_hello_31 : decode b_Mo_hello 31 = .ok (.iload 6, 2) := by decide +kernel
theorem d_Mo_hello_33 : decode b_Mo_hello 33 = .ok (.bipush 6, 2) := by decide +kernel
theorem d_Mo_hello_35 : decode b_Mo_hello 35 = .ok (.if_icmp .ge 130, 3) := by decide +kernel
theorem d_Mo_hello_38 : decode b_Mo_hello 38 = .ok (.aload_n 0, 1) := by decide +kernel
theorem d_Mo_hello_39 : decode b_Mo_hello 39 = .ok (.iload 6, 2) := by decide +kernel
theorem d_Mo_hello_41 : decode b_Mo_hello 41 = .ok (.iload_n 1, 1) := by decide +kernel
theorem d_Mo_hello_42 : decode b_Mo_hello 42 = .ok (.iload_n 2, 1) := by decide +kernel
theorem d_Mo_hello_43 : decode b_Mo_hello 43 = .ok (.iload_n 3, 1) := by decide +kernel
theorem d_Mo_hello_44 : decode b_Mo_hello 44 = .ok (.invokevirtual 105, 3) := by decide +kernel
theorem d_Mo_hello_47 : decode b_Mo_hello 47 = .ok (.ifCond .eq 112, 3) := by decide +kernel
theorem d_Mo_hello_50 : decode b_Mo_hello 50 = .ok (.iinc 5 1, 3) := by decide +kernel
theorem d_Mo_hello_53 : decode b_Mo_hello 53 = .ok (.iconst 1, 1) := by decide +kernel
theorem d_Mo_hello_54 : decode b_Mo_hello 54 = .ok (.istore 7, 2) := by decide +kernel
theorem d_Mo_hello_56 : decode b_Mo_hello 56 = .ok (.iload 7, 2) := by decide +kernel
theorem d_Mo_hello_58 : decode b_Mo_hello 58 = .ok (.iconst 2, 1) := by decide +kernel
theorem d_Mo_hello_59 : decode b_Mo_hello 59 = .ok (.if_icmp .gt 100, 3) := by decide +kernel
theorem d_Mo_hello_62 : decode b_Mo_hello 62 = .ok (.aload_n 0, 1) := by decide +kernel
theorem d_Mo_hello_63 : decode b_Mo_hello 63 = .ok (.iload 6, 2) := by decide +kernel
theorem d_Mo_hello_65 : decode b_Mo_hello 65 = .ok (.iload 7, 2) := by decide +kernel
theorem d_Mo_hello_67 : decode b_Mo_hello 67 = .ok (.invokevirtual 99, 3) := by decide +kernel
theorem d_Mo_hello_70 : decode b_Mo_hello 70 = .ok (.ifCond .eq 83, 3) := by decide +kernel
theorem d_Mo_hello_73 : decode b_Mo_hello 73 = .ok (.aload_n 0, 1) := by decide +kernel
theorem d_Mo_hello_74 : decode b_Mo_hello 74 = .ok (.iload_n 1, 1) := by decide +kernel
theorem d_Mo_hello_75 : decode b_Mo_hello 75 = .ok (.iload 7, 2) := by decide +kernel
theorem d_Mo_hello_77 : decode b_Mo_hello 77 = .ok (.invokevirtual 99, 3) := by decide +kernel
theorem d_Mo_hello_80 : decode b_Mo_hello 80 = .ok (.ifCond .eq 73, 3) := by decide +kernel
theorem d_Mo_hello_83 : decode b_Mo_hello 83 = .ok (.iload 7, 2) := by decide +kernel
theorem d_Mo_hello_85 : decode b_Mo_hello 85 = .ok (.iconst 2, 1) := by decide +kernel
theorem d_Mo_hello_86 : decode b_Mo_hello 86 = .ok (.if_icmp .eq 19, 3) := by decide +kernel
theorem d_Mo_hello_89 : decode b_Mo_hello 89 = .ok (.aload_n 0, 1) := by decide +kernel
theorem d_Mo_hello_90 : decode b_Mo_hello 90 = .ok (.getfield 7, 3) := by decide +kernel
theorem d_Mo_hello_93 : decode b_Mo_hello 93 = .ok (.iload 6, 2) := by decide +kernel
theorem d_Mo_hello_95 : decode b_Mo_hello 95 = .ok (.iaload, 1) := by decide +kernel
theorem d_Mo_hello_96 : decode b_Mo_hello 96 = .ok (.aload_n 0, 1) := by decide +kernel
theorem d_Mo_hello_97 : decode b_Mo_hello 97 = .ok (.getfield 7, 3) := by decide +kernel
theorem d_Mo_hello_100 : decode b_Mo_hello 100 = .ok (.iload_n 1, 1) := by decide +kernel
theorem d_Mo_hello_101 : decode b_Mo_hello 101 = .ok (.iaload, 1) := by decide +kernel
theorem d_Mo_hello_102 : decode b_Mo_hello 102 = .ok (.if_icmp .ne 51, 3) := by decide +kernel
theorem d_Mo_hello_105 : decode b_Mo_hello 105 = .ok (.iload 6, 2) := by decide +kernel
theorem d_Mo_hello_107 : decode b_Mo_hello 107 = .ok (.iload_n 2, 1) := by decide +kernel
theorem d_Mo_hello_108 : decode b_Mo_hello 108 = .ok (.iload 7, 2) := by decide +kernel
theorem d_Mo_hello_110 : decode b_Mo_hello 110 = .ok (.iload_n 1, 1) := by decide +kernel
theorem d_Mo_hello_111 : decode b_Mo_hello 111 = .ok (.invokestatic 83, 3) := by decide +kernel
theorem d_Mo_hello_114 : decode b_Mo_hello 114 = .ok (.istore 8, 2) := by decide +kernel
theorem d_Mo_hello_116 : decode b_Mo_hello 116 = .ok (.aload_n 0, 1) := by decide +kernel
theorem d_Mo_hello_117 : decode b_Mo_hello 117 = .ok (.getfield 26, 3) := by decide +kernel
theorem d_Mo_hello_120 : decode b_Mo_hello 120 = .ok (.iload 8, 2) := by decide +kernel
theorem d_Mo_hello_122 : decode b_Mo_hello 122 = .ok (.iconst 4, 1) := by decide +kernel
theorem d_Mo_hello_123 : decode b_Mo_hello 123 = .ok (.iastore, 1) := by decide +kernel
theorem d_Mo_hello_124 : decode b_Mo_hello 124 = .ok (.aload_n 0, 1) := by decide +kernel
theorem d_Mo_hello_125 : decode b_Mo_hello 125 = .ok (.getfield 29, 3) := by decide +kernel
theorem d_Mo_hello_128 : decode b_Mo_hello 128 = .ok (.iload 8, 2) := by decide +kernel
theorem d_Mo_hello_130 : decode b_Mo_hello 130 = .ok (.aload_n 0, 1) := by decide +kernel
theorem d_Mo_hello_131 : decode b_Mo_hello 131 = .ok (.getfield 26, 3) := by decide +kernel
theorem d_Mo_hello_134 : decode b_Mo_hello 134 = .ok (.iload_n 1, 1) := by decide +kernel
theorem d_Mo_hello_135 : decode b_Mo_hello 135 = .ok (.iload_n 2, 1) := by decide +kernel
theorem d_Mo_hello_136 : decode b_Mo_hello 136 = .ok (.iload 7, 2) := by decide +kernel
theorem d_Mo_hello_138 : decode b_Mo_hello 138 = .ok (.iload 6, 2) := by decide +kernel
theorem d_Mo_hello_140 : decode b_Mo_hello 140 = .ok (.invokestatic 83, 3) := by decide +kernel
theorem d_Mo_hello_143 : decode b_Mo_hello 143 = .ok (.iaload, 1) := by decide +kernel
theorem d_Mo_hello_144 : decode b_Mo_hello 144 = .ok (.ifCond .le 7, 3) := by decide +kernel
theorem d_Mo_hello_147 : decode b_Mo_hello 147 = .ok (.iconst 1, 1) := by decide +kernel
theorem d_Mo_hello_148 : decode b_Mo_hello 148 = .ok (.goto 4, 3) := by decide +kernel
theorem d_Mo_hello_151 : decode b_Mo_hello 151 = .ok (.iconst 0, 1) := by decide +kernel
theorem d_Mo_hello_152 : decode b_Mo_hello 152 = .ok (.bastore, 1) := by decide +kernel
theorem d_Mo_hello_153 : decode b_Mo_hello 153 = .ok (.iinc 7 1, 3) := by decide +kernel
theorem d_Mo_hello_156 : decode b_Mo_hello 156 = .ok (.goto (-100), 3) := by decide +kernel
theorem d_Mo_hello_159 : decode b_Mo_hello 159 = .ok (.iinc 6 1, 3) := by decide +kernel
theorem d_Mo_hello_162 : decode b_Mo_hello 162 = .ok (.goto (-131), 3) := by decide +kernel
theorem d_Mo_hello_165 : decode b_Mo_hello 165 = .ok (.iload 5, 2) := by decide +kernel
theorem d_Mo_hello_167 : decode b_Mo_hello 167 = .ok (.ireturn, 1) := by decide +kernel
theorem d_Mo_at_0 : decode b_Mo_at 0 = .ok (.bipush 84, 2) := by decide +kernel
theorem d_Mo_at_2 : decode b_Mo_at 2 = .ok (.iload_n 0, 1) := by decide +kernel
theorem d_Mo_at_3 : decode b_Mo_at 3 = .ok (.imul, 1) := by decide +kernel
theorem d_Mo_at_4 : decode b_Mo_at 4 = .ok (.bipush 42, 2) := by decide +kernel
theorem d_Mo_at_6 : decode b_Mo_at 6 = .ok (.iload_n 1, 1) := by decide +kernel
theorem d_Mo_at_7 : decode b_Mo_at 7 = .ok (.iconst 1, 1) := by decide +kernel
theorem d_Mo_at_8 : decode b_Mo_at 8 = .ok (.isub, 1) := by decide +kernel
theorem d_Mo_at_9 : decode b_Mo_at 9 = .ok (.imul, 1) := by decide +kernel
theorem d_Mo_at_10 : decode b_Mo_at 10 = .ok (.iadd, 1) := by decide +kernel
theorem d_Mo_at_11 : decode b_Mo_at 11 = .ok (.iload_n 2, 1) := by decide +kernel
theorem d_Mo_at_12 : decode b_Mo_at 12 = .ok (.iadd, 1) := by decide +kernel
theorem d_Mo_at_13 : decode b_Mo_at 13 = .ok (.ireturn, 1) := by decide +kernel
theorem d_Mo_put_0 : decode b_Mo_put 0 = .ok (.aload_n 0, 1) := by decide +kernel
theorem d_Mo_put_1 : decode b_Mo_put 1 = .ok (.getfield 62, 3) := by decide +kernel
theorem d_Mo_put_4 : decode b_Mo_put 4 = .ok (.aload_n 0, 1) := by decide +kernel
theorem d_Mo_put_5 : decode b_Mo_put 5 = .ok (.getfield 108, 3) := by decide +kernel
theorem d_Mo_put_8 : decode b_Mo_put 8 = .ok (.iload_n 1, 1) := by decide +kernel
theorem d_Mo_put_9 : decode b_Mo_put 9 = .ok (.bipush 64, 2) := by decide +kernel
theorem d_Mo_put_11 : decode b_Mo_put 11 = .ok (.iload_n 2, 1) := by decide +kernel
theorem d_Mo_put_12 : decode b_Mo_put 12 = .ok (.imul, 1) := by decide +kernel
theorem d_Mo_put_13 : decode b_Mo_put 13 = .ok (.iadd, 1) := by decide +kernel
theorem d_Mo_put_14 : decode b_Mo_put 14 = .ok (.iastore, 1) := by decide +kernel
theorem d_Mo_put_15 : decode b_Mo_put 15 = .ok (.aload_n 0, 1) := by decide +kernel
theorem d_Mo_put_16 : decode b_Mo_put 16 = .ok (.dup, 1) := by decide +kernel
theorem d_Mo_put_17 : decode b_Mo_put 17 = .ok (.getfield 108, 3) := by decide +kernel
theorem d_Mo_put_20 : decode b_Mo_put 20 = .ok (.iconst 1, 1) := by decide +kernel
theorem d_Mo_put_21 : decode b_Mo_put 21 = .ok (.iadd, 1) := by decide +kernel
theorem d_Mo_put_22 : decode b_Mo_put 22 = .ok (.putfield 108, 3) := by decide +kernel
theorem d_Mo_put_25 : decode b_Mo_put 25 = .ok (.return_, 1) := by decide +kernel
theorem d_Mo_ownLink_0 : decode b_Mo_ownLink 0 = .ok (.aload_n 0, 1) := by decide +kernel
theorem d_Mo_ownLink_1 : decode b_Mo_ownLink 1 = .ok (.iload_n 2, 1) := by decide +kernel
theorem d_Mo_ownLink_2 : decode b_Mo_ownLink 2 = .ok (.invokevirtual 111, 3) := by decide +kernel
theorem d_Mo_ownLink_5 : decode b_Mo_ownLink 5 = .ok (.ifCond .eq 33, 3) := by decide +kernel
theorem d_Mo_ownLink_8 : decode b_Mo_ownLink 8 = .ok (.aload_n 0, 1) := by decide +kernel
theorem d_Mo_ownLink_9 : decode b_Mo_ownLink 9 = .ok (.bipush 7, 2) := by decide +kernel
theorem d_Mo_ownLink_11 : decode b_Mo_ownLink 11 = .ok (.aload_n 0, 1) := by decide +kernel
theorem d_Mo_ownLink_12 : decode b_Mo_ownLink 12 = .ok (.iload_n 1, 1) := by decide +kernel
theorem d_Mo_ownLink_13 : decode b_Mo_ownLink 13 = .ok (.iload_n 2, 1) := by decide +kernel
theorem d_Mo_ownLink_14 : decode b_Mo_ownLink 14 = .ok (.iload_n 3, 1) := by decide +kernel
theorem d_Mo_ownLink_15 : decode b_Mo_ownLink 15 = .ok (.invokevirtual 118, 3) := by decide +kernel
theorem d_Mo_ownLink_18 : decode b_Mo_ownLink 18 = .ok (.imul, 1) := by decide +kernel
theorem d_Mo_ownLink_19 : decode b_Mo_ownLink 19 = .ok (.iconst 1, 1) := by decide +kernel
theorem d_Mo_ownLink_20 : decode b_Mo_ownLink 20 = .ok (.iadd, 1) := by decide +kernel
theorem d_Mo_ownLink_21 : decode b_Mo_ownLink 21 = .ok (.iload_n 2, 1) := by decide +kernel
theorem d_Mo_ownLink_22 : decode b_Mo_ownLink 22 = .ok (.iadd, 1) := by decide +kernel
theorem d_Mo_ownLink_23 : decode b_Mo_ownLink 23 = .ok (.aload_n 0, 1) := by decide +kernel
theorem d_Mo_ownLink_24 : decode b_Mo_ownLink 24 = .ok (.getfield 20, 3) := by decide +kernel
theorem d_Mo_ownLink_27 : decode b_Mo_ownLink 27 = .ok (.bipush 6, 2) := by decide +kernel
theorem d_Mo_ownLink_29 : decode b_Mo_ownLink 29 = .ok (.iload_n 1, 1) := by decide +kernel
theorem d_Mo_ownLink_30 : decode b_Mo_ownLink 30 = .ok (.imul, 1) := by decide +kernel
theorem d_Mo_ownLink_31 : decode b_Mo_ownLink 31 = .ok (.iload_n 2, 1) := by decide +kernel
theorem d_Mo_ownLink_32 : decode b_Mo_ownLink 32 = .ok (.iadd, 1) := by decide +kernel
theorem d_Mo_ownLink_33 : decode b_Mo_ownLink 33 = .ok (.iaload, 1) := by decide +kernel
theorem d_Mo_ownLink_34 : decode b_Mo_ownLink 34 = .ok (.invokevirtual 122, 3) := by decide +kernel
theorem d_Mo_ownLink_37 : decode b_Mo_ownLink 37 = .ok (.return_, 1) := by decide +kernel
theorem d_Mo_ownLink_38 : decode b_Mo_ownLink 38 = .ok (.iconst 0, 1) := by decide +kernel
theorem d_Mo_ownLink_39 : decode b_Mo_ownLink 39 = .ok (.istore 4, 2) := by decide +kernel
theorem d_Mo_ownLink_41 : decode b_Mo_ownLink 41 = .ok (.iload 4, 2) := by decide +kernel
theorem d_Mo_ownLink_43 : decode b_Mo_ownLink 43 = .ok (.bipush 6, 2) := by decide +kernel
theorem d_Mo_ownLink_45 : decode b_Mo_ownLink 45 = .ok (.if_icmp .ge 41, 3) := by decide +kernel
theorem d_Mo_ownLink_48 : decode b_Mo_ownLink 48 = .ok (.aload_n 0, 1) := by decide +kernel
theorem d_Mo_ownLink_49 : decode b_Mo_ownLink 49 = .ok (.iload_n 1, 1) := by decide +kernel
theorem d_Mo_ownLink_50 : decode b_Mo_ownLink 50 = .ok (.iload_n 2, 1) := by decide +kernel
theorem d_Mo_ownLink_51 : decode b_Mo_ownLink 51 = .ok (.iload_n 3, 1) := by decide +kernel
theorem d_Mo_ownLink_52 : decode b_Mo_ownLink 52 = .ok (.iload 4, 2) := by decide +kernel
theorem d_Mo_ownLink_54 : decode b_Mo_ownLink 54 = .ok (.invokevirtual 87, 3) := by decide +kernel
theorem d_Mo_ownLink_57 : decode b_Mo_ownLink 57 = .ok (.ifCond .eq 23, 3) := by decide +kernel
theorem d_Mo_ownLink_60 : decode b_Mo_ownLink 60 = .ok (.aload_n 0, 1) := by decide +kernel
theorem d_Mo_ownLink_61 : decode b_Mo_ownLink 61 = .ok (.bipush 7, 2) := by decide +kernel
theorem d_Mo_ownLink_63 : decode b_Mo_ownLink 63 = .ok (.iload 4, 2) := by decide +kernel
theorem d_Mo_ownLink_65 : decode b_Mo_ownLink 65 = .ok (.imul, 1) := by decide +kernel
theorem d_Mo_ownLink_66 : decode b_Mo_ownLink 66 = .ok (.aload_n 0, 1) := by decide +kernel
theorem d_Mo_ownLink_67 : decode b_Mo_ownLink 67 = .ok (.getfield 20, 3) := by decide +kernel
theorem d_Mo_ownLink_70 : decode b_Mo_ownLink 70 = .ok (.bipush 6, 2) := by decide +kernel
theorem d_Mo_ownLink_72 : decode b_Mo_ownLink 72 = .ok (.iload_n 1, 1) := by decide +kernel
theorem d_Mo_ownLink_73 : decode b_Mo_ownLink 73 = .ok (.imul, 1) := by decide +kernel
theorem d_Mo_ownLink_74 : decode b_Mo_ownLink 74 = .ok (.iload_n 2, 1) := by decide +kernel
theorem d_Mo_ownLink_75 : decode b_Mo_ownLink 75 = .ok (.iadd, 1) := by decide +kernel
theorem d_Mo_ownLink_76 : decode b_Mo_ownLink 76 = .ok (.iaload, 1) := by decide +kernel
theorem d_Mo_ownLink_77 : decode b_Mo_ownLink 77 = .ok (.invokevirtual 122, 3) := by decide +kernel
theorem d_Mo_ownLink_80 : decode b_Mo_ownLink 80 = .ok (.iinc 4 1, 3) := by decide +kernel
theorem d_Mo_ownLink_83 : decode b_Mo_ownLink 83 = .ok (.goto (-42), 3) := by decide +kernel
theorem d_Mo_ownLink_86 : decode b_Mo_ownLink 86 = .ok (.return_, 1) := by decide +kernel
theorem d_Mo_describes_0 : decode b_Mo_describes 0 = .ok (.aload_n 0, 1) := by decide +kernel
theorem d_Mo_describes_1 : decode b_Mo_describes 1 = .ok (.iconst 0, 1) := by decide +kernel
theorem d_Mo_describes_2 : decode b_Mo_describes 2 = .ok (.putfield 108, 3) := by decide +kernel
theorem d_Mo_describes_5 : decode b_Mo_describes 5 = .ok (.iload_n 3, 1) := by decide +kernel
theorem d_Mo_describes_6 : decode b_Mo_describes 6 = .ok (.ifCond .le 102, 3) := by decide +kernel
theorem d_Mo_describes_9 : decode b_Mo_describes 9 = .ok (.iload_n 3, 1) := by decide +kernel
theorem d_Mo_describes_10 : decode b_Mo_describes 10 = .ok (.iconst 1, 1) := by decide +kernel
theorem d_Mo_describes_11 : decode b_Mo_describes 11 = .ok (.isub, 1) := by decide +kernel
theorem d_Mo_describes_12 : decode b_Mo_describes 12 = .ok (.istore 4, 2) := by decide +kernel
theorem d_Mo_describes_14 : decode b_Mo_describes 14 = .ok (.aload_n 0, 1) := by decide +kernel
theorem d_Mo_describes_15 : decode b_Mo_describes 15 = .ok (.iload_n 1, 1) := by decide +kernel
theorem d_Mo_describes_16 : decode b_Mo_describes 16 = .ok (.iload 4, 2) := by decide +kernel
theorem d_Mo_describes_18 : decode b_Mo_describes 18 = .ok (.invokevirtual 75, 3) := by decide +kernel
theorem d_Mo_describes_21 : decode b_Mo_describes 21 = .ok (.ifCond .eq 35, 3) := by decide +kernel
theorem d_Mo_describes_24 : decode b_Mo_describes 24 = .ok (.aload_n 0, 1) := by decide +kernel
theorem d_Mo_describes_25 : decode b_Mo_describes 25 = .ok (.iload 4, 2) := by decide +kernel
theorem d_Mo_describes_27 : decode b_Mo_describes 27 = .ok (.invokevirtual 111, 3) := by decide +kernel
theorem d_Mo_describes_30 : decode b_Mo_describes 30 = .ok (.ifCond .eq 26, 3) := by decide +kernel
theorem d_Mo_describes_33 : decode b_Mo_describes 33 = .ok (.aload_n 0, 1) := by decide +kernel
theorem d_Mo_describes_34 : decode b_Mo_describes 34 = .ok (.iload_n 1, 1) := by decide +kernel
theorem d_Mo_describes_35 : decode b_Mo_describes 35 = .ok (.iload 4, 2) := by decide +kernel
theorem d_Mo_describes_37 : decode b_Mo_describes 37 = .ok (.iload_n 2, 1) := by decide +kernel
theorem d_Mo_describes_38 : decode b_Mo_describes 38 = .ok (.invokevirtual 114, 3) := by decide +kernel
theorem d_Mo_describes_41 : decode b_Mo_describes 41 = .ok (.ifCond .eq 15, 3) := by decide +kernel
theorem d_Mo_describes_44 : decode b_Mo_describes 44 = .ok (.aload_n 0, 1) := by decide +kernel
theorem d_Mo_describes_45 : decode b_Mo_describes 45 = .ok (.iload_n 1, 1) := by decide +kernel
theorem d_Mo_describes_46 : decode b_Mo_describes 46 = .ok (.iload 4, 2) := by decide +kernel
theorem d_Mo_describes_48 : decode b_Mo_describes 48 = .ok (.iload_n 2, 1) := by decide +kernel
theorem d_Mo_describes_49 : decode b_Mo_describes 49 = .ok (.invokevirtual 118, 3) := by decide +kernel
theorem d_Mo_describes_52 : decode b_Mo_describes 52 = .ok (.iload_n 1, 1) := by decide +kernel
theorem d_Mo_describes_53 : decode b_Mo_describes 53 = .ok (.if_icmp .eq 5, 3) := by decide +kernel
theorem d_Mo_describes_56 : decode b_Mo_describes 56 = .ok (.iconst 0, 1) := by decide +kernel
theorem d_Mo_describes_57 : decode b_Mo_describes 57 = .ok (.ireturn, 1) := by decide +kernel
theorem d_Mo_describes_58 : decode b_Mo_describes 58 = .ok (.aload_n 0, 1) := by decide +kernel
theorem d_Mo_describes_59 : decode b_Mo_describes 59 = .ok (.bipush 7, 2) := by decide +kernel
theorem d_Mo_describes_61 : decode b_Mo_describes 61 = .ok (.iload_n 1, 1) := by decide +kernel
theorem d_Mo_describes_62 : decode b_Mo_describes 62 = .ok (.imul, 1) := by decide +kernel
theorem d_Mo_describes_63 : decode b_Mo_describes 63 = .ok (.iconst 0, 1) := by decide +kernel
theorem d_Mo_describes_64 : decode b_Mo_describes 64 = .ok (.invokevirtual 122, 3) := by decide +kernel
theorem d_Mo_describes_67 : decode b_Mo_describes 67 = .ok (.iconst 0, 1) := by decide +kernel
theorem d_Mo_describes_68 : decode b_Mo_describes 68 = .ok (.istore 5, 2) := by decide +kernel
theorem d_Mo_describes_70 : decode b_Mo_describes 70 = .ok (.iload 5, 2) := by decide +kernel
theorem d_Mo_describes_72 : decode b_Mo_describes 72 = .ok (.bipush 6, 2) := by decide +kernel
theorem d_Mo_describes_74 : decode b_Mo_describes 74 = .ok (.if_icmp .ge 32, 3) := by decide +kernel
theorem d_Mo_describes_77 : decode b_Mo_describes 77 = .ok (.aload_n 0, 1) := by decide +kernel
theorem d_Mo_describes_78 : decode b_Mo_describes 78 = .ok (.iload_n 1, 1) := by decide +kernel
theorem d_Mo_describes_79 : decode b_Mo_describes 79 = .ok (.iload 4, 2) := by decide +kernel
theorem d_Mo_describes_81 : decode b_Mo_describes 81 = .ok (.iload_n 2, 1) := by decide +kernel
theorem d_Mo_describes_82 : decode b_Mo_describes 82 = .ok (.iload 5, 2) := by decide +kernel
theorem d_Mo_describes_84 : decode b_Mo_describes 84 = .ok (.invokevirtual 87, 3) := by decide +kernel
theorem d_Mo_describes_87 : decode b_Mo_describes 87 = .ok (.ifCond .eq 13, 3) := by decide +kernel
theorem d_Mo_describes_90 : decode b_Mo_describes 90 = .ok (.aload_n 0, 1) := by decide +kernel
theorem d_Mo_describes_91 : decode b_Mo_describes 91 = .ok (.bipush 7, 2) := by decide +kernel
theorem d_Mo_describes_93 : decode b_Mo_describes 93 = .ok (.iload 5, 2) := by decide +kernel
theorem d_Mo_describes_95 : decode b_Mo_describes 95 = .ok (.imul, 1) := by decide +kernel
theorem d_Mo_describes_96 : decode b_Mo_describes 96 = .ok (.iconst 0, 1) := by decide +kernel
theorem d_Mo_describes_97 : decode b_Mo_describes 97 = .ok (.invokevirtual 122, 3) := by decide +kernel
theorem d_Mo_describes_100 : decode b_Mo_describes 100 = .ok (.iinc 5 1, 3) := by decide +kernel
theorem d_Mo_describes_103 : decode b_Mo_describes 103 = .ok (.goto (-33), 3) := by decide +kernel
theorem d_Mo_describes_106 : decode b_Mo_describes 106 = .ok (.iconst 1, 1) := by decide +kernel
theorem d_Mo_describes_107 : decode b_Mo_describes 107 = .ok (.ireturn, 1) := by decide +kernel
theorem d_Mo_describes_108 : decode b_Mo_describes 108 = .ok (.iconst 0, 1) := by decide +kernel
theorem d_Mo_describes_109 : decode b_Mo_describes 109 = .ok (.istore 4, 2) := by decide +kernel
theorem d_Mo_describes_111 : decode b_Mo_describes 111 = .ok (.iload 4, 2) := by decide +kernel
theorem d_Mo_describes_113 : decode b_Mo_describes 113 = .ok (.bipush 6, 2) := by decide +kernel
theorem d_Mo_describes_115 : decode b_Mo_describes 115 = .ok (.if_icmp .ge 38, 3) := by decide +kernel
theorem d_Mo_describes_118 : decode b_Mo_describes 118 = .ok (.aload_n 0, 1) := by decide +kernel
theorem d_Mo_describes_119 : decode b_Mo_describes 119 = .ok (.iload_n 1, 1) := by decide +kernel
theorem d_Mo_describes_120 : decode b_Mo_describes 120 = .ok (.iload 4, 2) := by decide +kernel
theorem d_Mo_describes_122 : decode b_Mo_describes 122 = .ok (.invokevirtual 75, 3) := by decide +kernel
theorem d_Mo_describes_125 : decode b_Mo_describes 125 = .ok (.ifCond .eq 22, 3) := by decide +kernel
theorem d_Mo_describes_128 : decode b_Mo_describes 128 = .ok (.aload_n 0, 1) := by decide +kernel
theorem d_Mo_describes_129 : decode b_Mo_describes 129 = .ok (.iload_n 1, 1) := by decide +kernel
theorem d_Mo_describes_130 : decode b_Mo_describes 130 = .ok (.iload 4, 2) := by decide +kernel
theorem d_Mo_describes_132 : decode b_Mo_describes 132 = .ok (.iload_n 2, 1) := by decide +kernel
theorem d_Mo_describes_133 : decode b_Mo_describes 133 = .ok (.invokevirtual 114, 3) := by decide +kernel
theorem d_Mo_describes_136 : decode b_Mo_describes 136 = .ok (.ifCond .eq 11, 3) := by decide +kernel
theorem d_Mo_describes_139 : decode b_Mo_describes 139 = .ok (.aload_n 0, 1) := by decide +kernel
theorem d_Mo_describes_140 : decode b_Mo_describes 140 = .ok (.iload_n 1, 1) := by decide +kernel
theorem d_Mo_describes_141 : decode b_Mo_describes 141 = .ok (.iload 4, 2) := by decide +kernel
theorem d_Mo_describes_143 : decode b_Mo_describes 143 = .ok (.iload_n 2, 1) := by decide +kernel
theorem d_Mo_describes_144 : decode b_Mo_describes 144 = .ok (.invokevirtual 126, 3) := by decide +kernel
theorem d_Mo_describes_147 : decode b_Mo_describes 147 = .ok (.iinc 4 1, 3) := by decide +kernel
theorem d_Mo_describes_150 : decode b_Mo_describes 150 = .ok (.goto (-39), 3) := by decide +kernel
theorem d_Mo_describes_153 : decode b_Mo_describes 153 = .ok (.iconst 1, 1) := by decide +kernel
theorem d_Mo_describes_154 : decode b_Mo_describes 154 = .ok (.ireturn, 1) := by decide +kernel
theorem d_Mo_leavesArea_0 : decode b_Mo_leavesArea 0 = .ok (.iconst 0, 1) := by decide +kernel
theorem d_Mo_leavesArea_1 : decode b_Mo_leavesArea 1 = .ok (.istore_n 2, 1) := by decide +kernel
theorem d_Mo_leavesArea_2 : decode b_Mo_leavesArea 2 = .ok (.iconst 0, 1) := by decide +kernel
theorem d_Mo_leavesArea_3 : decode b_Mo_leavesArea 3 = .ok (.istore_n 3, 1) := by decide +kernel
theorem d_Mo_leavesArea_4 : decode b_Mo_leavesArea 4 = .ok (.iload_n 3, 1) := by decide +kernel
theorem d_Mo_leavesArea_5 : decode b_Mo_leavesArea 5 = .ok (.bipush 6, 2) := by decide +kernel
theorem d_Mo_leavesArea_7 : decode b_Mo_leavesArea 7 = .ok (.if_icmp .ge 63, 3) := by decide +kernel
theorem d_Mo_leavesArea_10 : decode b_Mo_leavesArea 10 = .ok (.iconst 0, 1) := by decide +kernel
theorem d_Mo_leavesArea_11 : decode b_Mo_leavesArea 11 = .ok (.istore 4, 2) := by decide +kernel
theorem d_Mo_leavesArea_13 : decode b_Mo_leavesArea 13 = .ok (.iload 4, 2) := by decide +kernel
theorem d_Mo_leavesArea_15 : decode b_Mo_leavesArea 15 = .ok (.bipush 6, 2) := by decide +kernel
theorem d_Mo_leavesArea_17 : decode b_Mo_leavesArea 17 = .ok (.if_icmp .ge 47, 3) := by decide +kernel
theorem d_Mo_leavesArea_20 : decode b_Mo_leavesArea 20 = .ok (.iload_n 2, 1) := by decide +kernel
theorem d_Mo_leavesArea_21 : decode b_Mo_leavesArea 21 = .ok (.ifCond .ne 31, 3) := by decide +kernel
theorem d_Mo_leavesArea_24 : decode b_Mo_leavesArea 24 = .ok (.aload_n 0, 1) := by decide +kernel
theorem d_Mo_leavesArea_25 : decode b_Mo_leavesArea 25 = .ok (.iload_n 1, 1) := by decide +kernel
theorem d_Mo_leavesArea_26 : decode b_Mo_leavesArea 26 = .ok (.iload_n 3, 1) := by decide +kernel
theorem d_Mo_leavesArea_27 : decode b_Mo_leavesArea 27 = .ok (.iconst 2, 1) := by decide +kernel
theorem d_Mo_leavesArea_28 : decode b_Mo_leavesArea 28 = .ok (.iload 4, 2) := by decide +kernel
theorem d_Mo_leavesArea_30 : decode b_Mo_leavesArea 30 = .ok (.invokevirtual 87, 3) := by decide +kernel
theorem d_Mo_leavesArea_33 : decode b_Mo_leavesArea 33 = .ok (.ifCond .eq 23, 3) := by decide +kernel
theorem d_Mo_leavesArea_36 : decode b_Mo_leavesArea 36 = .ok (.aload_n 0, 1) := by decide +kernel
theorem d_Mo_leavesArea_37 : decode b_Mo_leavesArea 37 = .ok (.getfield 7, 3) := by decide +kernel
theorem d_Mo_leavesArea_40 : decode b_Mo_leavesArea 40 = .ok (.iload 4, 2) := by decide +kernel
theorem d_Mo_leavesArea_42 : decode b_Mo_leavesArea 42 = .ok (.iaload, 1) := by decide +kernel
theorem d_Mo_leavesArea_43 : decode b_Mo_leavesArea 43 = .ok (.aload_n 0, 1) := by decide +kernel
theorem d_Mo_leavesArea_44 : decode b_Mo_leavesArea 44 = .ok (.getfield 7, 3) := by decide +kernel
theorem d_Mo_leavesArea_47 : decode b_Mo_leavesArea 47 = .ok (.iload_n 1, 1) := by decide +kernel
theorem d_Mo_leavesArea_48 : decode b_Mo_leavesArea 48 = .ok (.iaload, 1) := by decide +kernel
theorem d_Mo_leavesArea_49 : decode b_Mo_leavesArea 49 = .ok (.if_icmp .eq 7, 3) := by decide +kernel
theorem d_Mo_leavesArea_52 : decode b_Mo_leavesArea 52 = .ok (.iconst 1, 1) := by decide +kernel
theorem d_Mo_leavesArea_53 : decode b_Mo_leavesArea 53 = .ok (.goto 4, 3) := by decide +kernel
theorem d_Mo_leavesArea_56 : decode b_Mo_leavesArea 56 = .ok (.iconst 0, 1) := by decide +kernel
theorem d_Mo_leavesArea_57 : decode b_Mo_leavesArea 57 = .ok (.istore_n 2, 1) := by decide +kernel
theorem d_Mo_leavesArea_58 : decode b_Mo_leavesArea 58 = .ok (.iinc 4 1, 3) := by decide +kernel
theorem d_Mo_leavesArea_61 : decode b_Mo_leavesArea 61 = .ok (.goto (-48), 3) := by decide +kernel
theorem d_Mo_leavesArea_64 : decode b_Mo_leavesArea 64 = .ok (.iinc 3 1, 3) := by decide +kernel
theorem d_Mo_leavesArea_67 : decode b_Mo_leavesArea 67 = .ok (.goto (-63), 3) := by decide +kernel
theorem d_Mo_leavesArea_70 : decode b_Mo_leavesArea 70 = .ok (.iload_n 2, 1) := by decide +kernel
theorem d_Mo_leavesArea_71 : decode b_Mo_leavesArea 71 = .ok (.ifCond .eq 17, 3) := by decide +kernel
theorem d_Mo_leavesArea_74 : decode b_Mo_leavesArea 74 = .ok (.aload_n 0, 1) := by decide +kernel
theorem d_Mo_leavesArea_75 : decode b_Mo_leavesArea 75 = .ok (.getfield 13, 3) := by decide +kernel
theorem d_Mo_leavesArea_78 : decode b_Mo_leavesArea 78 = .ok (.iload_n 1, 1) := by decide +kernel
theorem d_Mo_leavesArea_79 : decode b_Mo_leavesArea 79 = .ok (.iaload, 1) := by decide +kernel
theorem d_Mo_leavesArea_80 : decode b_Mo_leavesArea 80 = .ok (.iconst 3, 1) := by decide +kernel
theorem d_Mo_leavesArea_81 : decode b_Mo_leavesArea 81 = .ok (.if_icmp .ne 7, 3) := by decide +kernel
theorem d_Mo_leavesArea_84 : decode b_Mo_leavesArea 84 = .ok (.iconst 1, 1) := by decide +kernel
theorem d_Mo_leavesArea_85 : decode b_Mo_leavesArea 85 = .ok (.goto 4, 3) := by decide +kernel
theorem d_Mo_leavesArea_88 : decode b_Mo_leavesArea 88 = .ok (.iconst 0, 1) := by decide +kernel
theorem d_Mo_leavesArea_89 : decode b_Mo_leavesArea 89 = .ok (.ireturn, 1) := by decide +kernel
theorem d_Mo_exits_0 : decode b_Mo_exits 0 = .ok (.iload_n 2, 1) := by decide +kernel
theorem d_Mo_exits_1 : decode b_Mo_exits 1 = .ok (.iconst 1, 1) := by decide +kernel
theorem d_Mo_exits_2 : decode b_Mo_exits 2 = .ok (.if_icmp .ne 19, 3) := by decide +kernel
theorem d_Mo_exits_5 : decode b_Mo_exits 5 = .ok (.iload_n 3, 1) := by decide +kernel
theorem d_Mo_exits_6 : decode b_Mo_exits 6 = .ok (.ifCond .ne 15, 3) := by decide +kernel
theorem d_Mo_exits_9 : decode b_Mo_exits 9 = .ok (.aload_n 0, 1) := by decide +kernel
theorem d_Mo_exits_10 : decode b_Mo_exits 10 = .ok (.iload_n 1, 1) := by decide +kernel
theorem d_Mo_exits_11 : decode b_Mo_exits 11 = .ok (.invokevirtual 130, 3) := by decide +kernel
theorem d_Mo_exits_14 : decode b_Mo_exits 14 = .ok (.ifCond .eq 7, 3) := by decide +kernel
theorem d_Mo_exits_17 : decode b_Mo_exits 17 = .ok (.iconst 1, 1) := by decide +kernel
theorem d_Mo_exits_18 : decode b_Mo_exits 18 = .ok (.goto 4, 3) := by decide +kernel
theorem d_Mo_exits_21 : decode b_Mo_exits 21 = .ok (.iconst 0, 1) := by decide +kernel
theorem d_Mo_exits_22 : decode b_Mo_exits 22 = .ok (.ireturn, 1) := by decide +kernel
theorem d_Mo_sameLinks_0 : decode b_Mo_sameLinks 0 = .ok (.aload_n 0, 1) := by decide +kernel
theorem d_Mo_sameLinks_1 : decode b_Mo_sameLinks 1 = .ok (.getfield 50, 3) := by decide +kernel
theorem d_Mo_sameLinks_4 : decode b_Mo_sameLinks 4 = .ok (.iload_n 1, 1) := by decide +kernel
theorem d_Mo_sameLinks_5 : decode b_Mo_sameLinks 5 = .ok (.iaload, 1) := by decide +kernel
theorem d_Mo_sameLinks_6 : decode b_Mo_sameLinks 6 = .ok (.aload_n 0, 1) := by decide +kernel
theorem d_Mo_sameLinks_7 : decode b_Mo_sameLinks 7 = .ok (.getfield 108, 3) := by decide +kernel
theorem d_Mo_sameLinks_10 : decode b_Mo_sameLinks 10 = .ok (.if_icmp .ne 7, 3) := by decide +kernel
theorem d_Mo_sameLinks_13 : decode b_Mo_sameLinks 13 = .ok (.iconst 1, 1) := by decide +kernel
theorem d_Mo_sameLinks_14 : decode b_Mo_sameLinks 14 = .ok (.goto 4, 3) := by decide +kernel
theorem d_Mo_sameLinks_17 : decode b_Mo_sameLinks 17 = .ok (.iconst 0, 1) := by decide +kernel
theorem d_Mo_sameLinks_18 : decode b_Mo_sameLinks 18 = .ok (.istore_n 2, 1) := by decide +kernel
theorem d_Mo_sameLinks_19 : decode b_Mo_sameLinks 19 = .ok (.iconst 0, 1) := by decide +kernel
theorem d_Mo_sameLinks_20 : decode b_Mo_sameLinks 20 = .ok (.istore_n 3, 1) := by decide +kernel
theorem d_Mo_sameLinks_21 : decode b_Mo_sameLinks 21 = .ok (.iload_n 3, 1) := by decide +kernel
theorem d_Mo_sameLinks_22 : decode b_Mo_sameLinks 22 = .ok (.aload_n 0, 1) := by decide +kernel
theorem d_Mo_sameLinks_23 : decode b_Mo_sameLinks 23 = .ok (.getfield 108, 3) := by decide +kernel
theorem d_Mo_sameLinks_26 : decode b_Mo_sameLinks 26 = .ok (.if_icmp .ge 39, 3) := by decide +kernel
theorem d_Mo_sameLinks_29 : decode b_Mo_sameLinks 29 = .ok (.iload_n 2, 1) := by decide +kernel
theorem d_Mo_sameLinks_30 : decode b_Mo_sameLinks 30 = .ok (.ifCond .eq 35, 3) := by decide +kernel
theorem d_Mo_sameLinks_33 : decode b_Mo_sameLinks 33 = .ok (.aload_n 0, 1) := by decide +kernel
theorem d_Mo_sameLinks_34 : decode b_Mo_sameLinks 34 = .ok (.getfield 53, 3) := by decide +kernel
theorem d_Mo_sameLinks_37 : decode b_Mo_sameLinks 37 = .ok (.bipush 10, 2) := by decide +kernel
theorem d_Mo_sameLinks_39 : decode b_Mo_sameLinks 39 = .ok (.iload_n 1, 1) := by decide +kernel
theorem d_Mo_sameLinks_40 : decode b_Mo_sameLinks 40 = .ok (.imul, 1) := by decide +kernel
theorem d_Mo_sameLinks_41 : decode b_Mo_sameLinks 41 = .ok (.iload_n 3, 1) := by decide +kernel
theorem d_Mo_sameLinks_42 : decode b_Mo_sameLinks 42 = .ok (.iadd, 1) := by decide +kernel
theorem d_Mo_sameLinks_43 : decode b_Mo_sameLinks 43 = .ok (.iaload, 1) := by decide +kernel
theorem d_Mo_sameLinks_44 : decode b_Mo_sameLinks 44 = .ok (.aload_n 0, 1) := by decide +kernel
theorem d_Mo_sameLinks_45 : decode b_Mo_sameLinks 45 = .ok (.getfield 62, 3) := by decide +kernel
theorem d_Mo_sameLinks_48 : decode b_Mo_sameLinks 48 = .ok (.iload_n 3, 1) := by decide +kernel
theorem d_Mo_sameLinks_49 : decode b_Mo_sameLinks 49 = .ok (.iaload, 1) := by decide +kernel
theorem d_Mo_sameLinks_50 : decode b_Mo_sameLinks 50 = .ok (.if_icmp .ne 7, 3) := by decide +kernel
theorem d_Mo_sameLinks_53 : decode b_Mo_sameLinks 53 = .ok (.iconst 1, 1) := by decide +kernel
theorem d_Mo_sameLinks_54 : decode b_Mo_sameLinks 54 = .ok (.goto 4, 3) := by decide +kernel
theorem d_Mo_sameLinks_57 : decode b_Mo_sameLinks 57 = .ok (.iconst 0, 1) := by decide +kernel
theorem d_Mo_sameLinks_58 : decode b_Mo_sameLinks 58 = .ok (.istore_n 2, 1) := by decide +kernel
theorem d_Mo_sameLinks_59 : decode b_Mo_sameLinks 59 = .ok (.iinc 3 1, 3) := by decide +kernel
theorem d_Mo_sameLinks_62 : decode b_Mo_sameLinks 62 = .ok (.goto (-41), 3) := by decide +kernel
theorem d_Mo_sameLinks_65 : decode b_Mo_sameLinks 65 = .ok (.iload_n 2, 1) := by decide +kernel
theorem d_Mo_sameLinks_66 : decode b_Mo_sameLinks 66 = .ok (.ireturn, 1) := by decide +kernel
theorem d_Mo_renew_0 : decode b_Mo_renew 0 = .ok (.iload_n 1, 1) := by decide +kernel
theorem d_Mo_renew_1 : decode b_Mo_renew 1 = .ok (.iload_n 2, 1) := by decide +kernel
theorem d_Mo_renew_2 : decode b_Mo_renew 2 = .ok (.bipush 7, 2) := by decide +kernel
theorem d_Mo_renew_4 : decode b_Mo_renew 4 = .ok (.iload_n 1, 1) := by decide +kernel
theorem d_Mo_renew_5 : decode b_Mo_renew 5 = .ok (.imul, 1) := by decide +kernel
theorem d_Mo_renew_6 : decode b_Mo_renew 6 = .ok (.iload_n 3, 1) := by decide +kernel
theorem d_Mo_renew_7 : decode b_Mo_renew 7 = .ok (.iadd, 1) := by decide +kernel
theorem d_Mo_renew_8 : decode b_Mo_renew 8 = .ok (.invokestatic 133, 3) := by decide +kernel
theorem d_Mo_renew_11 : decode b_Mo_renew 11 = .ok (.istore 4, 2) := by decide +kernel
theorem d_Mo_renew_13 : decode b_Mo_renew 13 = .ok (.aload_n 0, 1) := by decide +kernel
theorem d_Mo_renew_14 : decode b_Mo_renew 14 = .ok (.getfield 35, 3) := by decide +kernel
theorem d_Mo_renew_17 : decode b_Mo_renew 17 = .ok (.iload 4, 2) := by decide +kernel
theorem d_Mo_renew_19 : decode b_Mo_renew 19 = .ok (.dup2, 1) := by decide +kernel
theorem d_Mo_renew_20 : decode b_Mo_renew 20 = .ok (.iaload, 1) := by decide +kernel
theorem d_Mo_renew_21 : decode b_Mo_renew 21 = .ok (.iconst 1, 1) := by decide +kernel
theorem d_Mo_renew_22 : decode b_Mo_renew 22 = .ok (.iadd, 1) := by decide +kernel
theorem d_Mo_renew_23 : decode b_Mo_renew 23 = .ok (.iastore, 1) := by decide +kernel
theorem d_Mo_renew_24 : decode b_Mo_renew 24 = .ok (.aload_n 0, 1) := by decide +kernel
theorem d_Mo_renew_25 : decode b_Mo_renew 25 = .ok (.getfield 32, 3) := by decide +kernel
theorem d_Mo_renew_28 : decode b_Mo_renew 28 = .ok (.iload 4, 2) := by decide +kernel
theorem d_Mo_renew_30 : decode b_Mo_renew 30 = .ok (.aload_n 0, 1) := by decide +kernel
theorem d_Mo_renew_31 : decode b_Mo_renew 31 = .ok (.getfield 35, 3) := by decide +kernel
theorem d_Mo_renew_34 : decode b_Mo_renew 34 = .ok (.iload 4, 2) := by decide +kernel
theorem d_Mo_renew_36 : decode b_Mo_renew 36 = .ok (.iaload, 1) := by decide +kernel
theorem d_Mo_renew_37 : decode b_Mo_renew 37 = .ok (.iastore, 1) := by decide +kernel
theorem d_Mo_renew_38 : decode b_Mo_renew 38 = .ok (.aload_n 0, 1) := by decide +kernel
theorem d_Mo_renew_39 : decode b_Mo_renew 39 = .ok (.getfield 38, 3) := by decide +kernel
theorem d_Mo_renew_42 : decode b_Mo_renew 42 = .ok (.iload 4, 2) := by decide +kernel
theorem d_Mo_renew_44 : decode b_Mo_renew 44 = .ok (.bipush 20, 2) := by decide +kernel
theorem d_Mo_renew_46 : decode b_Mo_renew 46 = .ok (.iastore, 1) := by decide +kernel
theorem d_Mo_renew_47 : decode b_Mo_renew 47 = .ok (.aload_n 0, 1) := by decide +kernel
theorem d_Mo_renew_48 : decode b_Mo_renew 48 = .ok (.getfield 41, 3) := by decide +kernel
theorem d_Mo_renew_51 : decode b_Mo_renew 51 = .ok (.iload 4, 2) := by decide +kernel
theorem d_Mo_renew_53 : decode b_Mo_renew 53 = .ok (.iconst 0, 1) := by decide +kernel
theorem d_Mo_renew_54 : decode b_Mo_renew 54 = .ok (.iastore, 1) := by decide +kernel
theorem d_Mo_renew_55 : decode b_Mo_renew 55 = .ok (.aload_n 0, 1) := by decide +kernel
theorem d_Mo_renew_56 : decode b_Mo_renew 56 = .ok (.getfield 44, 3) := by decide +kernel
theorem d_Mo_renew_59 : decode b_Mo_renew 59 = .ok (.iload 4, 2) := by decide +kernel
theorem d_Mo_renew_61 : decode b_Mo_renew 61 = .ok (.aload_n 0, 1) := by decide +kernel
theorem d_Mo_renew_62 : decode b_Mo_renew 62 = .ok (.iload_n 1, 1) := by decide +kernel
theorem d_Mo_renew_63 : decode b_Mo_renew 63 = .ok (.iload_n 2, 1) := by decide +kernel
theorem d_Mo_renew_64 : decode b_Mo_renew 64 = .ok (.iload_n 3, 1) := by decide +kernel
theorem d_Mo_renew_65 : decode b_Mo_renew 65 = .ok (.invokevirtual 136, 3) := by decide +kernel
theorem d_Mo_renew_68 : decode b_Mo_renew 68 = .ok (.bastore, 1) := by decide +kernel
theorem d_Mo_renew_69 : decode b_Mo_renew 69 = .ok (.aload_n 0, 1) := by decide +kernel
theorem d_Mo_renew_70 : decode b_Mo_renew 70 = .ok (.getfield 47, 3) := by decide +kernel
theorem d_Mo_renew_73 : decode b_Mo_renew 73 = .ok (.iload 4, 2) := by decide +kernel
theorem d_Mo_renew_75 : decode b_Mo_renew 75 = .ok (.aload_n 0, 1) := by decide +kernel
theorem d_Mo_renew_76 : decode b_Mo_renew 76 = .ok (.getfield 7, 3) := by decide +kernel
theorem d_Mo_renew_79 : decode b_Mo_renew 79 = .ok (.iload_n 1, 1) := by decide +kernel
theorem d_Mo_renew_80 : decode b_Mo_renew 80 = .ok (.iaload, 1) := by decide +kernel
theorem d_Mo_renew_81 : decode b_Mo_renew 81 = .ok (.iastore, 1) := by decide +kernel
theorem d_Mo_renew_82 : decode b_Mo_renew 82 = .ok (.aload_n 0, 1) := by decide +kernel
theorem d_Mo_renew_83 : decode b_Mo_renew 83 = .ok (.getfield 50, 3) := by decide +kernel
theorem d_Mo_renew_86 : decode b_Mo_renew 86 = .ok (.iload 4, 2) := by decide +kernel
theorem d_Mo_renew_88 : decode b_Mo_renew 88 = .ok (.aload_n 0, 1) := by decide +kernel
theorem d_Mo_renew_89 : decode b_Mo_renew 89 = .ok (.getfield 108, 3) := by decide +kernel
theorem d_Mo_renew_92 : decode b_Mo_renew 92 = .ok (.iastore, 1) := by decide +kernel
theorem d_Mo_renew_93 : decode b_Mo_renew 93 = .ok (.iconst 0, 1) := by decide +kernel
theorem d_Mo_renew_94 : decode b_Mo_renew 94 = .ok (.istore 5, 2) := by decide +kernel
theorem d_Mo_renew_96 : decode b_Mo_renew 96 = .ok (.iload 5, 2) := by decide +kernel
theorem d_Mo_renew_98 : decode b_Mo_renew 98 = .ok (.aload_n 0, 1) := by decide +kernel
theorem d_Mo_renew_99 : decode b_Mo_renew 99 = .ok (.getfield 108, 3) := by decide +kernel
theorem d_Mo_renew_102 : decode b_Mo_renew 102 = .ok (.if_icmp .ge 29, 3) := by decide +kernel
theorem d_Mo_renew_105 : decode b_Mo_renew 105 = .ok (.aload_n 0, 1) := by decide +kernel
theorem d_Mo_renew_106 : decode b_Mo_renew 106 = .ok (.getfield 53, 3) := by decide +kernel
theorem d_Mo_renew_109 : decode b_Mo_renew 109 = .ok (.bipush 10, 2) := by decide +kernel
theorem d_Mo_renew_111 : decode b_Mo_renew 111 = .ok (.iload 4, 2) := by decide +kernel
theorem d_Mo_renew_113 : decode b_Mo_renew 113 = .ok (.imul, 1) := by decide +kernel
theorem d_Mo_renew_114 : decode b_Mo_renew 114 = .ok (.iload 5, 2) := by decide +kernel
theorem d_Mo_renew_116 : decode b_Mo_renew 116 = .ok (.iadd, 1) := by decide +kernel
theorem d_Mo_renew_117 : decode b_Mo_renew 117 = .ok (.aload_n 0, 1) := by decide +kernel
theorem d_Mo_renew_118 : decode b_Mo_renew 118 = .ok (.getfield 62, 3) := by decide +kernel
theorem d_Mo_renew_121 : decode b_Mo_renew 121 = .ok (.iload 5, 2) := by decide +kernel
theorem d_Mo_renew_123 : decode b_Mo_renew 123 = .ok (.iaload, 1) := by decide +kernel
theorem d_Mo_renew_124 : decode b_Mo_renew 124 = .ok (.iastore, 1) := by decide +kernel
theorem d_Mo_renew_125 : decode b_Mo_renew 125 = .ok (.iinc 5 1, 3) := by decide +kernel
theorem d_Mo_renew_128 : decode b_Mo_renew 128 = .ok (.goto (-32), 3) := by decide +kernel
theorem d_Mo_renew_131 : decode b_Mo_renew 131 = .ok (.aload_n 0, 1) := by decide +kernel
theorem d_Mo_renew_132 : decode b_Mo_renew 132 = .ok (.getfield 56, 3) := by decide +kernel
theorem d_Mo_renew_135 : decode b_Mo_renew 135 = .ok (.iload 4, 2) := by decide +kernel
theorem d_Mo_renew_137 : decode b_Mo_renew 137 = .ok (.aload_n 0, 1) := by decide +kernel
theorem d_Mo_renew_138 : decode b_Mo_renew 138 = .ok (.iload_n 1, 1) := by decide +kernel
theorem d_Mo_renew_139 : decode b_Mo_renew 139 = .ok (.invokevirtual 139, 3) := by decide +kernel
theorem d_Mo_renew_142 : decode b_Mo_renew 142 = .ok (.iastore, 1) := by decide +kernel
theorem d_Mo_renew_143 : decode b_Mo_renew 143 = .ok (.aload_n 0, 1) := by decide +kernel
theorem d_Mo_renew_144 : decode b_Mo_renew 144 = .ok (.getfield 59, 3) := by decide +kernel
theorem d_Mo_renew_147 : decode b_Mo_renew 147 = .ok (.iload 4, 2) := by decide +kernel
theorem d_Mo_renew_149 : decode b_Mo_renew 149 = .ok (.iconst 0, 1) := by decide +kernel
theorem d_Mo_renew_150 : decode b_Mo_renew 150 = .ok (.iastore, 1) := by decide +kernel
theorem d_Mo_renew_151 : decode b_Mo_renew 151 = .ok (.return_, 1) := by decide +kernel
theorem d_Mo_die_0 : decode b_Mo_die 0 = .ok (.aload_n 0, 1) := by decide +kernel
theorem d_Mo_die_1 : decode b_Mo_die 1 = .ok (.getfield 38, 3) := by decide +kernel
theorem d_Mo_die_4 : decode b_Mo_die 4 = .ok (.iload_n 2, 1) := by decide +kernel
theorem d_Mo_die_5 : decode b_Mo_die 5 = .ok (.iconst 0, 1) := by decide +kernel
theorem d_Mo_die_6 : decode b_Mo_die 6 = .ok (.iastore, 1) := by decide +kernel
theorem d_Mo_die_7 : decode b_Mo_die 7 = .ok (.aload_n 0, 1) := by decide +kernel
theorem d_Mo_die_8 : decode b_Mo_die 8 = .ok (.getfield 41, 3) := by decide +kernel
theorem d_Mo_die_11 : decode b_Mo_die 11 = .ok (.iload_n 2, 1) := by decide +kernel
theorem d_Mo_die_12 : decode b_Mo_die 12 = .ok (.iconst 0, 1) := by decide +kernel
theorem d_Mo_die_13 : decode b_Mo_die 13 = .ok (.iastore, 1) := by decide +kernel
theorem d_Mo_die_14 : decode b_Mo_die 14 = .ok (.aload_n 0, 1) := by decide +kernel
theorem d_Mo_die_15 : decode b_Mo_die 15 = .ok (.getfield 56, 3) := by decide +kernel
theorem d_Mo_die_18 : decode b_Mo_die 18 = .ok (.iload_n 2, 1) := by decide +kernel
theorem d_Mo_die_19 : decode b_Mo_die 19 = .ok (.aload_n 0, 1) := by decide +kernel
theorem d_Mo_die_20 : decode b_Mo_die 20 = .ok (.iload_n 1, 1) := by decide +kernel
theorem d_Mo_die_21 : decode b_Mo_die 21 = .ok (.invokevirtual 139, 3) := by decide +kernel
theorem d_Mo_die_24 : decode b_Mo_die 24 = .ok (.iastore, 1) := by decide +kernel
theorem d_Mo_die_25 : decode b_Mo_die 25 = .ok (.return_, 1) := by decide +kernel
theorem d_Mo_part_0 : decode b_Mo_part 0 = .ok (.iload_n 1, 1) := by decide +kernel
theorem d_Mo_part_1 : decode b_Mo_part 1 = .ok (.iload_n 2, 1) := by decide +kernel
theorem d_Mo_part_2 : decode b_Mo_part 2 = .ok (.bipush 7, 2) := by decide +kernel
theorem d_Mo_part_4 : decode b_Mo_part 4 = .ok (.iload_n 1, 1) := by decide +kernel
theorem d_Mo_part_5 : decode b_Mo_part 5 = .ok (.imul, 1) := by decide +kernel
theorem d_Mo_part_6 : decode b_Mo_part 6 = .ok (.iload_n 3, 1) := by decide +kernel
theorem d_Mo_part_7 : decode b_Mo_part 7 = .ok (.iadd, 1) := by decide +kernel
theorem d_Mo_part_8 : decode b_Mo_part 8 = .ok (.invokestatic 133, 3) := by decide +kernel
theorem d_Mo_part_11 : decode b_Mo_part 11 = .ok (.istore 4, 2) := by decide +kernel
theorem d_Mo_part_13 : decode b_Mo_part 13 = .ok (.aload_n 0, 1) := by decide +kernel
theorem d_Mo_part_14 : decode b_Mo_part 14 = .ok (.iload_n 1, 1) := by decide +kernel
theorem d_Mo_part_15 : decode b_Mo_part 15 = .ok (.iload_n 2, 1) := by decide +kernel
theorem d_Mo_part_16 : decode b_Mo_part 16 = .ok (.iload_n 3, 1) := by decide +kernel
theorem d_Mo_part_17 : decode b_Mo_part 17 = .ok (.invokevirtual 142, 3) := by decide +kernel
theorem d_Mo_part_20 : decode b_Mo_part 20 = .ok (.ifCond .eq 72, 3) := by decide +kernel
theorem d_Mo_part_23 : decode b_Mo_part 23 = .ok (.aload_n 0, 1) := by decide +kernel
theorem d_Mo_part_24 : decode b_Mo_part 24 = .ok (.getfield 32, 3) := by decide +kernel
theorem d_Mo_part_27 : decode b_Mo_part 27 = .ok (.iload 4, 2) := by decide +kernel
theorem d_Mo_part_29 : decode b_Mo_part 29 = .ok (.iaload, 1) := by decide +kernel
theorem d_Mo_part_30 : decode b_Mo_part 30 = .ok (.ifCond .eq 40, 3) := by decide +kernel
theorem d_Mo_part_33 : decode b_Mo_part 33 = .ok (.aload_n 0, 1) := by decide +kernel
theorem d_Mo_part_34 : decode b_Mo_part 34 = .ok (.getfield 38, 3) := by decide +kernel
theorem d_Mo_part_37 : decode b_Mo_part 37 = .ok (.iload 4, 2) := by decide +kernel
theorem d_Mo_part_39 : decode b_Mo_part 39 = .ok (.iaload, 1) := by decide +kernel
theorem d_Mo_part_40 : decode b_Mo_part 40 = .ok (.iconst 5, 1) := by decide +kernel
theorem d_Mo_part_41 : decode b_Mo_part 41 = .ok (.if_icmp .le 29, 3) := by decide +kernel
theorem d_Mo_part_44 : decode b_Mo_part 44 = .ok (.aload_n 0, 1) := by decide +kernel
theorem d_Mo_part_45 : decode b_Mo_part 45 = .ok (.iload 4, 2) := by decide +kernel
theorem d_Mo_part_47 : decode b_Mo_part 47 = .ok (.invokevirtual 145, 3) := by decide +kernel
theorem d_Mo_part_50 : decode b_Mo_part 50 = .ok (.ifCond .eq 20, 3) := by decide +kernel
theorem d_Mo_part_53 : decode b_Mo_part 53 = .ok (.aload_n 0, 1) := by decide +kernel
theorem d_Mo_part_54 : decode b_Mo_part 54 = .ok (.getfield 44, 3) := by decide +kernel
theorem d_Mo_part_57 : decode b_Mo_part 57 = .ok (.iload 4, 2) := by decide +kernel
theorem d_Mo_part_59 : decode b_Mo_part 59 = .ok (.baload, 1) := by decide +kernel
theorem d_Mo_part_60 : decode b_Mo_part 60 = .ok (.aload_n 0, 1) := by decide +kernel
theorem d_Mo_part_61 : decode b_Mo_part 61 = .ok (.iload_n 1, 1) := by decide +kernel
theorem d_Mo_part_62 : decode b_Mo_part 62 = .ok (.iload_n 2, 1) := by decide +kernel
theorem d_Mo_part_63 : decode b_Mo_part 63 = .ok (.iload_n 3, 1) := by decide +kernel
theorem d_Mo_part_64 : decode b_Mo_part 64 = .ok (.invokevirtual 136, 3) := by decide +kernel
theorem d_Mo_part_67 : decode b_Mo_part 67 = .ok (.if_icmp .eq 7, 3) := by decide +kernel
theorem d_Mo_part_70 : decode b_Mo_part 70 = .ok (.iconst 1, 1) := by decide +kernel
theorem d_Mo_part_71 : decode b_Mo_part 71 = .ok (.goto 4, 3) := by decide +kernel
theorem d_Mo_part_74 : decode b_Mo_part 74 = .ok (.iconst 0, 1) := by decide +kernel
theorem d_Mo_part_75 : decode b_Mo_part 75 = .ok (.istore 5, 2) := by decide +kernel
theorem d_Mo_part_77 : decode b_Mo_part 77 = .ok (.iload 5, 2) := by decide +kernel
theorem d_Mo_part_79 : decode b_Mo_part 79 = .ok (.ifCond .eq 10, 3) := by decide +kernel
theorem d_Mo_part_82 : decode b_Mo_part 82 = .ok (.aload_n 0, 1) := by decide +kernel
theorem d_Mo_part_83 : decode b_Mo_part 83 = .ok (.iload_n 1, 1) := by decide +kernel
theorem d_Mo_part_84 : decode b_Mo_part 84 = .ok (.iload_n 2, 1) := by decide +kernel
theorem d_Mo_part_85 : decode b_Mo_part 85 = .ok (.iload_n 3, 1) := by decide +kernel
theorem d_Mo_part_86 : decode b_Mo_part 86 = .ok (.invokevirtual 148, 3) := by decide +kernel
theorem d_Mo_part_89 : decode b_Mo_part 89 = .ok (.iload 5, 2) := by decide +kernel
theorem d_Mo_part_91 : decode b_Mo_part 91 = .ok (.ireturn, 1) := by decide +kernel
theorem d_Mo_part_92 : decode b_Mo_part 92 = .ok (.aload_n 0, 1) := by decide +kernel
theorem d_Mo_part_93 : decode b_Mo_part 93 = .ok (.getfield 32, 3) := by decide +kernel
theorem d_Mo_part_96 : decode b_Mo_part 96 = .ok (.iload 4, 2) := by decide +kernel
theorem d_Mo_part_98 : decode b_Mo_part 98 = .ok (.iaload, 1) := by decide +kernel
theorem d_Mo_part_99 : decode b_Mo_part 99 = .ok (.ifCond .eq 13, 3) := by decide +kernel
theorem d_Mo_part_102 : decode b_Mo_part 102 = .ok (.aload_n 0, 1) := by decide +kernel
theorem d_Mo_part_103 : decode b_Mo_part 103 = .ok (.getfield 38, 3) := by decide +kernel
theorem d_Mo_part_106 : decode b_Mo_part 106 = .ok (.iload 4, 2) := by decide +kernel
theorem d_Mo_part_108 : decode b_Mo_part 108 = .ok (.iaload, 1) := by decide +kernel
theorem d_Mo_part_109 : decode b_Mo_part 109 = .ok (.ifCond .ne 5, 3) := by decide +kernel
theorem d_Mo_part_112 : decode b_Mo_part 112 = .ok (.iconst 0, 1) := by decide +kernel
theorem d_Mo_part_113 : decode b_Mo_part 113 = .ok (.ireturn, 1) := by decide +kernel
theorem d_Mo_part_114 : decode b_Mo_part 114 = .ok (.aload_n 0, 1) := by decide +kernel
theorem d_Mo_part_115 : decode b_Mo_part 115 = .ok (.iload_n 1, 1) := by decide +kernel
theorem d_Mo_part_116 : decode b_Mo_part 116 = .ok (.iload 4, 2) := by decide +kernel
theorem d_Mo_part_118 : decode b_Mo_part 118 = .ok (.invokevirtual 151, 3) := by decide +kernel
theorem d_Mo_part_121 : decode b_Mo_part 121 = .ok (.iconst 1, 1) := by decide +kernel
theorem d_Mo_part_122 : decode b_Mo_part 122 = .ok (.ireturn, 1) := by decide +kernel
theorem d_Mo_describe_0 : decode b_Mo_describe 0 = .ok (.iload_n 1, 1) := by decide +kernel
theorem d_Mo_describe_1 : decode b_Mo_describe 1 = .ok (.invokestatic 91, 3) := by decide +kernel
theorem d_Mo_describe_4 : decode b_Mo_describe 4 = .ok (.ifCond .ne 9, 3) := by decide +kernel
theorem d_Mo_describe_7 : decode b_Mo_describe 7 = .ok (.aload_n 0, 1) := by decide +kernel
theorem d_Mo_describe_8 : decode b_Mo_describe 8 = .ok (.iconst 1, 1) := by decide +kernel
theorem d_Mo_describe_9 : decode b_Mo_describe 9 = .ok (.invokevirtual 102, 3) := by decide +kernel
theorem d_Mo_describe_12 : decode b_Mo_describe 12 = .ok (.ireturn, 1) := by decide +kernel
theorem d_Mo_describe_13 : decode b_Mo_describe 13 = .ok (.aload_n 0, 1) := by decide +kernel
theorem d_Mo_describe_14 : decode b_Mo_describe 14 = .ok (.iconst 0, 1) := by decide +kernel
theorem d_Mo_describe_15 : decode b_Mo_describe 15 = .ok (.putfield 71, 3) := by decide +kernel
theorem d_Mo_describe_18 : decode b_Mo_describe 18 = .ok (.iconst 0, 1) := by decide +kernel
theorem d_Mo_describe_19 : decode b_Mo_describe 19 = .ok (.istore_n 2, 1) := by decide +kernel
theorem d_Mo_describe_20 : decode b_Mo_describe 20 = .ok (.iconst 1, 1) := by decide +kernel
theorem d_Mo_describe_21 : decode b_Mo_describe 21 = .ok (.istore_n 3, 1) := by decide +kernel
theorem d_Mo_describe_22 : decode b_Mo_describe 22 = .ok (.iload_n 3, 1) := by decide +kernel
theorem d_Mo_describe_23 : decode b_Mo_describe 23 = .ok (.iconst 2, 1) := by decide +kernel
theorem d_Mo_describe_24 : decode b_Mo_describe 24 = .ok (.if_icmp .gt 53, 3) := by decide +kernel
theorem d_Mo_describe_27 : decode b_Mo_describe 27 = .ok (.iconst 0, 1) := by decide +kernel
theorem d_Mo_describe_28 : decode b_Mo_describe 28 = .ok (.istore 4, 2) := by decide +kernel
theorem d_Mo_describe_30 : decode b_Mo_describe 30 = .ok (.iload 4, 2) := by decide +kernel
theorem d_Mo_describe_32 : decode b_Mo_describe 32 = .ok (.bipush 7, 2) := by decide +kernel
theorem d_Mo_describe_34 : decode b_Mo_describe 34 = .ok (.if_icmp .ge 37, 3) := by decide +kernel
theorem d_Mo_describe_37 : decode b_Mo_describe 37 = .ok (.aload_n 0, 1) := by decide +kernel
theorem d_Mo_describe_38 : decode b_Mo_describe 38 = .ok (.iload_n 1, 1) := by decide +kernel
theorem d_Mo_describe_39 : decode b_Mo_describe 39 = .ok (.iload_n 3, 1) := by decide +kernel
theorem d_Mo_describe_40 : decode b_Mo_describe 40 = .ok (.invokevirtual 99, 3) := by decide +kernel
theorem d_Mo_describe_43 : decode b_Mo_describe 43 = .ok (.ifCond .eq 28, 3) := by decide +kernel
theorem d_Mo_describe_46 : decode b_Mo_describe 46 = .ok (.iload_n 2, 1) := by decide +kernel
theorem d_Mo_describe_47 : decode b_Mo_describe 47 = .ok (.aload_n 0, 1) := by decide +kernel
theorem d_Mo_describe_48 : decode b_Mo_describe 48 = .ok (.iload_n 1, 1) := by decide +kernel
theorem d_Mo_describe_49 : decode b_Mo_describe 49 = .ok (.iload_n 3, 1) := by decide +kernel
theorem d_Mo_describe_50 : decode b_Mo_describe 50 = .ok (.iload 4, 2) := by decide +kernel
theorem d_Mo_describe_52 : decode b_Mo_describe 52 = .ok (.invokevirtual 154, 3) := by decide +kernel
theorem d_Mo_describe_55 : decode b_Mo_describe 55 = .ok (.ifCond .eq 7, 3) := by decide +kernel
theorem d_Mo_describe_58 : decode b_Mo_describe 58 = .ok (.iconst 1, 1) := by decide +kernel
theorem d_Mo_describe_59 : decode b_Mo_describe 59 = .ok (.goto 4, 3) := by decide +kernel
theorem d_Mo_describe_62 : decode b_Mo_describe 62 = .ok (.iconst 0, 1) := by decide +kernel
theorem d_Mo_describe_63 : decode b_Mo_describe 63 = .ok (.iadd, 1) := by decide +kernel
theorem d_Mo_describe_64 : decode b_Mo_describe 64 = .ok (.istore_n 2, 1) := by decide +kernel
theorem d_Mo_describe_65 : decode b_Mo_describe 65 = .ok (.iinc 4 1, 3) := by decide +kernel
theorem d_Mo_describe_68 : decode b_Mo_describe 68 = .ok (.goto (-38), 3) := by decide +kernel
theorem d_Mo_describe_71 : decode b_Mo_describe 71 = .ok (.iinc 3 1, 3) := by decide +kernel
theorem d_Mo_describe_74 : decode b_Mo_describe 74 = .ok (.goto (-52), 3) := by decide +kernel
theorem d_Mo_describe_77 : decode b_Mo_describe 77 = .ok (.iload_n 2, 1) := by decide +kernel
theorem d_Mo_describe_78 : decode b_Mo_describe 78 = .ok (.ireturn, 1) := by decide +kernel
theorem d_Mo_newer_0 : decode b_Mo_newer 0 = .ok (.iload_n 0, 1) := by decide +kernel
theorem d_Mo_newer_1 : decode b_Mo_newer 1 = .ok (.iload_n 2, 1) := by decide +kernel
theorem d_Mo_newer_2 : decode b_Mo_newer 2 = .ok (.if_icmp .gt 16, 3) := by decide +kernel
theorem d_Mo_newer_5 : decode b_Mo_newer 5 = .ok (.iload_n 0, 1) := by decide +kernel
theorem d_Mo_newer_6 : decode b_Mo_newer 6 = .ok (.iload_n 2, 1) := by decide +kernel
theorem d_Mo_newer_7 : decode b_Mo_newer 7 = .ok (.if_icmp .ne 15, 3) := by decide +kernel
theorem d_Mo_newer_10 : decode b_Mo_newer 10 = .ok (.iload_n 1, 1) := by decide +kernel
theorem d_Mo_newer_11 : decode b_Mo_newer 11 = .ok (.ifCond .eq 11, 3) := by decide +kernel
theorem d_Mo_newer_14 : decode b_Mo_newer 14 = .ok (.iload_n 3, 1) := by decide +kernel
theorem d_Mo_newer_15 : decode b_Mo_newer 15 = .ok (.ifCond .ne 7, 3) := by decide +kernel
theorem d_Mo_newer_18 : decode b_Mo_newer 18 = .ok (.iconst 1, 1) := by decide +kernel
theorem d_Mo_newer_19 : decode b_Mo_newer 19 = .ok (.goto 4, 3) := by decide +kernel
theorem d_Mo_newer_22 : decode b_Mo_newer 22 = .ok (.iconst 0, 1) := by decide +kernel
theorem d_Mo_newer_23 : decode b_Mo_newer 23 = .ok (.ireturn, 1) := by decide +kernel
theorem d_Mo_copy_0 : decode b_Mo_copy 0 = .ok (.aload_n 0, 1) := by decide +kernel
theorem d_Mo_copy_1 : decode b_Mo_copy 1 = .ok (.getfield 32, 3) := by decide +kernel
theorem d_Mo_copy_4 : decode b_Mo_copy 4 = .ok (.iload_n 2, 1) := by decide +kernel
theorem d_Mo_copy_5 : decode b_Mo_copy 5 = .ok (.aload_n 0, 1) := by decide +kernel
theorem d_Mo_copy_6 : decode b_Mo_copy 6 = .ok (.getfield 32, 3) := by decide +kernel
theorem d_Mo_copy_9 : decode b_Mo_copy 9 = .ok (.iload_n 1, 1) := by decide +kernel
theorem d_Mo_copy_10 : decode b_Mo_copy 10 = .ok (.iaload, 1) := by decide +kernel
theorem d_Mo_copy_11 : decode b_Mo_copy 11 = .ok (.iastore, 1) := by decide +kernel
theorem d_Mo_copy_12 : decode b_Mo_copy 12 = .ok (.aload_n 0, 1) := by decide +kernel
theorem d_Mo_copy_13 : decode b_Mo_copy 13 = .ok (.getfield 35, 3) := by decide +kernel
theorem d_Mo_copy_16 : decode b_Mo_copy 16 = .ok (.iload_n 2, 1) := by decide +kernel
theorem d_Mo_copy_17 : decode b_Mo_copy 17 = .ok (.aload_n 0, 1) := by decide +kernel
theorem d_Mo_copy_18 : decode b_Mo_copy 18 = .ok (.getfield 32, 3) := by decide +kernel
theorem d_Mo_copy_21 : decode b_Mo_copy 21 = .ok (.iload_n 2, 1) := by decide +kernel
theorem d_Mo_copy_22 : decode b_Mo_copy 22 = .ok (.iaload, 1) := by decide +kernel
theorem d_Mo_copy_23 : decode b_Mo_copy 23 = .ok (.aload_n 0, 1) := by decide +kernel
theorem d_Mo_copy_24 : decode b_Mo_copy 24 = .ok (.getfield 35, 3) := by decide +kernel
theorem d_Mo_copy_27 : decode b_Mo_copy 27 = .ok (.iload_n 2, 1) := by decide +kernel
theorem d_Mo_copy_28 : decode b_Mo_copy 28 = .ok (.iaload, 1) := by decide +kernel
theorem d_Mo_copy_29 : decode b_Mo_copy 29 = .ok (.if_icmp .le 12, 3) := by decide +kernel
theorem d_Mo_copy_32 : decode b_Mo_copy 32 = .ok (.aload_n 0, 1) := by decide +kernel
theorem d_Mo_copy_33 : decode b_Mo_copy 33 = .ok (.getfield 32, 3) := by decide +kernel
theorem d_Mo_copy_36 : decode b_Mo_copy 36 = .ok (.iload_n 2, 1) := by decide +kernel
theorem d_Mo_copy_37 : decode b_Mo_copy 37 = .ok (.iaload, 1) := by decide +kernel
theorem d_Mo_copy_38 : decode b_Mo_copy 38 = .ok (.goto 9, 3) := by decide +kernel
theorem d_Mo_copy_41 : decode b_Mo_copy 41 = .ok (.aload_n 0, 1) := by decide +kernel
theorem d_Mo_copy_42 : decode b_Mo_copy 42 = .ok (.getfield 35, 3) := by decide +kernel
theorem d_Mo_copy_45 : decode b_Mo_copy 45 = .ok (.iload_n 2, 1) := by decide +kernel
theorem d_Mo_copy_46 : decode b_Mo_copy 46 = .ok (.iaload, 1) := by decide +kernel
theorem d_Mo_copy_47 : decode b_Mo_copy 47 = .ok (.iastore, 1) := by decide +kernel
theorem d_Mo_copy_48 : decode b_Mo_copy 48 = .ok (.aload_n 0, 1) := by decide +kernel
theorem d_Mo_copy_49 : decode b_Mo_copy 49 = .ok (.getfield 38, 3) := by decide +kernel
theorem d_Mo_copy_52 : decode b_Mo_copy 52 = .ok (.iload_n 2, 1) := by decide +kernel
theorem d_Mo_copy_53 : decode b_Mo_copy 53 = .ok (.aload_n 0, 1) := by decide +kernel
theorem d_Mo_copy_54 : decode b_Mo_copy 54 = .ok (.getfield 38, 3) := by decide +kernel
theorem d_Mo_copy_57 : decode b_Mo_copy 57 = .ok (.iload_n 1, 1) := by decide +kernel
theorem d_Mo_copy_58 : decode b_Mo_copy 58 = .ok (.iaload, 1) := by decide +kernel
theorem d_Mo_copy_59 : decode b_Mo_copy 59 = .ok (.iastore, 1) := by decide +kernel
theorem d_Mo_copy_60 : decode b_Mo_copy 60 = .ok (.aload_n 0, 1) := by decide +kernel
theorem d_Mo_copy_61 : decode b_Mo_copy 61 = .ok (.getfield 41, 3) := by decide +kernel
theorem d_Mo_copy_64 : decode b_Mo_copy 64 = .ok (.iload_n 2, 1) := by decide +kernel
theorem d_Mo_copy_65 : decode b_Mo_copy 65 = .ok (.iconst 0, 1) := by decide +kernel
theorem d_Mo_copy_66 : decode b_Mo_copy 66 = .ok (.iastore, 1) := by decide +kernel
theorem d_Mo_copy_67 : decode b_Mo_copy 67 = .ok (.aload_n 0, 1) := by decide +kernel
theorem d_Mo_copy_68 : decode b_Mo_copy 68 = .ok (.getfield 44, 3) := by decide +kernel
theorem d_Mo_copy_71 : decode b_Mo_copy 71 = .ok (.iload_n 2, 1) := by decide +kernel
theorem d_Mo_copy_72 : decode b_Mo_copy 72 = .ok (.aload_n 0, 1) := by decide +kernel
theorem d_Mo_copy_73 : decode b_Mo_copy 73 = .ok (.getfield 44, 3) := by decide +kernel
theorem d_Mo_copy_76 : decode b_Mo_copy 76 = .ok (.iload_n 1, 1) := by decide +kernel
theorem d_Mo_copy_77 : decode b_Mo_copy 77 = .ok (.baload, 1) := by decide +kernel
theorem d_Mo_copy_78 : decode b_Mo_copy 78 = .ok (.bastore, 1) := by decide +kernel
theorem d_Mo_copy_79 : decode b_Mo_copy 79 = .ok (.aload_n 0, 1) := by decide +kernel
theorem d_Mo_copy_80 : decode b_Mo_copy 80 = .ok (.getfield 47, 3) := by decide +kernel
theorem d_Mo_copy_83 : decode b_Mo_copy 83 = .ok (.iload_n 2, 1) := by decide +kernel
theorem d_Mo_copy_84 : decode b_Mo_copy 84 = .ok (.aload_n 0, 1) := by decide +kernel
theorem d_Mo_copy_85 : decode b_Mo_copy 85 = .ok (.getfield 47, 3) := by decide +kernel
theorem d_Mo_copy_88 : decode b_Mo_copy 88 = .ok (.iload_n 1, 1) := by decide +kernel
theorem d_Mo_copy_89 : decode b_Mo_copy 89 = .ok (.iaload, 1) := by decide +kernel
theorem d_Mo_copy_90 : decode b_Mo_copy 90 = .ok (.iastore, 1) := by decide +kernel
theorem d_Mo_copy_91 : decode b_Mo_copy 91 = .ok (.aload_n 0, 1) := by decide +kernel
theorem d_Mo_copy_92 : decode b_Mo_copy 92 = .ok (.getfield 50, 3) := by decide +kernel
theorem d_Mo_copy_95 : decode b_Mo_copy 95 = .ok (.iload_n 2, 1) := by decide +kernel
theorem d_Mo_copy_96 : decode b_Mo_copy 96 = .ok (.aload_n 0, 1) := by decide +kernel
theorem d_Mo_copy_97 : decode b_Mo_copy 97 = .ok (.getfield 50, 3) := by decide +kernel
theorem d_Mo_copy_100 : decode b_Mo_copy 100 = .ok (.iload_n 1, 1) := by decide +kernel
theorem d_Mo_copy_101 : decode b_Mo_copy 101 = .ok (.iaload, 1) := by decide +kernel
theorem d_Mo_copy_102 : decode b_Mo_copy 102 = .ok (.iastore, 1) := by decide +kernel
theorem d_Mo_copy_103 : decode b_Mo_copy 103 = .ok (.iconst 0, 1) := by decide +kernel
theorem d_Mo_copy_104 : decode b_Mo_copy 104 = .ok (.istore_n 3, 1) := by decide +kernel
theorem d_Mo_copy_105 : decode b_Mo_copy 105 = .ok (.iload_n 3, 1) := by decide +kernel
theorem d_Mo_copy_106 : decode b_Mo_copy 106 = .ok (.aload_n 0, 1) := by decide +kernel
theorem d_Mo_copy_107 : decode b_Mo_copy 107 = .ok (.getfield 50, 3) := by decide +kernel
theorem d_Mo_copy_110 : decode b_Mo_copy 110 = .ok (.iload_n 1, 1) := by decide +kernel
theorem d_Mo_copy_111 : decode b_Mo_copy 111 = .ok (.iaload, 1) := by decide +kernel
theorem d_Mo_copy_112 : decode b_Mo_copy 112 = .ok (.if_icmp .ge 31, 3) := by decide +kernel
theorem d_Mo_copy_115 : decode b_Mo_copy 115 = .ok (.aload_n 0, 1) := by decide +kernel
theorem d_Mo_copy_116 : decode b_Mo_copy 116 = .ok (.getfield 53, 3) := by decide +kernel
theorem d_Mo_copy_119 : decode b_Mo_copy 119 = .ok (.bipush 10, 2) := by decide +kernel
theorem d_Mo_copy_121 : decode b_Mo_copy 121 = .ok (.iload_n 2, 1) := by decide +kernel
theorem d_Mo_copy_122 : decode b_Mo_copy 122 = .ok (.imul, 1) := by decide +kernel
theorem d_Mo_copy_123 : decode b_Mo_copy 123 = .ok (.iload_n 3, 1) := by decide +kernel
theorem d_Mo_copy_124 : decode b_Mo_copy 124 = .ok (.iadd, 1) := by decide +kernel
theorem d_Mo_copy_125 : decode b_Mo_copy 125 = .ok (.aload_n 0, 1) := by decide +kernel
theorem d_Mo_copy_126 : decode b_Mo_copy 126 = .ok (.getfield 53, 3) := by decide +kernel
theorem d_Mo_copy_129 : decode b_Mo_copy 129 = .ok (.bipush 10, 2) := by decide +kernel
theorem d_Mo_copy_131 : decode b_Mo_copy 131 = .ok (.iload_n 1, 1) := by decide +kernel
theorem d_Mo_copy_132 : decode b_Mo_copy 132 = .ok (.imul, 1) := by decide +kernel
theorem d_Mo_copy_133 : decode b_Mo_copy 133 = .ok (.iload_n 3, 1) := by decide +kernel
theorem d_Mo_copy_134 : decode b_Mo_copy 134 = .ok (.iadd, 1) := by decide +kernel
theorem d_Mo_copy_135 : decode b_Mo_copy 135 = .ok (.iaload, 1) := by decide +kernel
theorem d_Mo_copy_136 : decode b_Mo_copy 136 = .ok (.iastore, 1) := by decide +kernel
theorem d_Mo_copy_137 : decode b_Mo_copy 137 = .ok (.iinc 3 1, 3) := by decide +kernel
theorem d_Mo_copy_140 : decode b_Mo_copy 140 = .ok (.goto (-35), 3) := by decide +kernel
theorem d_Mo_copy_143 : decode b_Mo_copy 143 = .ok (.return_, 1) := by decide +kernel
theorem d_Mo_own_0 : decode b_Mo_own 0 = .ok (.iload_n 1, 1) := by decide +kernel
theorem d_Mo_own_1 : decode b_Mo_own 1 = .ok (.iload_n 2, 1) := by decide +kernel
theorem d_Mo_own_2 : decode b_Mo_own 2 = .ok (.bipush 7, 2) := by decide +kernel
theorem d_Mo_own_4 : decode b_Mo_own 4 = .ok (.iload_n 1, 1) := by decide +kernel
theorem d_Mo_own_5 : decode b_Mo_own 5 = .ok (.imul, 1) := by decide +kernel
theorem d_Mo_own_6 : decode b_Mo_own 6 = .ok (.iload_n 3, 1) := by decide +kernel
theorem d_Mo_own_7 : decode b_Mo_own 7 = .ok (.iadd, 1) := by decide +kernel
theorem d_Mo_own_8 : decode b_Mo_own 8 = .ok (.invokestatic 133, 3) := by decide +kernel
theorem d_Mo_own_11 : decode b_Mo_own 11 = .ok (.istore 4, 2) := by decide +kernel
theorem d_Mo_own_13 : decode b_Mo_own 13 = .ok (.aload_n 0, 1) := by decide +kernel
theorem d_Mo_own_14 : decode b_Mo_own 14 = .ok (.iload_n 1, 1) := by decide +kernel
theorem d_Mo_own_15 : decode b_Mo_own 15 = .ok (.iload_n 2, 1) := by decide +kernel
theorem d_Mo_own_16 : decode b_Mo_own 16 = .ok (.iload_n 3, 1) := by decide +kernel
theorem d_Mo_own_17 : decode b_Mo_own 17 = .ok (.invokevirtual 142, 3) := by decide +kernel
theorem d_Mo_own_20 : decode b_Mo_own 20 = .ok (.ifCond .eq 13, 3) := by decide +kernel
theorem d_Mo_own_23 : decode b_Mo_own 23 = .ok (.aload_n 0, 1) := by decide +kernel
theorem d_Mo_own_24 : decode b_Mo_own 24 = .ok (.iload_n 1, 1) := by decide +kernel
theorem d_Mo_own_25 : decode b_Mo_own 25 = .ok (.iload_n 2, 1) := by decide +kernel
theorem d_Mo_own_26 : decode b_Mo_own 26 = .ok (.iload_n 3, 1) := by decide +kernel
theorem d_Mo_own_27 : decode b_Mo_own 27 = .ok (.invokevirtual 148, 3) := by decide +kernel
theorem d_Mo_own_30 : decode b_Mo_own 30 = .ok (.goto 18, 3) := by decide +kernel
theorem d_Mo_own_33 : decode b_Mo_own 33 = .ok (.aload_n 0, 1) := by decide +kernel
theorem d_Mo_own_34 : decode b_Mo_own 34 = .ok (.iload_n 1, 1) := by decide +kernel
theorem d_Mo_own_35 : decode b_Mo_own 35 = .ok (.iload 4, 2) := by decide +kernel
theorem d_Mo_own_37 : decode b_Mo_own 37 = .ok (.invokevirtual 151, 3) := by decide +kernel
theorem d_Mo_own_40 : decode b_Mo_own 40 = .ok (.aload_n 0, 1) := by decide +kernel
theorem d_Mo_own_41 : decode b_Mo_own 41 = .ok (.getfield 59, 3) := by decide +kernel
theorem d_Mo_own_44 : decode b_Mo_own 44 = .ok (.iload 4, 2) := by decide +kernel
theorem d_Mo_own_46 : decode b_Mo_own 46 = .ok (.iconst 0, 1) := by decide +kernel
theorem d_Mo_own_47 : decode b_Mo_own 47 = .ok (.iastore, 1) := by decide +kernel
theorem d_Mo_own_48 : decode b_Mo_own 48 = .ok (.return_, 1) := by decide +kernel
theorem d_Mo_take_0 : decode b_Mo_take 0 = .ok (.iload_n 1, 1) := by decide +kernel
theorem d_Mo_take_1 : decode b_Mo_take 1 = .ok (.iload 4, 2) := by decide +kernel
theorem d_Mo_take_3 : decode b_Mo_take 3 = .ok (.iload 5, 2) := by decide +kernel
theorem d_Mo_take_5 : decode b_Mo_take 5 = .ok (.invokestatic 133, 3) := by decide +kernel
theorem d_Mo_take_8 : decode b_Mo_take 8 = .ok (.istore 6, 2) := by decide +kernel
theorem d_Mo_take_10 : decode b_Mo_take 10 = .ok (.iload_n 2, 1) := by decide +kernel
theorem d_Mo_take_11 : decode b_Mo_take 11 = .ok (.iload 4, 2) := by decide +kernel
theorem d_Mo_take_13 : decode b_Mo_take 13 = .ok (.iload 5, 2) := by decide +kernel
theorem d_Mo_take_15 : decode b_Mo_take 15 = .ok (.invokestatic 133, 3) := by decide +kernel
theorem d_Mo_take_18 : decode b_Mo_take 18 = .ok (.istore 7, 2) := by decide +kernel
theorem d_Mo_take_20 : decode b_Mo_take 20 = .ok (.iconst 1, 1) := by decide +kernel
theorem d_Mo_take_21 : decode b_Mo_take 21 = .ok (.iload_n 3, 1) := by decide +kernel
theorem d_Mo_take_22 : decode b_Mo_take 22 = .ok (.ishl, 1) := by decide +kernel
theorem d_Mo_take_23 : decode b_Mo_take 23 = .ok (.istore 8, 2) := by decide +kernel
theorem d_Mo_take_25 : decode b_Mo_take 25 = .ok (.aload_n 0, 1) := by decide +kernel
theorem d_Mo_take_26 : decode b_Mo_take 26 = .ok (.getfield 38, 3) := by decide +kernel
theorem d_Mo_take_29 : decode b_Mo_take 29 = .ok (.iload 6, 2) := by decide +kernel
theorem d_Mo_take_31 : decode b_Mo_take 31 = .ok (.iaload, 1) := by decide +kernel
theorem d_Mo_take_32 : decode b_Mo_take 32 = .ok (.ifCond .ne 7, 3) := by decide +kernel
theorem d_Mo_take_35 : decode b_Mo_take 35 = .ok (.iconst 1, 1) := by decide +kernel
theorem d_Mo_take_36 : decode b_Mo_take 36 = .ok (.goto 4, 3) := by decide +kernel
theorem d_Mo_take_39 : decode b_Mo_take 39 = .ok (.iconst 0, 1) := by decide +kernel
theorem d_Mo_take_40 : decode b_Mo_take 40 = .ok (.istore 9, 2) := by decide +kernel
theorem d_Mo_take_42 : decode b_Mo_take 42 = .ok (.aload_n 0, 1) := by decide +kernel
theorem d_Mo_take_43 : decode b_Mo_take 43 = .ok (.getfield 38, 3) := by decide +kernel
theorem d_Mo_take_46 : decode b_Mo_take 46 = .ok (.iload 7, 2) := by decide +kernel
theorem d_Mo_take_48 : decode b_Mo_take 48 = .ok (.iaload, 1) := by decide +kernel
theorem d_Mo_take_49 : decode b_Mo_take 49 = .ok (.ifCond .ne 7, 3) := by decide +kernel
theorem d_Mo_take_52 : decode b_Mo_take 52 = .ok (.iconst 1, 1) := by decide +kernel
theorem d_Mo_take_53 : decode b_Mo_take 53 = .ok (.goto 4, 3) := by decide +kernel
theorem d_Mo_take_56 : decode b_Mo_take 56 = .ok (.iconst 0, 1) := by decide +kernel
theorem d_Mo_take_57 : decode b_Mo_take 57 = .ok (.istore 10, 2) := by decide +kernel
theorem d_Mo_take_59 : decode b_Mo_take 59 = .ok (.aload_n 0, 1) := by decide +kernel
theorem d_Mo_take_60 : decode b_Mo_take 60 = .ok (.getfield 32, 3) := by decide +kernel
theorem d_Mo_take_63 : decode b_Mo_take 63 = .ok (.iload 6, 2) := by decide +kernel
theorem d_Mo_take_65 : decode b_Mo_take 65 = .ok (.iaload, 1) := by decide +kernel
theorem d_Mo_take_66 : decode b_Mo_take 66 = .ok (.ifCond .eq 27, 3) := by decide +kernel
theorem d_Mo_take_69 : decode b_Mo_take 69 = .ok (.aload_n 0, 1) := by decide +kernel
theorem d_Mo_take_70 : decode b_Mo_take 70 = .ok (.getfield 32, 3) := by decide +kernel
theorem d_Mo_take_73 : decode b_Mo_take 73 = .ok (.iload 7, 2) := by decide +kernel
theorem d_Mo_take_75 : decode b_Mo_take 75 = .ok (.iaload, 1) := by decide +kernel
theorem d_Mo_take_76 : decode b_Mo_take 76 = .ok (.iload 10, 2) := by decide +kernel
theorem d_Mo_take_78 : decode b_Mo_take 78 = .ok (.aload_n 0, 1) := by decide +kernel
theorem d_Mo_take_79 : decode b_Mo_take 79 = .ok (.getfield 32, 3) := by decide +kernel
theorem d_Mo_take_82 : decode b_Mo_take 82 = .ok (.iload 6, 2) := by decide +kernel
theorem d_Mo_take_84 : decode b_Mo_take 84 = .ok (.iaload, 1) := by decide +kernel
theorem d_Mo_take_85 : decode b_Mo_take 85 = .ok (.iload 9, 2) := by decide +kernel
theorem d_Mo_take_87 : decode b_Mo_take 87 = .ok (.invokestatic 157, 3) := by decide +kernel
theorem d_Mo_take_90 : decode b_Mo_take 90 = .ok (.ifCond .eq 93, 3) := by decide +kernel
theorem d_Mo_take_93 : decode b_Mo_take 93 = .ok (.aload_n 0, 1) := by decide +kernel
theorem d_Mo_take_94 : decode b_Mo_take 94 = .ok (.iload 7, 2) := by decide +kernel
theorem d_Mo_take_96 : decode b_Mo_take 96 = .ok (.iload 6, 2) := by decide +kernel
theorem d_Mo_take_98 : decode b_Mo_take 98 = .ok (.invokevirtual 161, 3) := by decide +kernel
theorem d_Mo_take_101 : decode b_Mo_take 101 = .ok (.iload 5, 2) := by decide +kernel
theorem d_Mo_take_103 : decode b_Mo_take 103 = .ok (.bipush 7, 2) := by decide +kernel
theorem d_Mo_take_105 : decode b_Mo_take 105 = .ok (.idiv, 1) := by decide +kernel
theorem d_Mo_take_106 : decode b_Mo_take 106 = .ok (.iload_n 1, 1) := by decide +kernel
theorem d_Mo_take_107 : decode b_Mo_take 107 = .ok (.if_icmp .ne 21, 3) := by decide +kernel
theorem d_Mo_take_110 : decode b_Mo_take 110 = .ok (.iload 10, 2) := by decide +kernel
theorem d_Mo_take_112 : decode b_Mo_take 112 = .ok (.ifCond .ne 16, 3) := by decide +kernel
theorem d_Mo_take_115 : decode b_Mo_take 115 = .ok (.aload_n 0, 1) := by decide +kernel
theorem d_Mo_take_116 : decode b_Mo_take 116 = .ok (.iload_n 1, 1) := by decide +kernel
theorem d_Mo_take_117 : decode b_Mo_take 117 = .ok (.iload 4, 2) := by decide +kernel
theorem d_Mo_take_119 : decode b_Mo_take 119 = .ok (.iload 5, 2) := by decide +kernel
theorem d_Mo_take_121 : decode b_Mo_take 121 = .ok (.bipush 7, 2) := by decide +kernel
theorem d_Mo_take_123 : decode b_Mo_take 123 = .ok (.irem, 1) := by decide +kernel
theorem d_Mo_take_124 : decode b_Mo_take 124 = .ok (.invokevirtual 164, 3) := by decide +kernel
theorem d_Mo_take_127 : decode b_Mo_take 127 = .ok (.return_, 1) := by decide +kernel
theorem d_Mo_take_128 : decode b_Mo_take 128 = .ok (.aload_n 0, 1) := by decide +kernel
theorem d_Mo_take_129 : decode b_Mo_take 129 = .ok (.getfield 56, 3) := by decide +kernel
theorem d_Mo_take_132 : decode b_Mo_take 132 = .ok (.iload 6, 2) := by decide +kernel
theorem d_Mo_take_134 : decode b_Mo_take 134 = .ok (.aload_n 0, 1) := by decide +kernel
theorem d_Mo_take_135 : decode b_Mo_take 135 = .ok (.iload_n 1, 1) := by decide +kernel
theorem d_Mo_take_136 : decode b_Mo_take 136 = .ok (.invokevirtual 139, 3) := by decide +kernel
theorem d_Mo_take_139 : decode b_Mo_take 139 = .ok (.iload 8, 2) := by decide +kernel
theorem d_Mo_take_141 : decode b_Mo_take 141 = .ok (.iconst (-1), 1) := by decide +kernel
theorem d_Mo_take_142 : decode b_Mo_take 142 = .ok (.ixor, 1) := by decide +kernel
theorem d_Mo_take_143 : decode b_Mo_take 143 = .ok (.iand, 1) := by decide +kernel
theorem d_Mo_take_144 : decode b_Mo_take 144 = .ok (.iastore, 1) := by decide +kernel
theorem d_Mo_take_145 : decode b_Mo_take 145 = .ok (.aload_n 0, 1) := by decide +kernel
theorem d_Mo_take_146 : decode b_Mo_take 146 = .ok (.getfield 59, 3) := by decide +kernel
theorem d_Mo_take_149 : decode b_Mo_take 149 = .ok (.iload 6, 2) := by decide +kernel
theorem d_Mo_take_151 : decode b_Mo_take 151 = .ok (.aload_n 0, 1) := by decide +kernel
theorem d_Mo_take_152 : decode b_Mo_take 152 = .ok (.iload_n 3, 1) := by decide +kernel
theorem d_Mo_take_153 : decode b_Mo_take 153 = .ok (.invokevirtual 111, 3) := by decide +kernel
theorem d_Mo_take_156 : decode b_Mo_take 156 = .ok (.ifCond .eq 13, 3) := by decide +kernel
theorem d_Mo_take_159 : decode b_Mo_take 159 = .ok (.aload_n 0, 1) := by decide +kernel
theorem d_Mo_take_160 : decode b_Mo_take 160 = .ok (.getfield 59, 3) := by decide +kernel
theorem d_Mo_take_163 : decode b_Mo_take 163 = .ok (.iload 6, 2) := by decide +kernel
theorem d_Mo_take_165 : decode b_Mo_take 165 = .ok (.iaload, 1) := by decide +kernel
theorem d_Mo_take_166 : decode b_Mo_take 166 = .ok (.goto 13, 3) := by decide +kernel
theorem d_Mo_take_169 : decode b_Mo_take 169 = .ok (.aload_n 0, 1) := by decide +kernel
theorem d_Mo_take_170 : decode b_Mo_take 170 = .ok (.getfield 59, 3) := by decide +kernel
theorem d_Mo_take_173 : decode b_Mo_take 173 = .ok (.iload 6, 2) := by decide +kernel
theorem d_Mo_take_175 : decode b_Mo_take 175 = .ok (.iaload, 1) := by decide +kernel
theorem d_Mo_take_176 : decode b_Mo_take 176 = .ok (.iload 8, 2) := by decide +kernel
theorem d_Mo_take_178 : decode b_Mo_take 178 = .ok (.ior, 1) := by decide +kernel
theorem d_Mo_take_179 : decode b_Mo_take 179 = .ok (.iastore, 1) := by decide +kernel
theorem d_Mo_take_180 : decode b_Mo_take 180 = .ok (.goto 120, 3) := by decide +kernel
theorem d_Mo_take_183 : decode b_Mo_take 183 = .ok (.aload_n 0, 1) := by decide +kernel
theorem d_Mo_take_184 : decode b_Mo_take 184 = .ok (.getfield 32, 3) := by decide +kernel
theorem d_Mo_take_187 : decode b_Mo_take 187 = .ok (.iload 6, 2) := by decide +kernel
theorem d_Mo_take_189 : decode b_Mo_take 189 = .ok (.iaload, 1) := by decide +kernel
theorem d_Mo_take_190 : decode b_Mo_take 190 = .ok (.iload 9, 2) := by decide +kernel
theorem d_Mo_take_192 : decode b_Mo_take 192 = .ok (.aload_n 0, 1) := by decide +kernel
theorem d_Mo_take_193 : decode b_Mo_take 193 = .ok (.getfield 32, 3) := by decide +kernel
theorem d_Mo_take_196 : decode b_Mo_take 196 = .ok (.iload 7, 2) := by decide +kernel
theorem d_Mo_take_198 : decode b_Mo_take 198 = .ok (.iaload, 1) := by decide +kernel
theorem d_Mo_take_199 : decode b_Mo_take 199 = .ok (.iload 10, 2) := by decide +kernel
theorem d_Mo_take_201 : decode b_Mo_take 201 = .ok (.invokestatic 157, 3) := by decide +kernel
theorem d_Mo_take_204 : decode b_Mo_take 204 = .ok (.ifCond .eq 42, 3) := by decide +kernel
theorem d_Mo_take_207 : decode b_Mo_take 207 = .ok (.aload_n 0, 1) := by decide +kernel
theorem d_Mo_take_208 : decode b_Mo_take 208 = .ok (.getfield 56, 3) := by decide +kernel
theorem d_Mo_take_211 : decode b_Mo_take 211 = .ok (.iload 6, 2) := by decide +kernel
theorem d_Mo_take_213 : decode b_Mo_take 213 = .ok (.aload_n 0, 1) := by decide +kernel
theorem d_Mo_take_214 : decode b_Mo_take 214 = .ok (.getfield 56, 3) := by decide +kernel
theorem d_Mo_take_217 : decode b_Mo_take 217 = .ok (.iload 6, 2) := by decide +kernel
theorem d_Mo_take_219 : decode b_Mo_take 219 = .ok (.iaload, 1) := by decide +kernel
theorem d_Mo_take_220 : decode b_Mo_take 220 = .ok (.iload 8, 2) := by decide +kernel
theorem d_Mo_take_222 : decode b_Mo_take 222 = .ok (.ior, 1) := by decide +kernel
theorem d_Mo_take_223 : decode b_Mo_take 223 = .ok (.iastore, 1) := by decide +kernel
theorem d_Mo_take_224 : decode b_Mo_take 224 = .ok (.aload_n 0, 1) := by decide +kernel
theorem d_Mo_take_225 : decode b_Mo_take 225 = .ok (.getfield 59, 3) := by decide +kernel
theorem d_Mo_take_228 : decode b_Mo_take 228 = .ok (.iload 6, 2) := by decide +kernel
theorem d_Mo_take_230 : decode b_Mo_take 230 = .ok (.aload_n 0, 1) := by decide +kernel
theorem d_Mo_take_231 : decode b_Mo_take 231 = .ok (.getfield 59, 3) := by decide +kernel
theorem d_Mo_take_234 : decode b_Mo_take 234 = .ok (.iload 6, 2) := by decide +kernel
theorem d_Mo_take_236 : decode b_Mo_take 236 = .ok (.iaload, 1) := by decide +kernel
theorem d_Mo_take_237 : decode b_Mo_take 237 = .ok (.iload 8, 2) := by decide +kernel
theorem d_Mo_take_239 : decode b_Mo_take 239 = .ok (.iconst (-1), 1) := by decide +kernel
theorem d_Mo_take_240 : decode b_Mo_take 240 = .ok (.ixor, 1) := by decide +kernel
theorem d_Mo_take_241 : decode b_Mo_take 241 = .ok (.iand, 1) := by decide +kernel
theorem d_Mo_take_242 : decode b_Mo_take 242 = .ok (.iastore, 1) := by decide +kernel
theorem d_Mo_take_243 : decode b_Mo_take 243 = .ok (.goto 57, 3) := by decide +kernel
theorem d_Mo_take_246 : decode b_Mo_take 246 = .ok (.aload_n 0, 1) := by decide +kernel
theorem d_Mo_take_247 : decode b_Mo_take 247 = .ok (.getfield 56, 3) := by decide +kernel
theorem d_Mo_take_250 : decode b_Mo_take 250 = .ok (.iload 6, 2) := by decide +kernel
theorem d_Mo_take_252 : decode b_Mo_take 252 = .ok (.aload_n 0, 1) := by decide +kernel
theorem d_Mo_take_253 : decode b_Mo_take 253 = .ok (.getfield 56, 3) := by decide +kernel
theorem d_Mo_take_256 : decode b_Mo_take 256 = .ok (.iload 6, 2) := by decide +kernel
theorem d_Mo_take_258 : decode b_Mo_take 258 = .ok (.iaload, 1) := by decide +kernel
theorem d_Mo_take_259 : decode b_Mo_take 259 = .ok (.iload 8, 2) := by decide +kernel
theorem d_Mo_take_261 : decode b_Mo_take 261 = .ok (.iconst (-1), 1) := by decide +kernel
theorem d_Mo_take_262 : decode b_Mo_take 262 = .ok (.ixor, 1) := by decide +kernel
theorem d_Mo_take_263 : decode b_Mo_take 263 = .ok (.iand, 1) := by decide +kernel
theorem d_Mo_take_264 : decode b_Mo_take 264 = .ok (.iastore, 1) := by decide +kernel
theorem d_Mo_take_265 : decode b_Mo_take 265 = .ok (.aload_n 0, 1) := by decide +kernel
theorem d_Mo_take_266 : decode b_Mo_take 266 = .ok (.getfield 59, 3) := by decide +kernel
theorem d_Mo_take_269 : decode b_Mo_take 269 = .ok (.iload 6, 2) := by decide +kernel
theorem d_Mo_take_271 : decode b_Mo_take 271 = .ok (.aload_n 0, 1) := by decide +kernel
theorem d_Mo_take_272 : decode b_Mo_take 272 = .ok (.iload_n 3, 1) := by decide +kernel
theorem d_Mo_take_273 : decode b_Mo_take 273 = .ok (.invokevirtual 111, 3) := by decide +kernel
theorem d_Mo_take_276 : decode b_Mo_take 276 = .ok (.ifCond .eq 13, 3) := by decide +kernel
theorem d_Mo_take_279 : decode b_Mo_take 279 = .ok (.aload_n 0, 1) := by decide +kernel
theorem d_Mo_take_280 : decode b_Mo_take 280 = .ok (.getfield 59, 3) := by decide +kernel
theorem d_Mo_take_283 : decode b_Mo_take 283 = .ok (.iload 6, 2) := by decide +kernel
theorem d_Mo_take_285 : decode b_Mo_take 285 = .ok (.iaload, 1) := by decide +kernel
theorem d_Mo_take_286 : decode b_Mo_take 286 = .ok (.goto 13, 3) := by decide +kernel
theorem d_Mo_take_289 : decode b_Mo_take 289 = .ok (.aload_n 0, 1) := by decide +kernel
theorem d_Mo_take_290 : decode b_Mo_take 290 = .ok (.getfield 59, 3) := by decide +kernel
theorem d_Mo_take_293 : decode b_Mo_take 293 = .ok (.iload 6, 2) := by decide +kernel
theorem d_Mo_take_295 : decode b_Mo_take 295 = .ok (.iaload, 1) := by decide +kernel
theorem d_Mo_take_296 : decode b_Mo_take 296 = .ok (.iload 8, 2) := by decide +kernel
theorem d_Mo_take_298 : decode b_Mo_take 298 = .ok (.ior, 1) := by decide +kernel
theorem d_Mo_take_299 : decode b_Mo_take 299 = .ok (.iastore, 1) := by decide +kernel
theorem d_Mo_take_300 : decode b_Mo_take 300 = .ok (.return_, 1) := by decide +kernel
theorem d_Mo_spread_0 : decode b_Mo_spread 0 = .ok (.aload_n 0, 1) := by decide +kernel
theorem d_Mo_spread_1 : decode b_Mo_spread 1 = .ok (.iload_n 1, 1) := by decide +kernel
theorem d_Mo_spread_2 : decode b_Mo_spread 2 = .ok (.iload_n 2, 1) := by decide +kernel
theorem d_Mo_spread_3 : decode b_Mo_spread 3 = .ok (.iload_n 3, 1) := by decide +kernel
theorem d_Mo_spread_4 : decode b_Mo_spread 4 = .ok (.invokevirtual 167, 3) := by decide +kernel
theorem d_Mo_spread_7 : decode b_Mo_spread 7 = .ok (.istore 5, 2) := by decide +kernel
theorem d_Mo_spread_9 : decode b_Mo_spread 9 = .ok (.iload 5, 2) := by decide +kernel
theorem d_Mo_spread_11 : decode b_Mo_spread 11 = .ok (.ifCond .le 10, 3) := by decide +kernel
theorem d_Mo_spread_14 : decode b_Mo_spread 14 = .ok (.aload_n 0, 1) := by decide +kernel
theorem d_Mo_spread_15 : decode b_Mo_spread 15 = .ok (.iload 5, 2) := by decide +kernel
theorem d_Mo_spread_17 : decode b_Mo_spread 17 = .ok (.invokevirtual 102, 3) := by decide +kernel
theorem d_Mo_spread_20 : decode b_Mo_spread 20 = .ok (.ireturn, 1) := by decide +kernel
theorem d_Mo_spread_21 : decode b_Mo_spread 21 = .ok (.aload_n 0, 1) := by decide +kernel
theorem d_Mo_spread_22 : decode b_Mo_spread 22 = .ok (.iconst 0, 1) := by decide +kernel
theorem d_Mo_spread_23 : decode b_Mo_spread 23 = .ok (.putfield 71, 3) := by decide +kernel
theorem d_Mo_spread_26 : decode b_Mo_spread 26 = .ok (.iconst 0, 1) := by decide +kernel
theorem d_Mo_spread_27 : decode b_Mo_spread 27 = .ok (.istore 6, 2) := by decide +kernel
theorem d_Mo_spread_29 : decode b_Mo_spread 29 = .ok (.aload_n 0, 1) := by decide +kernel
theorem d_Mo_spread_30 : decode b_Mo_spread 30 = .ok (.iload_n 2, 1) := by decide +kernel
theorem d_Mo_spread_31 : decode b_Mo_spread 31 = .ok (.invokevirtual 111, 3) := by decide +kernel
theorem d_Mo_spread_34 : decode b_Mo_spread 34 = .ok (.istore 7, 2) := by decide +kernel
theorem d_Mo_spread_36 : decode b_Mo_spread 36 = .ok (.iconst 0, 1) := by decide +kernel
theorem d_Mo_spread_37 : decode b_Mo_spread 37 = .ok (.istore 8, 2) := by decide +kernel
theorem d_Mo_spread_39 : decode b_Mo_spread 39 = .ok (.iload 8, 2) := by decide +kernel
theorem d_Mo_spread_41 : decode b_Mo_spread 41 = .ok (.bipush 42, 2) := by decide +kernel
theorem d_Mo_spread_43 : decode b_Mo_spread 43 = .ok (.if_icmp .ge 133, 3) := by decide +kernel
theorem d_Mo_spread_46 : decode b_Mo_spread 46 = .ok (.iload_n 1, 1) := by decide +kernel
theorem d_Mo_spread_47 : decode b_Mo_spread 47 = .ok (.iload_n 3, 1) := by decide +kernel
theorem d_Mo_spread_48 : decode b_Mo_spread 48 = .ok (.iload 8, 2) := by decide +kernel
theorem d_Mo_spread_50 : decode b_Mo_spread 50 = .ok (.invokestatic 133, 3) := by decide +kernel
theorem d_Mo_spread_53 : decode b_Mo_spread 53 = .ok (.istore 9, 2) := by decide +kernel
theorem d_Mo_spread_55 : decode b_Mo_spread 55 = .ok (.aload_n 0, 1) := by decide +kernel
theorem d_Mo_spread_56 : decode b_Mo_spread 56 = .ok (.getfield 32, 3) := by decide +kernel
theorem d_Mo_spread_59 : decode b_Mo_spread 59 = .ok (.iload 9, 2) := by decide +kernel
theorem d_Mo_spread_61 : decode b_Mo_spread 61 = .ok (.iaload, 1) := by decide +kernel
theorem d_Mo_spread_62 : decode b_Mo_spread 62 = .ok (.ifCond .le 108, 3) := by decide +kernel
theorem d_Mo_spread_65 : decode b_Mo_spread 65 = .ok (.aload_n 0, 1) := by decide +kernel
theorem d_Mo_spread_66 : decode b_Mo_spread 66 = .ok (.getfield 56, 3) := by decide +kernel
theorem d_Mo_spread_69 : decode b_Mo_spread 69 = .ok (.iload 9, 2) := by decide +kernel
theorem d_Mo_spread_71 : decode b_Mo_spread 71 = .ok (.iaload, 1) := by decide +kernel
theorem d_Mo_spread_72 : decode b_Mo_spread 72 = .ok (.iload_n 2, 1) := by decide +kernel
theorem d_Mo_spread_73 : decode b_Mo_spread 73 = .ok (.ishr, 1) := by decide +kernel
theorem d_Mo_spread_74 : decode b_Mo_spread 74 = .ok (.iconst 1, 1) := by decide +kernel
theorem d_Mo_spread_75 : decode b_Mo_spread 75 = .ok (.iand, 1) := by decide +kernel
theorem d_Mo_spread_76 : decode b_Mo_spread 76 = .ok (.iconst 1, 1) := by decide +kernel
theorem d_Mo_spread_77 : decode b_Mo_spread 77 = .ok (.if_icmp .ne 93, 3) := by decide +kernel
theorem d_Mo_spread_80 : decode b_Mo_spread 80 = .ok (.iinc 6 1, 3) := by decide +kernel
theorem d_Mo_spread_83 : decode b_Mo_spread 83 = .ok (.iconst 0, 1) := by decide +kernel
theorem d_Mo_spread_84 : decode b_Mo_spread 84 = .ok (.istore 10, 2) := by decide +kernel
theorem d_Mo_spread_86 : decode b_Mo_spread 86 = .ok (.iload 10, 2) := by decide +kernel
theorem d_Mo_spread_88 : decode b_Mo_spread 88 = .ok (.bipush 6, 2) := by decide +kernel
theorem d_Mo_spread_90 : decode b_Mo_spread 90 = .ok (.if_icmp .ge 45, 3) := by decide +kernel
theorem d_Mo_spread_93 : decode b_Mo_spread 93 = .ok (.aload_n 0, 1) := by decide +kernel
theorem d_Mo_spread_94 : decode b_Mo_spread 94 = .ok (.iload 10, 2) := by decide +kernel
theorem d_Mo_spread_96 : decode b_Mo_spread 96 = .ok (.iload_n 1, 1) := by decide +kernel
theorem d_Mo_spread_97 : decode b_Mo_spread 97 = .ok (.iload_n 2, 1) := by decide +kernel
theorem d_Mo_spread_98 : decode b_Mo_spread 98 = .ok (.iload 4, 2) := by decide +kernel
theorem d_Mo_spread_100 : decode b_Mo_spread 100 = .ok (.invokevirtual 105, 3) := by decide +kernel
theorem d_Mo_spread_103 : decode b_Mo_spread 103 = .ok (.ifCond .eq 26, 3) := by decide +kernel
theorem d_Mo_spread_106 : decode b_Mo_spread 106 = .ok (.aload_n 0, 1) := by decide +kernel
theorem d_Mo_spread_107 : decode b_Mo_spread 107 = .ok (.iload 10, 2) := by decide +kernel
theorem d_Mo_spread_109 : decode b_Mo_spread 109 = .ok (.iload_n 2, 1) := by decide +kernel
theorem d_Mo_spread_110 : decode b_Mo_spread 110 = .ok (.iload_n 3, 1) := by decide +kernel
theorem d_Mo_spread_111 : decode b_Mo_spread 111 = .ok (.iload_n 1, 1) := by decide +kernel
theorem d_Mo_spread_112 : decode b_Mo_spread 112 = .ok (.invokevirtual 87, 3) := by decide +kernel
theorem d_Mo_spread_115 : decode b_Mo_spread 115 = .ok (.ifCond .eq 14, 3) := by decide +kernel
theorem d_Mo_spread_118 : decode b_Mo_spread 118 = .ok (.aload_n 0, 1) := by decide +kernel
theorem d_Mo_spread_119 : decode b_Mo_spread 119 = .ok (.iload 10, 2) := by decide +kernel
theorem d_Mo_spread_121 : decode b_Mo_spread 121 = .ok (.iload_n 1, 1) := by decide +kernel
theorem d_Mo_spread_122 : decode b_Mo_spread 122 = .ok (.iload_n 2, 1) := by decide +kernel
theorem d_Mo_spread_123 : decode b_Mo_spread 123 = .ok (.iload_n 3, 1) := by decide +kernel
theorem d_Mo_spread_124 : decode b_Mo_spread 124 = .ok (.iload 8, 2) := by decide +kernel
theorem d_Mo_spread_126 : decode b_Mo_spread 126 = .ok (.invokevirtual 170, 3) := by decide +kernel
theorem d_Mo_spread_129 : decode b_Mo_spread 129 = .ok (.iinc 10 1, 3) := by decide +kernel
theorem d_Mo_spread_132 : decode b_Mo_spread 132 = .ok (.goto (-46), 3) := by decide +kernel
theorem d_Mo_spread_135 : decode b_Mo_spread 135 = .ok (.aload_n 0, 1) := by decide +kernel
theorem d_Mo_spread_136 : decode b_Mo_spread 136 = .ok (.getfield 56, 3) := by decide +kernel
theorem d_Mo_spread_139 : decode b_Mo_spread 139 = .ok (.iload 9, 2) := by decide +kernel
theorem d_Mo_spread_141 : decode b_Mo_spread 141 = .ok (.iload 7, 2) := by decide +kernel
theorem d_Mo_spread_143 : decode b_Mo_spread 143 = .ok (.ifCond .eq 19, 3) := by decide +kernel
theorem d_Mo_spread_146 : decode b_Mo_spread 146 = .ok (.aload_n 0, 1) := by decide +kernel
theorem d_Mo_spread_147 : decode b_Mo_spread 147 = .ok (.getfield 56, 3) := by decide +kernel
theorem d_Mo_spread_150 : decode b_Mo_spread 150 = .ok (.iload 9, 2) := by decide +kernel
theorem d_Mo_spread_152 : decode b_Mo_spread 152 = .ok (.iaload, 1) := by decide +kernel
theorem d_Mo_spread_153 : decode b_Mo_spread 153 = .ok (.iconst 1, 1) := by decide +kernel
theorem d_Mo_spread_154 : decode b_Mo_spread 154 = .ok (.iload_n 2, 1) := by decide +kernel
theorem d_Mo_spread_155 : decode b_Mo_spread 155 = .ok (.ishl, 1) := by decide +kernel
theorem d_Mo_spread_156 : decode b_Mo_spread 156 = .ok (.iconst (-1), 1) := by decide +kernel
theorem d_Mo_spread_157 : decode b_Mo_spread 157 = .ok (.ixor, 1) := by decide +kernel
theorem d_Mo_spread_158 : decode b_Mo_spread 158 = .ok (.iand, 1) := by decide +kernel
theorem d_Mo_spread_159 : decode b_Mo_spread 159 = .ok (.goto 10, 3) := by decide +kernel
theorem d_Mo_spread_162 : decode b_Mo_spread 162 = .ok (.aload_n 0, 1) := by decide +kernel
theorem d_Mo_spread_163 : decode b_Mo_spread 163 = .ok (.getfield 56, 3) := by decide +kernel
theorem d_Mo_spread_166 : decode b_Mo_spread 166 = .ok (.iload 9, 2) := by decide +kernel
theorem d_Mo_spread_168 : decode b_Mo_spread 168 = .ok (.iaload, 1) := by decide +kernel
theorem d_Mo_spread_169 : decode b_Mo_spread 169 = .ok (.iastore, 1) := by decide +kernel
theorem d_Mo_spread_170 : decode b_Mo_spread 170 = .ok (.iinc 8 1, 3) := by decide +kernel
theorem d_Mo_spread_173 : decode b_Mo_spread 173 = .ok (.goto (-134), 3) := by decide +kernel
theorem d_Mo_spread_176 : decode b_Mo_spread 176 = .ok (.iload 6, 2) := by decide +kernel
theorem d_Mo_spread_178 : decode b_Mo_spread 178 = .ok (.ireturn, 1) := by decide +kernel
theorem d_Mo_told_0 : decode b_Mo_told 0 = .ok (.iload_n 1, 1) := by decide +kernel
theorem d_Mo_told_1 : decode b_Mo_told 1 = .ok (.iload 4, 2) := by decide +kernel
theorem d_Mo_told_3 : decode b_Mo_told 3 = .ok (.iload 5, 2) := by decide +kernel
theorem d_Mo_told_5 : decode b_Mo_told 5 = .ok (.invokestatic 133, 3) := by decide +kernel
theorem d_Mo_told_8 : decode b_Mo_told 8 = .ok (.istore 6, 2) := by decide +kernel
theorem d_Mo_told_10 : decode b_Mo_told 10 = .ok (.iload_n 2, 1) := by decide +kernel
theorem d_Mo_told_11 : decode b_Mo_told 11 = .ok (.iload 4, 2) := by decide +kernel
theorem d_Mo_told_13 : decode b_Mo_told 13 = .ok (.iload 5, 2) := by decide +kernel
theorem d_Mo_told_15 : decode b_Mo_told 15 = .ok (.invokestatic 133, 3) := by decide +kernel
theorem d_Mo_told_18 : decode b_Mo_told 18 = .ok (.istore 7, 2) := by decide +kernel
theorem d_Mo_told_20 : decode b_Mo_told 20 = .ok (.iconst 1, 1) := by decide +kernel
theorem d_Mo_told_21 : decode b_Mo_told 21 = .ok (.iload_n 3, 1) := by decide +kernel
theorem d_Mo_told_22 : decode b_Mo_told 22 = .ok (.ishl, 1) := by decide +kernel
theorem d_Mo_told_23 : decode b_Mo_told 23 = .ok (.istore 8, 2) := by decide +kernel
theorem d_Mo_told_25 : decode b_Mo_told 25 = .ok (.aload_n 0, 1) := by decide +kernel
theorem d_Mo_told_26 : decode b_Mo_told 26 = .ok (.getfield 32, 3) := by decide +kernel
theorem d_Mo_told_29 : decode b_Mo_told 29 = .ok (.iload 7, 2) := by decide +kernel
