theorem dX9_trayAt_20 : decode cX9_trayAt 20 = .ok (.if_icmp .ne 7, 3) := by decide +kernel
theorem dX9_trayAt_23 : decode cX9_trayAt 23 = .ok (.iconst 2, 1) := by decide +kernel
theorem dX9_trayAt_24 : decode cX9_trayAt 24 = .ok (.goto 4, 3) := by decide +kernel
theorem dX9_trayAt_27 : decode cX9_trayAt 27 = .ok (.iconst 0, 1) := by decide +kernel
theorem dX9_trayAt_28 : decode cX9_trayAt 28 = .ok (.invokevirtual 94, 3) := by decide +kernel
theorem dX9_trayAt_31 : decode cX9_trayAt 31 = .ok (.ifCond .eq 12, 3) := by decide +kernel
theorem dX9_trayAt_34 : decode cX9_trayAt 34 = .ok (.aload_n 0, 1) := by decide +kernel
theorem dX9_trayAt_35 : decode cX9_trayAt 35 = .ok (.getfield 13, 3) := by decide +kernel
theorem dX9_trayAt_38 : decode cX9_trayAt 38 = .ok (.iload_n 1, 1) := by decide +kernel
theorem dX9_trayAt_39 : decode cX9_trayAt 39 = .ok (.iaload, 1) := by decide +kernel
theorem dX9_trayAt_40 : decode cX9_trayAt 40 = .ok (.goto 4, 3) := by decide +kernel
theorem dX9_trayAt_43 : decode cX9_trayAt 43 = .ok (.iconst 0, 1) := by decide +kernel
theorem dX9_trayAt_44 : decode cX9_trayAt 44 = .ok (.ireturn, 1) := by decide +kernel
theorem dX9_waiting_0 : decode cX9_waiting 0 = .ok (.aload_n 0, 1) := by decide +kernel
theorem dX9_waiting_1 : decode cX9_waiting 1 = .ok (.iconst 0, 1) := by decide +kernel
theorem dX9_waiting_2 : decode cX9_waiting 2 = .ok (.putfield 81, 3) := by decide +kernel
theorem dX9_waiting_5 : decode cX9_waiting 5 = .ok (.aload_n 0, 1) := by decide +kernel
theorem dX9_waiting_6 : decode cX9_waiting 6 = .ok (.getfield 91, 3) := by decide +kernel
theorem dX9_waiting_9 : decode cX9_waiting 9 = .ok (.aload_n 0, 1) := by decide +kernel
theorem dX9_waiting_10 : decode cX9_waiting 10 = .ok (.getfield 156, 3) := by decide +kernel
theorem dX9_waiting_13 : decode cX9_waiting 13 = .ok (.isub, 1) := by decide +kernel
theorem dX9_waiting_14 : decode cX9_waiting 14 = .ok (.ireturn, 1) := by decide +kernel
theorem dX9_onLoop_0 : decode cX9_onLoop 0 = .ok (.aload_n 0, 1) := by decide +kernel
theorem dX9_onLoop_1 : decode cX9_onLoop 1 = .ok (.iconst 0, 1) := by decide +kernel
theorem dX9_onLoop_2 : decode cX9_onLoop 2 = .ok (.putfield 81, 3) := by decide +kernel
theorem dX9_onLoop_5 : decode cX9_onLoop 5 = .ok (.aload_n 0, 1) := by decide +kernel
theorem dX9_onLoop_6 : decode cX9_onLoop 6 = .ok (.getfield 156, 3) := by decide +kernel
theorem dX9_onLoop_9 : decode cX9_onLoop 9 = .ok (.aload_n 0, 1) := by decide +kernel
theorem dX9_onLoop_10 : decode cX9_onLoop 10 = .ok (.getfield 129, 3) := by decide +kernel
theorem dX9_onLoop_13 : decode cX9_onLoop 13 = .ok (.isub, 1) := by decide +kernel
theorem dX9_onLoop_14 : decode cX9_onLoop 14 = .ok (.ireturn, 1) := by decide +kernel
theorem dX9_overflowed_0 : decode cX9_overflowed 0 = .ok (.aload_n 0, 1) := by decide +kernel
theorem dX9_overflowed_1 : decode cX9_overflowed 1 = .ok (.iconst 0, 1) := by decide +kernel
theorem dX9_overflowed_2 : decode cX9_overflowed 2 = .ok (.putfield 81, 3) := by decide +kernel
theorem dX9_overflowed_5 : decode cX9_overflowed 5 = .ok (.aload_n 0, 1) := by decide +kernel
theorem dX9_overflowed_6 : decode cX9_overflowed 6 = .ok (.getfield 153, 3) := by decide +kernel
theorem dX9_overflowed_9 : decode cX9_overflowed 9 = .ok (.ireturn, 1) := by decide +kernel
theorem dX9_loadOf_0 : decode cX9_loadOf 0 = .ok (.iconst 0, 1) := by decide +kernel
theorem dX9_loadOf_1 : decode cX9_loadOf 1 = .ok (.istore_n 2, 1) := by decide +kernel
theorem dX9_loadOf_2 : decode cX9_loadOf 2 = .ok (.iconst 0, 1) := by decide +kernel
theorem dX9_loadOf_3 : decode cX9_loadOf 3 = .ok (.istore_n 3, 1) := by decide +kernel
theorem dX9_loadOf_4 : decode cX9_loadOf 4 = .ok (.iload_n 3, 1) := by decide +kernel
theorem dX9_loadOf_5 : decode cX9_loadOf 5 = .ok (.aload_n 0, 1) := by decide +kernel
theorem dX9_loadOf_6 : decode cX9_loadOf 6 = .ok (.getfield 91, 3) := by decide +kernel
theorem dX9_loadOf_9 : decode cX9_loadOf 9 = .ok (.if_icmp .ge 51, 3) := by decide +kernel
theorem dX9_loadOf_12 : decode cX9_loadOf 12 = .ok (.iload_n 2, 1) := by decide +kernel
theorem dX9_loadOf_13 : decode cX9_loadOf 13 = .ok (.aload_n 0, 1) := by decide +kernel
theorem dX9_loadOf_14 : decode cX9_loadOf 14 = .ok (.getfield 30, 3) := by decide +kernel
theorem dX9_loadOf_17 : decode cX9_loadOf 17 = .ok (.iload_n 3, 1) := by decide +kernel
theorem dX9_loadOf_18 : decode cX9_loadOf 18 = .ok (.iaload, 1) := by decide +kernel
theorem dX9_loadOf_19 : decode cX9_loadOf 19 = .ok (.iload_n 1, 1) := by decide +kernel
theorem dX9_loadOf_20 : decode cX9_loadOf 20 = .ok (.if_icmp .ne 31, 3) := by decide +kernel
theorem dX9_loadOf_23 : decode cX9_loadOf 23 = .ok (.aload_n 0, 1) := by decide +kernel
theorem dX9_loadOf_24 : decode cX9_loadOf 24 = .ok (.getfield 36, 3) := by decide +kernel
theorem dX9_loadOf_27 : decode cX9_loadOf 27 = .ok (.iload_n 3, 1) := by decide +kernel
theorem dX9_loadOf_28 : decode cX9_loadOf 28 = .ok (.iaload, 1) := by decide +kernel
theorem dX9_loadOf_29 : decode cX9_loadOf 29 = .ok (.ifCond .eq 13, 3) := by decide +kernel
theorem dX9_loadOf_32 : decode cX9_loadOf 32 = .ok (.aload_n 0, 1) := by decide +kernel
theorem dX9_loadOf_33 : decode cX9_loadOf 33 = .ok (.getfield 36, 3) := by decide +kernel
theorem dX9_loadOf_36 : decode cX9_loadOf 36 = .ok (.iload_n 3, 1) := by decide +kernel
theorem dX9_loadOf_37 : decode cX9_loadOf 37 = .ok (.iaload, 1) := by decide +kernel
theorem dX9_loadOf_38 : decode cX9_loadOf 38 = .ok (.iconst 1, 1) := by decide +kernel
theorem dX9_loadOf_39 : decode cX9_loadOf 39 = .ok (.if_icmp .ne 12, 3) := by decide +kernel
theorem dX9_loadOf_42 : decode cX9_loadOf 42 = .ok (.aload_n 0, 1) := by decide +kernel
theorem dX9_loadOf_43 : decode cX9_loadOf 43 = .ok (.getfield 33, 3) := by decide +kernel
theorem dX9_loadOf_46 : decode cX9_loadOf 46 = .ok (.iload_n 3, 1) := by decide +kernel
theorem dX9_loadOf_47 : decode cX9_loadOf 47 = .ok (.iaload, 1) := by decide +kernel
theorem dX9_loadOf_48 : decode cX9_loadOf 48 = .ok (.goto 4, 3) := by decide +kernel
theorem dX9_loadOf_51 : decode cX9_loadOf 51 = .ok (.iconst 0, 1) := by decide +kernel
theorem dX9_loadOf_52 : decode cX9_loadOf 52 = .ok (.iadd, 1) := by decide +kernel
theorem dX9_loadOf_53 : decode cX9_loadOf 53 = .ok (.istore_n 2, 1) := by decide +kernel
theorem dX9_loadOf_54 : decode cX9_loadOf 54 = .ok (.iinc 3 1, 3) := by decide +kernel
theorem dX9_loadOf_57 : decode cX9_loadOf 57 = .ok (.goto (-53), 3) := by decide +kernel
theorem dX9_loadOf_60 : decode cX9_loadOf 60 = .ok (.iload_n 2, 1) := by decide +kernel
theorem dX9_loadOf_61 : decode cX9_loadOf 61 = .ok (.ireturn, 1) := by decide +kernel
theorem dX9_isSomeFree_0 : decode cX9_isSomeFree 0 = .ok (.iconst 0, 1) := by decide +kernel
theorem dX9_isSomeFree_1 : decode cX9_isSomeFree 1 = .ok (.istore_n 1, 1) := by decide +kernel
theorem dX9_isSomeFree_2 : decode cX9_isSomeFree 2 = .ok (.iconst 0, 1) := by decide +kernel
theorem dX9_isSomeFree_3 : decode cX9_isSomeFree 3 = .ok (.istore_n 2, 1) := by decide +kernel
theorem dX9_isSomeFree_4 : decode cX9_isSomeFree 4 = .ok (.iload_n 2, 1) := by decide +kernel
theorem dX9_isSomeFree_5 : decode cX9_isSomeFree 5 = .ok (.aload_n 0, 1) := by decide +kernel
theorem dX9_isSomeFree_6 : decode cX9_isSomeFree 6 = .ok (.getfield 84, 3) := by decide +kernel
theorem dX9_isSomeFree_9 : decode cX9_isSomeFree 9 = .ok (.if_icmp .ge 28, 3) := by decide +kernel
theorem dX9_isSomeFree_12 : decode cX9_isSomeFree 12 = .ok (.iload_n 1, 1) := by decide +kernel
theorem dX9_isSomeFree_13 : decode cX9_isSomeFree 13 = .ok (.ifCond .ne 12, 3) := by decide +kernel
theorem dX9_isSomeFree_16 : decode cX9_isSomeFree 16 = .ok (.aload_n 0, 1) := by decide +kernel
theorem dX9_isSomeFree_17 : decode cX9_isSomeFree 17 = .ok (.getfield 23, 3) := by decide +kernel
theorem dX9_isSomeFree_20 : decode cX9_isSomeFree 20 = .ok (.iload_n 2, 1) := by decide +kernel
theorem dX9_isSomeFree_21 : decode cX9_isSomeFree 21 = .ok (.baload, 1) := by decide +kernel
theorem dX9_isSomeFree_22 : decode cX9_isSomeFree 22 = .ok (.ifCond .ne 7, 3) := by decide +kernel
theorem dX9_isSomeFree_25 : decode cX9_isSomeFree 25 = .ok (.iconst 1, 1) := by decide +kernel
theorem dX9_isSomeFree_26 : decode cX9_isSomeFree 26 = .ok (.goto 4, 3) := by decide +kernel
theorem dX9_isSomeFree_29 : decode cX9_isSomeFree 29 = .ok (.iconst 0, 1) := by decide +kernel
theorem dX9_isSomeFree_30 : decode cX9_isSomeFree 30 = .ok (.istore_n 1, 1) := by decide +kernel
theorem dX9_isSomeFree_31 : decode cX9_isSomeFree 31 = .ok (.iinc 2 1, 3) := by decide +kernel
theorem dX9_isSomeFree_34 : decode cX9_isSomeFree 34 = .ok (.goto (-30), 3) := by decide +kernel
theorem dX9_isSomeFree_37 : decode cX9_isSomeFree 37 = .ok (.iload_n 1, 1) := by decide +kernel
theorem dX9_isSomeFree_38 : decode cX9_isSomeFree 38 = .ok (.ireturn, 1) := by decide +kernel
theorem dX9_leastChute_0 : decode cX9_leastChute 0 = .ok (.iconst (-1), 1) := by decide +kernel
theorem dX9_leastChute_1 : decode cX9_leastChute 1 = .ok (.istore_n 1, 1) := by decide +kernel
theorem dX9_leastChute_2 : decode cX9_leastChute 2 = .ok (.iconst 0, 1) := by decide +kernel
theorem dX9_leastChute_3 : decode cX9_leastChute 3 = .ok (.istore_n 2, 1) := by decide +kernel
theorem dX9_leastChute_4 : decode cX9_leastChute 4 = .ok (.iload_n 2, 1) := by decide +kernel
theorem dX9_leastChute_5 : decode cX9_leastChute 5 = .ok (.aload_n 0, 1) := by decide +kernel
theorem dX9_leastChute_6 : decode cX9_leastChute 6 = .ok (.getfield 84, 3) := by decide +kernel
theorem dX9_leastChute_9 : decode cX9_leastChute 9 = .ok (.if_icmp .ge 44, 3) := by decide +kernel
theorem dX9_leastChute_12 : decode cX9_leastChute 12 = .ok (.aload_n 0, 1) := by decide +kernel
theorem dX9_leastChute_13 : decode cX9_leastChute 13 = .ok (.getfield 23, 3) := by decide +kernel
theorem dX9_leastChute_16 : decode cX9_leastChute 16 = .ok (.iload_n 2, 1) := by decide +kernel
theorem dX9_leastChute_17 : decode cX9_leastChute 17 = .ok (.baload, 1) := by decide +kernel
theorem dX9_leastChute_18 : decode cX9_leastChute 18 = .ok (.ifCond .ne 27, 3) := by decide +kernel
theorem dX9_leastChute_21 : decode cX9_leastChute 21 = .ok (.iload_n 1, 1) := by decide +kernel
theorem dX9_leastChute_22 : decode cX9_leastChute 22 = .ok (.iconst (-1), 1) := by decide +kernel
theorem dX9_leastChute_23 : decode cX9_leastChute 23 = .ok (.if_icmp .eq 18, 3) := by decide +kernel
theorem dX9_leastChute_26 : decode cX9_leastChute 26 = .ok (.aload_n 0, 1) := by decide +kernel
theorem dX9_leastChute_27 : decode cX9_leastChute 27 = .ok (.getfield 75, 3) := by decide +kernel
theorem dX9_leastChute_30 : decode cX9_leastChute 30 = .ok (.iload_n 2, 1) := by decide +kernel
theorem dX9_leastChute_31 : decode cX9_leastChute 31 = .ok (.iaload, 1) := by decide +kernel
theorem dX9_leastChute_32 : decode cX9_leastChute 32 = .ok (.aload_n 0, 1) := by decide +kernel
theorem dX9_leastChute_33 : decode cX9_leastChute 33 = .ok (.getfield 75, 3) := by decide +kernel
theorem dX9_leastChute_36 : decode cX9_leastChute 36 = .ok (.iload_n 1, 1) := by decide +kernel
theorem dX9_leastChute_37 : decode cX9_leastChute 37 = .ok (.iaload, 1) := by decide +kernel
theorem dX9_leastChute_38 : decode cX9_leastChute 38 = .ok (.if_icmp .ge 7, 3) := by decide +kernel
theorem dX9_leastChute_41 : decode cX9_leastChute 41 = .ok (.iload_n 2, 1) := by decide +kernel
theorem dX9_leastChute_42 : decode cX9_leastChute 42 = .ok (.goto 4, 3) := by decide +kernel
theorem dX9_leastChute_45 : decode cX9_leastChute 45 = .ok (.iload_n 1, 1) := by decide +kernel
theorem dX9_leastChute_46 : decode cX9_leastChute 46 = .ok (.istore_n 1, 1) := by decide +kernel
theorem dX9_leastChute_47 : decode cX9_leastChute 47 = .ok (.iinc 2 1, 3) := by decide +kernel
theorem dX9_leastChute_50 : decode cX9_leastChute 50 = .ok (.goto (-46), 3) := by decide +kernel
theorem dX9_leastChute_53 : decode cX9_leastChute 53 = .ok (.iload_n 1, 1) := by decide +kernel
theorem dX9_leastChute_54 : decode cX9_leastChute 54 = .ok (.ireturn, 1) := by decide +kernel
theorem dX9_greatestRoute_0 : decode cX9_greatestRoute 0 = .ok (.iconst 0, 1) := by decide +kernel
theorem dX9_greatestRoute_1 : decode cX9_greatestRoute 1 = .ok (.istore_n 1, 1) := by decide +kernel
theorem dX9_greatestRoute_2 : decode cX9_greatestRoute 2 = .ok (.iconst 1, 1) := by decide +kernel
theorem dX9_greatestRoute_3 : decode cX9_greatestRoute 3 = .ok (.istore_n 2, 1) := by decide +kernel
theorem dX9_greatestRoute_4 : decode cX9_greatestRoute 4 = .ok (.iload_n 2, 1) := by decide +kernel
theorem dX9_greatestRoute_5 : decode cX9_greatestRoute 5 = .ok (.bipush 8, 2) := by decide +kernel
theorem dX9_greatestRoute_7 : decode cX9_greatestRoute 7 = .ok (.if_icmp .ge 30, 3) := by decide +kernel
theorem dX9_greatestRoute_10 : decode cX9_greatestRoute 10 = .ok (.aload_n 0, 1) := by decide +kernel
theorem dX9_greatestRoute_11 : decode cX9_greatestRoute 11 = .ok (.getfield 78, 3) := by decide +kernel
theorem dX9_greatestRoute_14 : decode cX9_greatestRoute 14 = .ok (.iload_n 2, 1) := by decide +kernel
theorem dX9_greatestRoute_15 : decode cX9_greatestRoute 15 = .ok (.iaload, 1) := by decide +kernel
theorem dX9_greatestRoute_16 : decode cX9_greatestRoute 16 = .ok (.aload_n 0, 1) := by decide +kernel
theorem dX9_greatestRoute_17 : decode cX9_greatestRoute 17 = .ok (.getfield 78, 3) := by decide +kernel
theorem dX9_greatestRoute_20 : decode cX9_greatestRoute 20 = .ok (.iload_n 1, 1) := by decide +kernel
theorem dX9_greatestRoute_21 : decode cX9_greatestRoute 21 = .ok (.iaload, 1) := by decide +kernel
theorem dX9_greatestRoute_22 : decode cX9_greatestRoute 22 = .ok (.if_icmp .le 7, 3) := by decide +kernel
theorem dX9_greatestRoute_25 : decode cX9_greatestRoute 25 = .ok (.iload_n 2, 1) := by decide +kernel
theorem dX9_greatestRoute_26 : decode cX9_greatestRoute 26 = .ok (.goto 4, 3) := by decide +kernel
theorem dX9_greatestRoute_29 : decode cX9_greatestRoute 29 = .ok (.iload_n 1, 1) := by decide +kernel
theorem dX9_greatestRoute_30 : decode cX9_greatestRoute 30 = .ok (.istore_n 1, 1) := by decide +kernel
theorem dX9_greatestRoute_31 : decode cX9_greatestRoute 31 = .ok (.iinc 2 1, 3) := by decide +kernel
theorem dX9_greatestRoute_34 : decode cX9_greatestRoute 34 = .ok (.goto (-30), 3) := by decide +kernel
theorem dX9_greatestRoute_37 : decode cX9_greatestRoute 37 = .ok (.iload_n 1, 1) := by decide +kernel
theorem dX9_greatestRoute_38 : decode cX9_greatestRoute 38 = .ok (.ireturn, 1) := by decide +kernel
theorem dX9_startWave_0 : decode cX9_startWave 0 = .ok (.aload_n 0, 1) := by decide +kernel
theorem dX9_startWave_1 : decode cX9_startWave 1 = .ok (.aload_n 0, 1) := by decide +kernel
theorem dX9_startWave_2 : decode cX9_startWave 2 = .ok (.invokevirtual 174, 3) := by decide +kernel
theorem dX9_startWave_5 : decode cX9_startWave 5 = .ok (.ifCond .eq 7, 3) := by decide +kernel
theorem dX9_startWave_8 : decode cX9_startWave 8 = .ok (.iconst 0, 1) := by decide +kernel
theorem dX9_startWave_9 : decode cX9_startWave 9 = .ok (.goto 4, 3) := by decide +kernel
theorem dX9_startWave_12 : decode cX9_startWave 12 = .ok (.iconst 1, 1) := by decide +kernel
theorem dX9_startWave_13 : decode cX9_startWave 13 = .ok (.invokevirtual 94, 3) := by decide +kernel
theorem dX9_startWave_16 : decode cX9_startWave 16 = .ok (.ifCond .ne 5, 3) := by decide +kernel
theorem dX9_startWave_19 : decode cX9_startWave 19 = .ok (.iconst 0, 1) := by decide +kernel
theorem dX9_startWave_20 : decode cX9_startWave 20 = .ok (.ireturn, 1) := by decide +kernel
theorem dX9_startWave_21 : decode cX9_startWave 21 = .ok (.iconst 0, 1) := by decide +kernel
theorem dX9_startWave_22 : decode cX9_startWave 22 = .ok (.istore_n 1, 1) := by decide +kernel
theorem dX9_startWave_23 : decode cX9_startWave 23 = .ok (.iload_n 1, 1) := by decide +kernel
theorem dX9_startWave_24 : decode cX9_startWave 24 = .ok (.bipush 6, 2) := by decide +kernel
theorem dX9_startWave_26 : decode cX9_startWave 26 = .ok (.if_icmp .ge 16, 3) := by decide +kernel
theorem dX9_startWave_29 : decode cX9_startWave 29 = .ok (.aload_n 0, 1) := by decide +kernel
theorem dX9_startWave_30 : decode cX9_startWave 30 = .ok (.getfield 75, 3) := by decide +kernel
theorem dX9_startWave_33 : decode cX9_startWave 33 = .ok (.iload_n 1, 1) := by decide +kernel
theorem dX9_startWave_34 : decode cX9_startWave 34 = .ok (.iconst 0, 1) := by decide +kernel
theorem dX9_startWave_35 : decode cX9_startWave 35 = .ok (.iastore, 1) := by decide +kernel
theorem dX9_startWave_36 : decode cX9_startWave 36 = .ok (.iinc 1 1, 3) := by decide +kernel
theorem dX9_startWave_39 : decode cX9_startWave 39 = .ok (.goto (-16), 3) := by decide +kernel
theorem dX9_startWave_42 : decode cX9_startWave 42 = .ok (.iconst 0, 1) := by decide +kernel
theorem dX9_startWave_43 : decode cX9_startWave 43 = .ok (.istore_n 1, 1) := by decide +kernel
theorem dX9_startWave_44 : decode cX9_startWave 44 = .ok (.iload_n 1, 1) := by decide +kernel
theorem dX9_startWave_45 : decode cX9_startWave 45 = .ok (.bipush 8, 2) := by decide +kernel
theorem dX9_startWave_47 : decode cX9_startWave 47 = .ok (.if_icmp .ge 27, 3) := by decide +kernel
theorem dX9_startWave_50 : decode cX9_startWave 50 = .ok (.aload_n 0, 1) := by decide +kernel
theorem dX9_startWave_51 : decode cX9_startWave 51 = .ok (.getfield 78, 3) := by decide +kernel
theorem dX9_startWave_54 : decode cX9_startWave 54 = .ok (.iload_n 1, 1) := by decide +kernel
theorem dX9_startWave_55 : decode cX9_startWave 55 = .ok (.aload_n 0, 1) := by decide +kernel
theorem dX9_startWave_56 : decode cX9_startWave 56 = .ok (.iload_n 1, 1) := by decide +kernel
theorem dX9_startWave_57 : decode cX9_startWave 57 = .ok (.invokevirtual 177, 3) := by decide +kernel
theorem dX9_startWave_60 : decode cX9_startWave 60 = .ok (.iastore, 1) := by decide +kernel
theorem dX9_startWave_61 : decode cX9_startWave 61 = .ok (.aload_n 0, 1) := by decide +kernel
theorem dX9_startWave_62 : decode cX9_startWave 62 = .ok (.getfield 42, 3) := by decide +kernel
theorem dX9_startWave_65 : decode cX9_startWave 65 = .ok (.iload_n 1, 1) := by decide +kernel
theorem dX9_startWave_66 : decode cX9_startWave 66 = .ok (.iconst (-1), 1) := by decide +kernel
theorem dX9_startWave_67 : decode cX9_startWave 67 = .ok (.iastore, 1) := by decide +kernel
theorem dX9_startWave_68 : decode cX9_startWave 68 = .ok (.iinc 1 1, 3) := by decide +kernel
theorem dX9_startWave_71 : decode cX9_startWave 71 = .ok (.goto (-27), 3) := by decide +kernel
theorem dX9_startWave_74 : decode cX9_startWave 74 = .ok (.iconst 0, 1) := by decide +kernel
theorem dX9_startWave_75 : decode cX9_startWave 75 = .ok (.istore_n 1, 1) := by decide +kernel
theorem dX9_startWave_76 : decode cX9_startWave 76 = .ok (.aload_n 0, 1) := by decide +kernel
theorem dX9_startWave_77 : decode cX9_startWave 77 = .ok (.invokevirtual 180, 3) := by decide +kernel
theorem dX9_startWave_80 : decode cX9_startWave 80 = .ok (.istore_n 2, 1) := by decide +kernel
theorem dX9_startWave_81 : decode cX9_startWave 81 = .ok (.aload_n 0, 1) := by decide +kernel
theorem dX9_startWave_82 : decode cX9_startWave 82 = .ok (.getfield 78, 3) := by decide +kernel
theorem dX9_startWave_85 : decode cX9_startWave 85 = .ok (.iload_n 2, 1) := by decide +kernel
theorem dX9_startWave_86 : decode cX9_startWave 86 = .ok (.iaload, 1) := by decide +kernel
theorem dX9_startWave_87 : decode cX9_startWave 87 = .ok (.ifCond .le 48, 3) := by decide +kernel
theorem dX9_startWave_90 : decode cX9_startWave 90 = .ok (.aload_n 0, 1) := by decide +kernel
theorem dX9_startWave_91 : decode cX9_startWave 91 = .ok (.invokevirtual 183, 3) := by decide +kernel
theorem dX9_startWave_94 : decode cX9_startWave 94 = .ok (.istore_n 3, 1) := by decide +kernel
theorem dX9_startWave_95 : decode cX9_startWave 95 = .ok (.aload_n 0, 1) := by decide +kernel
theorem dX9_startWave_96 : decode cX9_startWave 96 = .ok (.getfield 42, 3) := by decide +kernel
theorem dX9_startWave_99 : decode cX9_startWave 99 = .ok (.iload_n 2, 1) := by decide +kernel
theorem dX9_startWave_100 : decode cX9_startWave 100 = .ok (.iload_n 3, 1) := by decide +kernel
theorem dX9_startWave_101 : decode cX9_startWave 101 = .ok (.iastore, 1) := by decide +kernel
theorem dX9_startWave_102 : decode cX9_startWave 102 = .ok (.aload_n 0, 1) := by decide +kernel
theorem dX9_startWave_103 : decode cX9_startWave 103 = .ok (.getfield 75, 3) := by decide +kernel
theorem dX9_startWave_106 : decode cX9_startWave 106 = .ok (.iload_n 3, 1) := by decide +kernel
theorem dX9_startWave_107 : decode cX9_startWave 107 = .ok (.dup2, 1) := by decide +kernel
theorem dX9_startWave_108 : decode cX9_startWave 108 = .ok (.iaload, 1) := by decide +kernel
theorem dX9_startWave_109 : decode cX9_startWave 109 = .ok (.aload_n 0, 1) := by decide +kernel
theorem dX9_startWave_110 : decode cX9_startWave 110 = .ok (.getfield 78, 3) := by decide +kernel
theorem dX9_startWave_113 : decode cX9_startWave 113 = .ok (.iload_n 2, 1) := by decide +kernel
theorem dX9_startWave_114 : decode cX9_startWave 114 = .ok (.iaload, 1) := by decide +kernel
theorem dX9_startWave_115 : decode cX9_startWave 115 = .ok (.iadd, 1) := by decide +kernel
theorem dX9_startWave_116 : decode cX9_startWave 116 = .ok (.iastore, 1) := by decide +kernel
theorem dX9_startWave_117 : decode cX9_startWave 117 = .ok (.aload_n 0, 1) := by decide +kernel
theorem dX9_startWave_118 : decode cX9_startWave 118 = .ok (.getfield 78, 3) := by decide +kernel
theorem dX9_startWave_121 : decode cX9_startWave 121 = .ok (.iload_n 2, 1) := by decide +kernel
theorem dX9_startWave_122 : decode cX9_startWave 122 = .ok (.iconst 0, 1) := by decide +kernel
theorem dX9_startWave_123 : decode cX9_startWave 123 = .ok (.iastore, 1) := by decide +kernel
theorem dX9_startWave_124 : decode cX9_startWave 124 = .ok (.iinc 1 1, 3) := by decide +kernel
theorem dX9_startWave_127 : decode cX9_startWave 127 = .ok (.aload_n 0, 1) := by decide +kernel
theorem dX9_startWave_128 : decode cX9_startWave 128 = .ok (.invokevirtual 180, 3) := by decide +kernel
theorem dX9_startWave_131 : decode cX9_startWave 131 = .ok (.istore_n 2, 1) := by decide +kernel
theorem dX9_startWave_132 : decode cX9_startWave 132 = .ok (.goto (-51), 3) := by decide +kernel
theorem dX9_startWave_135 : decode cX9_startWave 135 = .ok (.iload_n 1, 1) := by decide +kernel
theorem dX9_startWave_136 : decode cX9_startWave 136 = .ok (.ireturn, 1) := by decide +kernel
theorem dX9_isRoute_0 : decode cX9_isRoute 0 = .ok (.iload_n 0, 1) := by decide +kernel
theorem dX9_isRoute_1 : decode cX9_isRoute 1 = .ok (.iconst 0, 1) := by decide +kernel
theorem dX9_isRoute_2 : decode cX9_isRoute 2 = .ok (.bipush 7, 2) := by decide +kernel
theorem dX9_isRoute_4 : decode cX9_isRoute 4 = .ok (.invokestatic 87, 3) := by decide +kernel
theorem dX9_isRoute_7 : decode cX9_isRoute 7 = .ok (.ireturn, 1) := by decide +kernel
theorem dX9_assign_0 : decode cX9_assign 0 = .ok (.aload_n 0, 1) := by decide +kernel
theorem dX9_assign_1 : decode cX9_assign 1 = .ok (.iload_n 1, 1) := by decide +kernel
theorem dX9_assign_2 : decode cX9_assign 2 = .ok (.invokestatic 186, 3) := by decide +kernel
theorem dX9_assign_5 : decode cX9_assign 5 = .ok (.ifCond .ne 7, 3) := by decide +kernel
theorem dX9_assign_8 : decode cX9_assign 8 = .ok (.iconst 1, 1) := by decide +kernel
theorem dX9_assign_9 : decode cX9_assign 9 = .ok (.goto 16, 3) := by decide +kernel
theorem dX9_assign_12 : decode cX9_assign 12 = .ok (.aload_n 0, 1) := by decide +kernel
theorem dX9_assign_13 : decode cX9_assign 13 = .ok (.iload_n 2, 1) := by decide +kernel
theorem dX9_assign_14 : decode cX9_assign 14 = .ok (.invokevirtual 102, 3) := by decide +kernel
theorem dX9_assign_17 : decode cX9_assign 17 = .ok (.ifCond .ne 7, 3) := by decide +kernel
theorem dX9_assign_20 : decode cX9_assign 20 = .ok (.iconst 2, 1) := by decide +kernel
theorem dX9_assign_21 : decode cX9_assign 21 = .ok (.goto 4, 3) := by decide +kernel
theorem dX9_assign_24 : decode cX9_assign 24 = .ok (.iconst 0, 1) := by decide +kernel
theorem dX9_assign_25 : decode cX9_assign 25 = .ok (.invokevirtual 94, 3) := by decide +kernel
theorem dX9_assign_28 : decode cX9_assign 28 = .ok (.ifCond .ne 5, 3) := by decide +kernel
theorem dX9_assign_31 : decode cX9_assign 31 = .ok (.iconst 0, 1) := by decide +kernel
theorem dX9_assign_32 : decode cX9_assign 32 = .ok (.ireturn, 1) := by decide +kernel
theorem dX9_assign_33 : decode cX9_assign 33 = .ok (.aload_n 0, 1) := by decide +kernel
theorem dX9_assign_34 : decode cX9_assign 34 = .ok (.getfield 42, 3) := by decide +kernel
theorem dX9_assign_37 : decode cX9_assign 37 = .ok (.iload_n 1, 1) := by decide +kernel
theorem dX9_assign_38 : decode cX9_assign 38 = .ok (.iaload, 1) := by decide +kernel
theorem dX9_assign_39 : decode cX9_assign 39 = .ok (.istore_n 3, 1) := by decide +kernel
theorem dX9_assign_40 : decode cX9_assign 40 = .ok (.aload_n 0, 1) := by decide +kernel
theorem dX9_assign_41 : decode cX9_assign 41 = .ok (.getfield 42, 3) := by decide +kernel
theorem dX9_assign_44 : decode cX9_assign 44 = .ok (.iload_n 1, 1) := by decide +kernel
theorem dX9_assign_45 : decode cX9_assign 45 = .ok (.iload_n 2, 1) := by decide +kernel
theorem dX9_assign_46 : decode cX9_assign 46 = .ok (.iastore, 1) := by decide +kernel
theorem dX9_assign_47 : decode cX9_assign 47 = .ok (.iload_n 3, 1) := by decide +kernel
theorem dX9_assign_48 : decode cX9_assign 48 = .ok (.ireturn, 1) := by decide +kernel
theorem dX9_unassign_0 : decode cX9_unassign 0 = .ok (.aload_n 0, 1) := by decide +kernel
theorem dX9_unassign_1 : decode cX9_unassign 1 = .ok (.iload_n 1, 1) := by decide +kernel
theorem dX9_unassign_2 : decode cX9_unassign 2 = .ok (.invokestatic 186, 3) := by decide +kernel
theorem dX9_unassign_5 : decode cX9_unassign 5 = .ok (.ifCond .ne 7, 3) := by decide +kernel
theorem dX9_unassign_8 : decode cX9_unassign 8 = .ok (.iconst 1, 1) := by decide +kernel
theorem dX9_unassign_9 : decode cX9_unassign 9 = .ok (.goto 18, 3) := by decide +kernel
theorem dX9_unassign_12 : decode cX9_unassign 12 = .ok (.aload_n 0, 1) := by decide +kernel
theorem dX9_unassign_13 : decode cX9_unassign 13 = .ok (.getfield 42, 3) := by decide +kernel
theorem dX9_unassign_16 : decode cX9_unassign 16 = .ok (.iload_n 1, 1) := by decide +kernel
theorem dX9_unassign_17 : decode cX9_unassign 17 = .ok (.iaload, 1) := by decide +kernel
theorem dX9_unassign_18 : decode cX9_unassign 18 = .ok (.iconst (-1), 1) := by decide +kernel
theorem dX9_unassign_19 : decode cX9_unassign 19 = .ok (.if_icmp .ne 7, 3) := by decide +kernel
theorem dX9_unassign_22 : decode cX9_unassign 22 = .ok (.iconst 2, 1) := by decide +kernel
theorem dX9_unassign_23 : decode cX9_unassign 23 = .ok (.goto 4, 3) := by decide +kernel
theorem dX9_unassign_26 : decode cX9_unassign 26 = .ok (.iconst 0, 1) := by decide +kernel
theorem dX9_unassign_27 : decode cX9_unassign 27 = .ok (.invokevirtual 94, 3) := by decide +kernel
theorem dX9_unassign_30 : decode cX9_unassign 30 = .ok (.ifCond .ne 5, 3) := by decide +kernel
theorem dX9_unassign_33 : decode cX9_unassign 33 = .ok (.iconst 0, 1) := by decide +kernel
theorem dX9_unassign_34 : decode cX9_unassign 34 = .ok (.ireturn, 1) := by decide +kernel
theorem dX9_unassign_35 : decode cX9_unassign 35 = .ok (.aload_n 0, 1) := by decide +kernel
theorem dX9_unassign_36 : decode cX9_unassign 36 = .ok (.getfield 42, 3) := by decide +kernel
theorem dX9_unassign_39 : decode cX9_unassign 39 = .ok (.iload_n 1, 1) := by decide +kernel
theorem dX9_unassign_40 : decode cX9_unassign 40 = .ok (.iaload, 1) := by decide +kernel
theorem dX9_unassign_41 : decode cX9_unassign 41 = .ok (.istore_n 2, 1) := by decide +kernel
theorem dX9_unassign_42 : decode cX9_unassign 42 = .ok (.aload_n 0, 1) := by decide +kernel
theorem dX9_unassign_43 : decode cX9_unassign 43 = .ok (.getfield 42, 3) := by decide +kernel
theorem dX9_unassign_46 : decode cX9_unassign 46 = .ok (.iload_n 1, 1) := by decide +kernel
theorem dX9_unassign_47 : decode cX9_unassign 47 = .ok (.iconst (-1), 1) := by decide +kernel
theorem dX9_unassign_48 : decode cX9_unassign 48 = .ok (.iastore, 1) := by decide +kernel
theorem dX9_unassign_49 : decode cX9_unassign 49 = .ok (.iload_n 2, 1) := by decide +kernel
theorem dX9_unassign_50 : decode cX9_unassign 50 = .ok (.ireturn, 1) := by decide +kernel
theorem dX9_chuteFor_0 : decode cX9_chuteFor 0 = .ok (.aload_n 0, 1) := by decide +kernel
theorem dX9_chuteFor_1 : decode cX9_chuteFor 1 = .ok (.iload_n 1, 1) := by decide +kernel
theorem dX9_chuteFor_2 : decode cX9_chuteFor 2 = .ok (.invokestatic 186, 3) := by decide +kernel
theorem dX9_chuteFor_5 : decode cX9_chuteFor 5 = .ok (.ifCond .ne 7, 3) := by decide +kernel
theorem dX9_chuteFor_8 : decode cX9_chuteFor 8 = .ok (.iconst 1, 1) := by decide +kernel
theorem dX9_chuteFor_9 : decode cX9_chuteFor 9 = .ok (.goto 18, 3) := by decide +kernel
theorem dX9_chuteFor_12 : decode cX9_chuteFor 12 = .ok (.aload_n 0, 1) := by decide +kernel
theorem dX9_chuteFor_13 : decode cX9_chuteFor 13 = .ok (.getfield 42, 3) := by decide +kernel
theorem dX9_chuteFor_16 : decode cX9_chuteFor 16 = .ok (.iload_n 1, 1) := by decide +kernel
theorem dX9_chuteFor_17 : decode cX9_chuteFor 17 = .ok (.iaload, 1) := by decide +kernel
theorem dX9_chuteFor_18 : decode cX9_chuteFor 18 = .ok (.iconst (-1), 1) := by decide +kernel
theorem dX9_chuteFor_19 : decode cX9_chuteFor 19 = .ok (.if_icmp .ne 7, 3) := by decide +kernel
theorem dX9_chuteFor_22 : decode cX9_chuteFor 22 = .ok (.iconst 2, 1) := by decide +kernel
theorem dX9_chuteFor_23 : decode cX9_chuteFor 23 = .ok (.goto 4, 3) := by decide +kernel
theorem dX9_chuteFor_26 : decode cX9_chuteFor 26 = .ok (.iconst 0, 1) := by decide +kernel
theorem dX9_chuteFor_27 : decode cX9_chuteFor 27 = .ok (.invokevirtual 94, 3) := by decide +kernel
theorem dX9_chuteFor_30 : decode cX9_chuteFor 30 = .ok (.ifCond .eq 12, 3) := by decide +kernel
theorem dX9_chuteFor_33 : decode cX9_chuteFor 33 = .ok (.aload_n 0, 1) := by decide +kernel
theorem dX9_chuteFor_34 : decode cX9_chuteFor 34 = .ok (.getfield 42, 3) := by decide +kernel
theorem dX9_chuteFor_37 : decode cX9_chuteFor 37 = .ok (.iload_n 1, 1) := by decide +kernel
theorem dX9_chuteFor_38 : decode cX9_chuteFor 38 = .ok (.iaload, 1) := by decide +kernel
theorem dX9_chuteFor_39 : decode cX9_chuteFor 39 = .ok (.goto 4, 3) := by decide +kernel
theorem dX9_chuteFor_42 : decode cX9_chuteFor 42 = .ok (.iconst 0, 1) := by decide +kernel
theorem dX9_chuteFor_43 : decode cX9_chuteFor 43 = .ok (.ireturn, 1) := by decide +kernel
theorem dX9_load_0 : decode cX9_load 0 = .ok (.aload_n 0, 1) := by decide +kernel
theorem dX9_load_1 : decode cX9_load 1 = .ok (.iload_n 1, 1) := by decide +kernel
theorem dX9_load_2 : decode cX9_load 2 = .ok (.invokestatic 186, 3) := by decide +kernel
theorem dX9_load_5 : decode cX9_load 5 = .ok (.ifCond .eq 7, 3) := by decide +kernel
theorem dX9_load_8 : decode cX9_load 8 = .ok (.iconst 0, 1) := by decide +kernel
theorem dX9_load_9 : decode cX9_load 9 = .ok (.goto 4, 3) := by decide +kernel
theorem dX9_load_12 : decode cX9_load 12 = .ok (.iconst 1, 1) := by decide +kernel
theorem dX9_load_13 : decode cX9_load 13 = .ok (.invokevirtual 94, 3) := by decide +kernel
theorem dX9_load_16 : decode cX9_load 16 = .ok (.ifCond .eq 11, 3) := by decide +kernel
theorem dX9_load_19 : decode cX9_load 19 = .ok (.aload_n 0, 1) := by decide +kernel
theorem dX9_load_20 : decode cX9_load 20 = .ok (.iload_n 1, 1) := by decide +kernel
theorem dX9_load_21 : decode cX9_load 21 = .ok (.invokevirtual 177, 3) := by decide +kernel
theorem dX9_load_24 : decode cX9_load 24 = .ok (.goto 4, 3) := by decide +kernel
theorem dX9_load_27 : decode cX9_load 27 = .ok (.iconst 0, 1) := by decide +kernel
theorem dX9_load_28 : decode cX9_load 28 = .ok (.ireturn, 1) := by decide +kernel
theorem dX9_inChute_0 : decode cX9_inChute 0 = .ok (.aload_n 0, 1) := by decide +kernel
theorem dX9_inChute_1 : decode cX9_inChute 1 = .ok (.aload_n 0, 1) := by decide +kernel
theorem dX9_inChute_2 : decode cX9_inChute 2 = .ok (.iload_n 1, 1) := by decide +kernel
theorem dX9_inChute_3 : decode cX9_inChute 3 = .ok (.invokevirtual 102, 3) := by decide +kernel
theorem dX9_inChute_6 : decode cX9_inChute 6 = .ok (.ifCond .eq 7, 3) := by decide +kernel
theorem dX9_inChute_9 : decode cX9_inChute 9 = .ok (.iconst 0, 1) := by decide +kernel
theorem dX9_inChute_10 : decode cX9_inChute 10 = .ok (.goto 4, 3) := by decide +kernel
theorem dX9_inChute_13 : decode cX9_inChute 13 = .ok (.iconst 1, 1) := by decide +kernel
theorem dX9_inChute_14 : decode cX9_inChute 14 = .ok (.invokevirtual 94, 3) := by decide +kernel
theorem dX9_inChute_17 : decode cX9_inChute 17 = .ok (.ifCond .eq 12, 3) := by decide +kernel
theorem dX9_inChute_20 : decode cX9_inChute 20 = .ok (.aload_n 0, 1) := by decide +kernel
theorem dX9_inChute_21 : decode cX9_inChute 21 = .ok (.getfield 45, 3) := by decide +kernel
theorem dX9_inChute_24 : decode cX9_inChute 24 = .ok (.iload_n 1, 1) := by decide +kernel
theorem dX9_inChute_25 : decode cX9_inChute 25 = .ok (.iaload, 1) := by decide +kernel
theorem dX9_inChute_26 : decode cX9_inChute 26 = .ok (.goto 4, 3) := by decide +kernel
theorem dX9_inChute_29 : decode cX9_inChute 29 = .ok (.iconst 0, 1) := by decide +kernel
theorem dX9_inChute_30 : decode cX9_inChute 30 = .ok (.ireturn, 1) := by decide +kernel
theorem dX9_sealOf_0 : decode cX9_sealOf 0 = .ok (.sipush 10000, 3) := by decide +kernel
theorem dX9_sealOf_3 : decode cX9_sealOf 3 = .ok (.aload_n 0, 1) := by decide +kernel
theorem dX9_sealOf_4 : decode cX9_sealOf 4 = .ok (.getfield 54, 3) := by decide +kernel
theorem dX9_sealOf_7 : decode cX9_sealOf 7 = .ok (.iload_n 1, 1) := by decide +kernel
theorem dX9_sealOf_8 : decode cX9_sealOf 8 = .ok (.iaload, 1) := by decide +kernel
theorem dX9_sealOf_9 : decode cX9_sealOf 9 = .ok (.imul, 1) := by decide +kernel
theorem dX9_sealOf_10 : decode cX9_sealOf 10 = .ok (.aload_n 0, 1) := by decide +kernel
theorem dX9_sealOf_11 : decode cX9_sealOf 11 = .ok (.getfield 51, 3) := by decide +kernel
theorem dX9_sealOf_14 : decode cX9_sealOf 14 = .ok (.iload_n 1, 1) := by decide +kernel
theorem dX9_sealOf_15 : decode cX9_sealOf 15 = .ok (.iaload, 1) := by decide +kernel
theorem dX9_sealOf_16 : decode cX9_sealOf 16 = .ok (.iadd, 1) := by decide +kernel
theorem dX9_sealOf_17 : decode cX9_sealOf 17 = .ok (.ireturn, 1) := by decide +kernel
theorem dX9_seal_0 : decode cX9_seal 0 = .ok (.aload_n 0, 1) := by decide +kernel
theorem dX9_seal_1 : decode cX9_seal 1 = .ok (.aload_n 0, 1) := by decide +kernel
theorem dX9_seal_2 : decode cX9_seal 2 = .ok (.iload_n 1, 1) := by decide +kernel
theorem dX9_seal_3 : decode cX9_seal 3 = .ok (.invokevirtual 102, 3) := by decide +kernel
theorem dX9_seal_6 : decode cX9_seal 6 = .ok (.ifCond .eq 7, 3) := by decide +kernel
theorem dX9_seal_9 : decode cX9_seal 9 = .ok (.iconst 0, 1) := by decide +kernel
theorem dX9_seal_10 : decode cX9_seal 10 = .ok (.goto 4, 3) := by decide +kernel
theorem dX9_seal_13 : decode cX9_seal 13 = .ok (.iconst 1, 1) := by decide +kernel
theorem dX9_seal_14 : decode cX9_seal 14 = .ok (.invokevirtual 94, 3) := by decide +kernel
theorem dX9_seal_17 : decode cX9_seal 17 = .ok (.ifCond .eq 11, 3) := by decide +kernel
theorem dX9_seal_20 : decode cX9_seal 20 = .ok (.aload_n 0, 1) := by decide +kernel
theorem dX9_seal_21 : decode cX9_seal 21 = .ok (.iload_n 1, 1) := by decide +kernel
theorem dX9_seal_22 : decode cX9_seal 22 = .ok (.invokevirtual 189, 3) := by decide +kernel
theorem dX9_seal_25 : decode cX9_seal 25 = .ok (.goto 4, 3) := by decide +kernel
theorem dX9_seal_28 : decode cX9_seal 28 = .ok (.iconst 0, 1) := by decide +kernel
theorem dX9_seal_29 : decode cX9_seal 29 = .ok (.ireturn, 1) := by decide +kernel
theorem dX9_sealByParcels_0 : decode cX9_sealByParcels 0 = .ok (.aload_n 0, 1) := by decide +kernel
theorem dX9_sealByParcels_1 : decode cX9_sealByParcels 1 = .ok (.iload_n 1, 1) := by decide +kernel
theorem dX9_sealByParcels_2 : decode cX9_sealByParcels 2 = .ok (.invokevirtual 192, 3) := by decide +kernel
theorem dX9_sealByParcels_5 : decode cX9_sealByParcels 5 = .ok (.ireturn, 1) := by decide +kernel
theorem dX9_dispatch_0 : decode cX9_dispatch 0 = .ok (.aload_n 0, 1) := by decide +kernel
theorem dX9_dispatch_1 : decode cX9_dispatch 1 = .ok (.aload_n 0, 1) := by decide +kernel
theorem dX9_dispatch_2 : decode cX9_dispatch 2 = .ok (.iload_n 1, 1) := by decide +kernel
theorem dX9_dispatch_3 : decode cX9_dispatch 3 = .ok (.invokevirtual 102, 3) := by decide +kernel
theorem dX9_dispatch_6 : decode cX9_dispatch 6 = .ok (.ifCond .ne 7, 3) := by decide +kernel
theorem dX9_dispatch_9 : decode cX9_dispatch 9 = .ok (.iconst 1, 1) := by decide +kernel
theorem dX9_dispatch_10 : decode cX9_dispatch 10 = .ok (.goto 17, 3) := by decide +kernel
theorem dX9_dispatch_13 : decode cX9_dispatch 13 = .ok (.aload_n 0, 1) := by decide +kernel
theorem dX9_dispatch_14 : decode cX9_dispatch 14 = .ok (.getfield 45, 3) := by decide +kernel
theorem dX9_dispatch_17 : decode cX9_dispatch 17 = .ok (.iload_n 1, 1) := by decide +kernel
theorem dX9_dispatch_18 : decode cX9_dispatch 18 = .ok (.iaload, 1) := by decide +kernel
theorem dX9_dispatch_19 : decode cX9_dispatch 19 = .ok (.ifCond .ne 7, 3) := by decide +kernel
theorem dX9_dispatch_22 : decode cX9_dispatch 22 = .ok (.iconst 2, 1) := by decide +kernel
theorem dX9_dispatch_23 : decode cX9_dispatch 23 = .ok (.goto 4, 3) := by decide +kernel
theorem dX9_dispatch_26 : decode cX9_dispatch 26 = .ok (.iconst 0, 1) := by decide +kernel
theorem dX9_dispatch_27 : decode cX9_dispatch 27 = .ok (.invokevirtual 94, 3) := by decide +kernel
theorem dX9_dispatch_30 : decode cX9_dispatch 30 = .ok (.ifCond .ne 5, 3) := by decide +kernel
theorem dX9_dispatch_33 : decode cX9_dispatch 33 = .ok (.iconst 0, 1) := by decide +kernel
theorem dX9_dispatch_34 : decode cX9_dispatch 34 = .ok (.ireturn, 1) := by decide +kernel
theorem dX9_dispatch_35 : decode cX9_dispatch 35 = .ok (.aload_n 0, 1) := by decide +kernel
theorem dX9_dispatch_36 : decode cX9_dispatch 36 = .ok (.iload_n 1, 1) := by decide +kernel
theorem dX9_dispatch_37 : decode cX9_dispatch 37 = .ok (.invokevirtual 189, 3) := by decide +kernel
theorem dX9_dispatch_40 : decode cX9_dispatch 40 = .ok (.istore_n 2, 1) := by decide +kernel
theorem dX9_dispatch_41 : decode cX9_dispatch 41 = .ok (.iconst 0, 1) := by decide +kernel
theorem dX9_dispatch_42 : decode cX9_dispatch 42 = .ok (.istore_n 3, 1) := by decide +kernel
theorem dX9_dispatch_43 : decode cX9_dispatch 43 = .ok (.iload_n 3, 1) := by decide +kernel
theorem dX9_dispatch_44 : decode cX9_dispatch 44 = .ok (.aload_n 0, 1) := by decide +kernel
theorem dX9_dispatch_45 : decode cX9_dispatch 45 = .ok (.getfield 45, 3) := by decide +kernel
theorem dX9_dispatch_48 : decode cX9_dispatch 48 = .ok (.iload_n 1, 1) := by decide +kernel
theorem dX9_dispatch_49 : decode cX9_dispatch 49 = .ok (.iaload, 1) := by decide +kernel
theorem dX9_dispatch_50 : decode cX9_dispatch 50 = .ok (.if_icmp .ge 66, 3) := by decide +kernel
theorem dX9_dispatch_53 : decode cX9_dispatch 53 = .ok (.aload_n 0, 1) := by decide +kernel
theorem dX9_dispatch_54 : decode cX9_dispatch 54 = .ok (.getfield 48, 3) := by decide +kernel
theorem dX9_dispatch_57 : decode cX9_dispatch 57 = .ok (.bipush 30, 2) := by decide +kernel
theorem dX9_dispatch_59 : decode cX9_dispatch 59 = .ok (.iload_n 1, 1) := by decide +kernel
theorem dX9_dispatch_60 : decode cX9_dispatch 60 = .ok (.imul, 1) := by decide +kernel
theorem dX9_dispatch_61 : decode cX9_dispatch 61 = .ok (.iload_n 3, 1) := by decide +kernel
theorem dX9_dispatch_62 : decode cX9_dispatch 62 = .ok (.iadd, 1) := by decide +kernel
theorem dX9_dispatch_63 : decode cX9_dispatch 63 = .ok (.iaload, 1) := by decide +kernel
theorem dX9_dispatch_64 : decode cX9_dispatch 64 = .ok (.istore 4, 2) := by decide +kernel
theorem dX9_dispatch_66 : decode cX9_dispatch 66 = .ok (.aload_n 0, 1) := by decide +kernel
theorem dX9_dispatch_67 : decode cX9_dispatch 67 = .ok (.getfield 36, 3) := by decide +kernel
theorem dX9_dispatch_70 : decode cX9_dispatch 70 = .ok (.iload 4, 2) := by decide +kernel
theorem dX9_dispatch_72 : decode cX9_dispatch 72 = .ok (.iconst 3, 1) := by decide +kernel
theorem dX9_dispatch_73 : decode cX9_dispatch 73 = .ok (.iastore, 1) := by decide +kernel
theorem dX9_dispatch_74 : decode cX9_dispatch 74 = .ok (.aload_n 0, 1) := by decide +kernel
theorem dX9_dispatch_75 : decode cX9_dispatch 75 = .ok (.getfield 60, 3) := by decide +kernel
theorem dX9_dispatch_78 : decode cX9_dispatch 78 = .ok (.iload 4, 2) := by decide +kernel
theorem dX9_dispatch_80 : decode cX9_dispatch 80 = .ok (.aload_n 0, 1) := by decide +kernel
theorem dX9_dispatch_81 : decode cX9_dispatch 81 = .ok (.getfield 195, 3) := by decide +kernel
theorem dX9_dispatch_84 : decode cX9_dispatch 84 = .ok (.iastore, 1) := by decide +kernel
theorem dX9_dispatch_85 : decode cX9_dispatch 85 = .ok (.aload_n 0, 1) := by decide +kernel
theorem dX9_dispatch_86 : decode cX9_dispatch 86 = .ok (.getfield 63, 3) := by decide +kernel
theorem dX9_dispatch_89 : decode cX9_dispatch 89 = .ok (.iload 4, 2) := by decide +kernel
theorem dX9_dispatch_91 : decode cX9_dispatch 91 = .ok (.iload_n 3, 1) := by decide +kernel
theorem dX9_dispatch_92 : decode cX9_dispatch 92 = .ok (.iastore, 1) := by decide +kernel
theorem dX9_dispatch_93 : decode cX9_dispatch 93 = .ok (.aload_n 0, 1) := by decide +kernel
theorem dX9_dispatch_94 : decode cX9_dispatch 94 = .ok (.dup, 1) := by decide +kernel
theorem dX9_dispatch_95 : decode cX9_dispatch 95 = .ok (.getfield 198, 3) := by decide +kernel
theorem dX9_dispatch_98 : decode cX9_dispatch 98 = .ok (.aload_n 0, 1) := by decide +kernel
theorem dX9_dispatch_99 : decode cX9_dispatch 99 = .ok (.getfield 33, 3) := by decide +kernel
theorem dX9_dispatch_102 : decode cX9_dispatch 102 = .ok (.iload 4, 2) := by decide +kernel
theorem dX9_dispatch_104 : decode cX9_dispatch 104 = .ok (.iaload, 1) := by decide +kernel
theorem dX9_dispatch_105 : decode cX9_dispatch 105 = .ok (.i2l, 1) := by decide +kernel
theorem dX9_dispatch_106 : decode cX9_dispatch 106 = .ok (.ladd, 1) := by decide +kernel
theorem dX9_dispatch_107 : decode cX9_dispatch 107 = .ok (.putfield 198, 3) := by decide +kernel
theorem dX9_dispatch_110 : decode cX9_dispatch 110 = .ok (.iinc 3 1, 3) := by decide +kernel
theorem dX9_dispatch_113 : decode cX9_dispatch 113 = .ok (.goto (-70), 3) := by decide +kernel
theorem dX9_dispatch_116 : decode cX9_dispatch 116 = .ok (.aload_n 0, 1) := by decide +kernel
theorem dX9_dispatch_117 : decode cX9_dispatch 117 = .ok (.getfield 57, 3) := by decide +kernel
theorem dX9_dispatch_120 : decode cX9_dispatch 120 = .ok (.aload_n 0, 1) := by decide +kernel
theorem dX9_dispatch_121 : decode cX9_dispatch 121 = .ok (.getfield 195, 3) := by decide +kernel
theorem dX9_dispatch_124 : decode cX9_dispatch 124 = .ok (.aload_n 0, 1) := by decide +kernel
theorem dX9_dispatch_125 : decode cX9_dispatch 125 = .ok (.getfield 45, 3) := by decide +kernel
theorem dX9_dispatch_128 : decode cX9_dispatch 128 = .ok (.iload_n 1, 1) := by decide +kernel
theorem dX9_dispatch_129 : decode cX9_dispatch 129 = .ok (.iaload, 1) := by decide +kernel
theorem dX9_dispatch_130 : decode cX9_dispatch 130 = .ok (.iastore, 1) := by decide +kernel
theorem dX9_dispatch_131 : decode cX9_dispatch 131 = .ok (.aload_n 0, 1) := by decide +kernel
theorem dX9_dispatch_132 : decode cX9_dispatch 132 = .ok (.dup, 1) := by decide +kernel
theorem dX9_dispatch_133 : decode cX9_dispatch 133 = .ok (.getfield 195, 3) := by decide +kernel
theorem dX9_dispatch_136 : decode cX9_dispatch 136 = .ok (.iconst 1, 1) := by decide +kernel
theorem dX9_dispatch_137 : decode cX9_dispatch 137 = .ok (.iadd, 1) := by decide +kernel
theorem dX9_dispatch_138 : decode cX9_dispatch 138 = .ok (.putfield 195, 3) := by decide +kernel
theorem dX9_dispatch_141 : decode cX9_dispatch 141 = .ok (.aload_n 0, 1) := by decide +kernel
theorem dX9_dispatch_142 : decode cX9_dispatch 142 = .ok (.getfield 45, 3) := by decide +kernel
theorem dX9_dispatch_145 : decode cX9_dispatch 145 = .ok (.iload_n 1, 1) := by decide +kernel
theorem dX9_dispatch_146 : decode cX9_dispatch 146 = .ok (.iconst 0, 1) := by decide +kernel
theorem dX9_dispatch_147 : decode cX9_dispatch 147 = .ok (.iastore, 1) := by decide +kernel
theorem dX9_dispatch_148 : decode cX9_dispatch 148 = .ok (.aload_n 0, 1) := by decide +kernel
theorem dX9_dispatch_149 : decode cX9_dispatch 149 = .ok (.getfield 51, 3) := by decide +kernel
theorem dX9_dispatch_152 : decode cX9_dispatch 152 = .ok (.iload_n 1, 1) := by decide +kernel
theorem dX9_dispatch_153 : decode cX9_dispatch 153 = .ok (.iconst 0, 1) := by decide +kernel
theorem dX9_dispatch_154 : decode cX9_dispatch 154 = .ok (.iastore, 1) := by decide +kernel
theorem dX9_dispatch_155 : decode cX9_dispatch 155 = .ok (.aload_n 0, 1) := by decide +kernel
theorem dX9_dispatch_156 : decode cX9_dispatch 156 = .ok (.getfield 54, 3) := by decide +kernel
theorem dX9_dispatch_159 : decode cX9_dispatch 159 = .ok (.iload_n 1, 1) := by decide +kernel
theorem dX9_dispatch_160 : decode cX9_dispatch 160 = .ok (.iconst 0, 1) := by decide +kernel
theorem dX9_dispatch_161 : decode cX9_dispatch 161 = .ok (.iastore, 1) := by decide +kernel
theorem dX9_dispatch_162 : decode cX9_dispatch 162 = .ok (.iload_n 2, 1) := by decide +kernel
theorem dX9_dispatch_163 : decode cX9_dispatch 163 = .ok (.ireturn, 1) := by decide +kernel
theorem dX9_trucks_0 : decode cX9_trucks 0 = .ok (.aload_n 0, 1) := by decide +kernel
theorem dX9_trucks_1 : decode cX9_trucks 1 = .ok (.iconst 0, 1) := by decide +kernel
theorem dX9_trucks_2 : decode cX9_trucks 2 = .ok (.putfield 81, 3) := by decide +kernel
theorem dX9_trucks_5 : decode cX9_trucks 5 = .ok (.aload_n 0, 1) := by decide +kernel
theorem dX9_trucks_6 : decode cX9_trucks 6 = .ok (.getfield 195, 3) := by decide +kernel
theorem dX9_trucks_9 : decode cX9_trucks 9 = .ok (.ireturn, 1) := by decide +kernel
theorem dX9_parcelAt_0 : decode cX9_parcelAt 0 = .ok (.iconst 0, 1) := by decide +kernel
theorem dX9_parcelAt_1 : decode cX9_parcelAt 1 = .ok (.istore_n 3, 1) := by decide +kernel
theorem dX9_parcelAt_2 : decode cX9_parcelAt 2 = .ok (.aload_n 0, 1) := by decide +kernel
theorem dX9_parcelAt_3 : decode cX9_parcelAt 3 = .ok (.getfield 36, 3) := by decide +kernel
theorem dX9_parcelAt_6 : decode cX9_parcelAt 6 = .ok (.iload_n 3, 1) := by decide +kernel
theorem dX9_parcelAt_7 : decode cX9_parcelAt 7 = .ok (.iaload, 1) := by decide +kernel
theorem dX9_parcelAt_8 : decode cX9_parcelAt 8 = .ok (.iconst 3, 1) := by decide +kernel
theorem dX9_parcelAt_9 : decode cX9_parcelAt 9 = .ok (.if_icmp .ne 23, 3) := by decide +kernel
theorem dX9_parcelAt_12 : decode cX9_parcelAt 12 = .ok (.aload_n 0, 1) := by decide +kernel
theorem dX9_parcelAt_13 : decode cX9_parcelAt 13 = .ok (.getfield 60, 3) := by decide +kernel
theorem dX9_parcelAt_16 : decode cX9_parcelAt 16 = .ok (.iload_n 3, 1) := by decide +kernel
theorem dX9_parcelAt_17 : decode cX9_parcelAt 17 = .ok (.iaload, 1) := by decide +kernel
theorem dX9_parcelAt_18 : decode cX9_parcelAt 18 = .ok (.iload_n 1, 1) := by decide +kernel
theorem dX9_parcelAt_19 : decode cX9_parcelAt 19 = .ok (.if_icmp .ne 13, 3) := by decide +kernel
theorem dX9_parcelAt_22 : decode cX9_parcelAt 22 = .ok (.aload_n 0, 1) := by decide +kernel
theorem dX9_parcelAt_23 : decode cX9_parcelAt 23 = .ok (.getfield 63, 3) := by decide +kernel
theorem dX9_parcelAt_26 : decode cX9_parcelAt 26 = .ok (.iload_n 3, 1) := by decide +kernel
theorem dX9_parcelAt_27 : decode cX9_parcelAt 27 = .ok (.iaload, 1) := by decide +kernel
theorem dX9_parcelAt_28 : decode cX9_parcelAt 28 = .ok (.iload_n 2, 1) := by decide +kernel
theorem dX9_parcelAt_29 : decode cX9_parcelAt 29 = .ok (.if_icmp .eq 9, 3) := by decide +kernel
theorem dX9_parcelAt_32 : decode cX9_parcelAt 32 = .ok (.iinc 3 1, 3) := by decide +kernel
theorem dX9_parcelAt_35 : decode cX9_parcelAt 35 = .ok (.goto (-33), 3) := by decide +kernel
theorem dX9_parcelAt_38 : decode cX9_parcelAt 38 = .ok (.iload_n 3, 1) := by decide +kernel
theorem dX9_parcelAt_39 : decode cX9_parcelAt 39 = .ok (.ireturn, 1) := by decide +kernel
theorem dX9_sealOfTruck_0 : decode cX9_sealOfTruck 0 = .ok (.aload_n 0, 1) := by decide +kernel
theorem dX9_sealOfTruck_1 : decode cX9_sealOfTruck 1 = .ok (.iload_n 1, 1) := by decide +kernel
theorem dX9_sealOfTruck_2 : decode cX9_sealOfTruck 2 = .ok (.iconst 0, 1) := by decide +kernel
theorem dX9_sealOfTruck_3 : decode cX9_sealOfTruck 3 = .ok (.aload_n 0, 1) := by decide +kernel
theorem dX9_sealOfTruck_4 : decode cX9_sealOfTruck 4 = .ok (.getfield 195, 3) := by decide +kernel
theorem dX9_sealOfTruck_7 : decode cX9_sealOfTruck 7 = .ok (.iconst 1, 1) := by decide +kernel
theorem dX9_sealOfTruck_8 : decode cX9_sealOfTruck 8 = .ok (.isub, 1) := by decide +kernel
theorem dX9_sealOfTruck_9 : decode cX9_sealOfTruck 9 = .ok (.invokestatic 87, 3) := by decide +kernel
theorem dX9_sealOfTruck_12 : decode cX9_sealOfTruck 12 = .ok (.ifCond .eq 7, 3) := by decide +kernel
theorem dX9_sealOfTruck_15 : decode cX9_sealOfTruck 15 = .ok (.iconst 0, 1) := by decide +kernel
theorem dX9_sealOfTruck_16 : decode cX9_sealOfTruck 16 = .ok (.goto 4, 3) := by decide +kernel
theorem dX9_sealOfTruck_19 : decode cX9_sealOfTruck 19 = .ok (.iconst 1, 1) := by decide +kernel
theorem dX9_sealOfTruck_20 : decode cX9_sealOfTruck 20 = .ok (.invokevirtual 94, 3) := by decide +kernel
theorem dX9_sealOfTruck_23 : decode cX9_sealOfTruck 23 = .ok (.ifCond .ne 5, 3) := by decide +kernel
theorem dX9_sealOfTruck_26 : decode cX9_sealOfTruck 26 = .ok (.iconst 0, 1) := by decide +kernel
theorem dX9_sealOfTruck_27 : decode cX9_sealOfTruck 27 = .ok (.ireturn, 1) := by decide +kernel
theorem dX9_sealOfTruck_28 : decode cX9_sealOfTruck 28 = .ok (.iconst 0, 1) := by decide +kernel
theorem dX9_sealOfTruck_29 : decode cX9_sealOfTruck 29 = .ok (.istore_n 2, 1) := by decide +kernel
theorem dX9_sealOfTruck_30 : decode cX9_sealOfTruck 30 = .ok (.iconst 0, 1) := by decide +kernel
theorem dX9_sealOfTruck_31 : decode cX9_sealOfTruck 31 = .ok (.istore_n 3, 1) := by decide +kernel
theorem dX9_sealOfTruck_32 : decode cX9_sealOfTruck 32 = .ok (.iconst 0, 1) := by decide +kernel
theorem dX9_sealOfTruck_33 : decode cX9_sealOfTruck 33 = .ok (.istore 4, 2) := by decide +kernel
theorem dX9_sealOfTruck_35 : decode cX9_sealOfTruck 35 = .ok (.iload 4, 2) := by decide +kernel
theorem dX9_sealOfTruck_37 : decode cX9_sealOfTruck 37 = .ok (.aload_n 0, 1) := by decide +kernel
theorem dX9_sealOfTruck_38 : decode cX9_sealOfTruck 38 = .ok (.getfield 57, 3) := by decide +kernel
theorem dX9_sealOfTruck_41 : decode cX9_sealOfTruck 41 = .ok (.iload_n 1, 1) := by decide +kernel
theorem dX9_sealOfTruck_42 : decode cX9_sealOfTruck 42 = .ok (.iaload, 1) := by decide +kernel
theorem dX9_sealOfTruck_43 : decode cX9_sealOfTruck 43 = .ok (.if_icmp .ge 33, 3) := by decide +kernel
theorem dX9_sealOfTruck_46 : decode cX9_sealOfTruck 46 = .ok (.iload_n 2, 1) := by decide +kernel
theorem dX9_sealOfTruck_47 : decode cX9_sealOfTruck 47 = .ok (.aload_n 0, 1) := by decide +kernel
theorem dX9_sealOfTruck_48 : decode cX9_sealOfTruck 48 = .ok (.iload_n 1, 1) := by decide +kernel
theorem dX9_sealOfTruck_49 : decode cX9_sealOfTruck 49 = .ok (.iload 4, 2) := by decide +kernel
theorem dX9_sealOfTruck_51 : decode cX9_sealOfTruck 51 = .ok (.invokevirtual 201, 3) := by decide +kernel
theorem dX9_sealOfTruck_54 : decode cX9_sealOfTruck 54 = .ok (.iadd, 1) := by decide +kernel
theorem dX9_sealOfTruck_55 : decode cX9_sealOfTruck 55 = .ok (.iconst 1, 1) := by decide +kernel
theorem dX9_sealOfTruck_56 : decode cX9_sealOfTruck 56 = .ok (.iadd, 1) := by decide +kernel
theorem dX9_sealOfTruck_57 : decode cX9_sealOfTruck 57 = .ok (.sipush 9973, 3) := by decide +kernel
theorem dX9_sealOfTruck_60 : decode cX9_sealOfTruck 60 = .ok (.irem, 1) := by decide +kernel
theorem dX9_sealOfTruck_61 : decode cX9_sealOfTruck 61 = .ok (.istore_n 2, 1) := by decide +kernel
theorem dX9_sealOfTruck_62 : decode cX9_sealOfTruck 62 = .ok (.iload_n 3, 1) := by decide +kernel
theorem dX9_sealOfTruck_63 : decode cX9_sealOfTruck 63 = .ok (.iload_n 2, 1) := by decide +kernel
theorem dX9_sealOfTruck_64 : decode cX9_sealOfTruck 64 = .ok (.iadd, 1) := by decide +kernel
theorem dX9_sealOfTruck_65 : decode cX9_sealOfTruck 65 = .ok (.sipush 9973, 3) := by decide +kernel
theorem dX9_sealOfTruck_68 : decode cX9_sealOfTruck 68 = .ok (.irem, 1) := by decide +kernel
theorem dX9_sealOfTruck_69 : decode cX9_sealOfTruck 69 = .ok (.istore_n 3, 1) := by decide +kernel
theorem dX9_sealOfTruck_70 : decode cX9_sealOfTruck 70 = .ok (.iinc 4 1, 3) := by decide +kernel
theorem dX9_sealOfTruck_73 : decode cX9_sealOfTruck 73 = .ok (.goto (-38), 3) := by decide +kernel
theorem dX9_sealOfTruck_76 : decode cX9_sealOfTruck 76 = .ok (.sipush 10000, 3) := by decide +kernel
theorem dX9_sealOfTruck_79 : decode cX9_sealOfTruck 79 = .ok (.iload_n 3, 1) := by decide +kernel
theorem dX9_sealOfTruck_80 : decode cX9_sealOfTruck 80 = .ok (.imul, 1) := by decide +kernel
theorem dX9_sealOfTruck_81 : decode cX9_sealOfTruck 81 = .ok (.iload_n 2, 1) := by decide +kernel
theorem dX9_sealOfTruck_82 : decode cX9_sealOfTruck 82 = .ok (.iadd, 1) := by decide +kernel
theorem dX9_sealOfTruck_83 : decode cX9_sealOfTruck 83 = .ok (.ireturn, 1) := by decide +kernel
theorem dX9_parcelIn_0 : decode cX9_parcelIn 0 = .ok (.iload_n 1, 1) := by decide +kernel
theorem dX9_parcelIn_1 : decode cX9_parcelIn 1 = .ok (.iconst 0, 1) := by decide +kernel
theorem dX9_parcelIn_2 : decode cX9_parcelIn 2 = .ok (.aload_n 0, 1) := by decide +kernel
theorem dX9_parcelIn_3 : decode cX9_parcelIn 3 = .ok (.getfield 195, 3) := by decide +kernel
theorem dX9_parcelIn_6 : decode cX9_parcelIn 6 = .ok (.iconst 1, 1) := by decide +kernel
theorem dX9_parcelIn_7 : decode cX9_parcelIn 7 = .ok (.isub, 1) := by decide +kernel
theorem dX9_parcelIn_8 : decode cX9_parcelIn 8 = .ok (.invokestatic 87, 3) := by decide +kernel
theorem dX9_parcelIn_11 : decode cX9_parcelIn 11 = .ok (.ifCond .ne 7, 3) := by decide +kernel
theorem dX9_parcelIn_14 : decode cX9_parcelIn 14 = .ok (.iconst 1, 1) := by decide +kernel
theorem dX9_parcelIn_15 : decode cX9_parcelIn 15 = .ok (.goto 4, 3) := by decide +kernel
theorem dX9_parcelIn_18 : decode cX9_parcelIn 18 = .ok (.iconst 0, 1) := by decide +kernel
theorem dX9_parcelIn_19 : decode cX9_parcelIn 19 = .ok (.istore_n 3, 1) := by decide +kernel
theorem dX9_parcelIn_20 : decode cX9_parcelIn 20 = .ok (.iload_n 3, 1) := by decide +kernel
theorem dX9_parcelIn_21 : decode cX9_parcelIn 21 = .ok (.ifCond .ne 23, 3) := by decide +kernel
theorem dX9_parcelIn_24 : decode cX9_parcelIn 24 = .ok (.iload_n 2, 1) := by decide +kernel
theorem dX9_parcelIn_25 : decode cX9_parcelIn 25 = .ok (.iconst 0, 1) := by decide +kernel
theorem dX9_parcelIn_26 : decode cX9_parcelIn 26 = .ok (.aload_n 0, 1) := by decide +kernel
theorem dX9_parcelIn_27 : decode cX9_parcelIn 27 = .ok (.getfield 57, 3) := by decide +kernel
theorem dX9_parcelIn_30 : decode cX9_parcelIn 30 = .ok (.iload_n 1, 1) := by decide +kernel
theorem dX9_parcelIn_31 : decode cX9_parcelIn 31 = .ok (.iaload, 1) := by decide +kernel
theorem dX9_parcelIn_32 : decode cX9_parcelIn 32 = .ok (.iconst 1, 1) := by decide +kernel
theorem dX9_parcelIn_33 : decode cX9_parcelIn 33 = .ok (.isub, 1) := by decide +kernel
theorem dX9_parcelIn_34 : decode cX9_parcelIn 34 = .ok (.invokestatic 87, 3) := by decide +kernel
theorem dX9_parcelIn_37 : decode cX9_parcelIn 37 = .ok (.ifCond .ne 7, 3) := by decide +kernel
theorem dX9_parcelIn_40 : decode cX9_parcelIn 40 = .ok (.iconst 2, 1) := by decide +kernel
theorem dX9_parcelIn_41 : decode cX9_parcelIn 41 = .ok (.goto 4, 3) := by decide +kernel
theorem dX9_parcelIn_44 : decode cX9_parcelIn 44 = .ok (.iload_n 3, 1) := by decide +kernel
theorem dX9_parcelIn_45 : decode cX9_parcelIn 45 = .ok (.istore_n 3, 1) := by decide +kernel
theorem dX9_parcelIn_46 : decode cX9_parcelIn 46 = .ok (.aload_n 0, 1) := by decide +kernel
theorem dX9_parcelIn_47 : decode cX9_parcelIn 47 = .ok (.iload_n 3, 1) := by decide +kernel
theorem dX9_parcelIn_48 : decode cX9_parcelIn 48 = .ok (.invokevirtual 94, 3) := by decide +kernel
theorem dX9_parcelIn_51 : decode cX9_parcelIn 51 = .ok (.ifCond .eq 12, 3) := by decide +kernel
theorem dX9_parcelIn_54 : decode cX9_parcelIn 54 = .ok (.aload_n 0, 1) := by decide +kernel
theorem dX9_parcelIn_55 : decode cX9_parcelIn 55 = .ok (.iload_n 1, 1) := by decide +kernel
theorem dX9_parcelIn_56 : decode cX9_parcelIn 56 = .ok (.iload_n 2, 1) := by decide +kernel
theorem dX9_parcelIn_57 : decode cX9_parcelIn 57 = .ok (.invokevirtual 201, 3) := by decide +kernel
theorem dX9_parcelIn_60 : decode cX9_parcelIn 60 = .ok (.goto 4, 3) := by decide +kernel
theorem dX9_parcelIn_63 : decode cX9_parcelIn 63 = .ok (.iconst 0, 1) := by decide +kernel
theorem dX9_parcelIn_64 : decode cX9_parcelIn 64 = .ok (.ireturn, 1) := by decide +kernel
theorem dX9_truckOf_0 : decode cX9_truckOf 0 = .ok (.aload_n 0, 1) := by decide +kernel
theorem dX9_truckOf_1 : decode cX9_truckOf 1 = .ok (.aload_n 0, 1) := by decide +kernel
theorem dX9_truckOf_2 : decode cX9_truckOf 2 = .ok (.iload_n 1, 1) := by decide +kernel
theorem dX9_truckOf_3 : decode cX9_truckOf 3 = .ok (.invokevirtual 168, 3) := by decide +kernel
theorem dX9_truckOf_6 : decode cX9_truckOf 6 = .ok (.ifCond .ne 7, 3) := by decide +kernel
theorem dX9_truckOf_9 : decode cX9_truckOf 9 = .ok (.iconst 1, 1) := by decide +kernel
theorem dX9_truckOf_10 : decode cX9_truckOf 10 = .ok (.goto 18, 3) := by decide +kernel
theorem dX9_truckOf_13 : decode cX9_truckOf 13 = .ok (.aload_n 0, 1) := by decide +kernel
theorem dX9_truckOf_14 : decode cX9_truckOf 14 = .ok (.getfield 36, 3) := by decide +kernel
theorem dX9_truckOf_17 : decode cX9_truckOf 17 = .ok (.iload_n 1, 1) := by decide +kernel
theorem dX9_truckOf_18 : decode cX9_truckOf 18 = .ok (.iaload, 1) := by decide +kernel
theorem dX9_truckOf_19 : decode cX9_truckOf 19 = .ok (.iconst 3, 1) := by decide +kernel
theorem dX9_truckOf_20 : decode cX9_truckOf 20 = .ok (.if_icmp .eq 7, 3) := by decide +kernel
theorem dX9_truckOf_23 : decode cX9_truckOf 23 = .ok (.iconst 2, 1) := by decide +kernel
theorem dX9_truckOf_24 : decode cX9_truckOf 24 = .ok (.goto 4, 3) := by decide +kernel
theorem dX9_truckOf_27 : decode cX9_truckOf 27 = .ok (.iconst 0, 1) := by decide +kernel
theorem dX9_truckOf_28 : decode cX9_truckOf 28 = .ok (.invokevirtual 94, 3) := by decide +kernel
theorem dX9_truckOf_31 : decode cX9_truckOf 31 = .ok (.ifCond .eq 12, 3) := by decide +kernel
theorem dX9_truckOf_34 : decode cX9_truckOf 34 = .ok (.aload_n 0, 1) := by decide +kernel
theorem dX9_truckOf_35 : decode cX9_truckOf 35 = .ok (.getfield 60, 3) := by decide +kernel
theorem dX9_truckOf_38 : decode cX9_truckOf 38 = .ok (.iload_n 1, 1) := by decide +kernel
theorem dX9_truckOf_39 : decode cX9_truckOf 39 = .ok (.iaload, 1) := by decide +kernel
theorem dX9_truckOf_40 : decode cX9_truckOf 40 = .ok (.goto 4, 3) := by decide +kernel
theorem dX9_truckOf_43 : decode cX9_truckOf 43 = .ok (.iconst 0, 1) := by decide +kernel
theorem dX9_truckOf_44 : decode cX9_truckOf 44 = .ok (.ireturn, 1) := by decide +kernel
theorem dX9_shipped_0 : decode cX9_shipped 0 = .ok (.aload_n 0, 1) := by decide +kernel
theorem dX9_shipped_1 : decode cX9_shipped 1 = .ok (.iconst 0, 1) := by decide +kernel
theorem dX9_shipped_2 : decode cX9_shipped 2 = .ok (.putfield 81, 3) := by decide +kernel
theorem dX9_shipped_5 : decode cX9_shipped 5 = .ok (.aload_n 0, 1) := by decide +kernel
theorem dX9_shipped_6 : decode cX9_shipped 6 = .ok (.getfield 198, 3) := by decide +kernel
theorem dX9_shipped_9 : decode cX9_shipped 9 = .ok (.lreturn, 1) := by decide +kernel
theorem dX9_meanRounds_0 : decode cX9_meanRounds 0 = .ok (.aload_n 0, 1) := by decide +kernel
theorem dX9_meanRounds_1 : decode cX9_meanRounds 1 = .ok (.aload_n 0, 1) := by decide +kernel
theorem dX9_meanRounds_2 : decode cX9_meanRounds 2 = .ok (.getfield 129, 3) := by decide +kernel
theorem dX9_meanRounds_5 : decode cX9_meanRounds 5 = .ok (.ifCond .ne 7, 3) := by decide +kernel
theorem dX9_meanRounds_8 : decode cX9_meanRounds 8 = .ok (.iconst 1, 1) := by decide +kernel
theorem dX9_meanRounds_9 : decode cX9_meanRounds 9 = .ok (.goto 4, 3) := by decide +kernel
theorem dX9_meanRounds_12 : decode cX9_meanRounds 12 = .ok (.iconst 0, 1) := by decide +kernel
theorem dX9_meanRounds_13 : decode cX9_meanRounds 13 = .ok (.invokevirtual 94, 3) := by decide +kernel
theorem dX9_meanRounds_16 : decode cX9_meanRounds 16 = .ok (.ifCond .eq 17, 3) := by decide +kernel
theorem dX9_meanRounds_19 : decode cX9_meanRounds 19 = .ok (.aload_n 0, 1) := by decide +kernel
theorem dX9_meanRounds_20 : decode cX9_meanRounds 20 = .ok (.getfield 132, 3) := by decide +kernel
theorem dX9_meanRounds_23 : decode cX9_meanRounds 23 = .ok (.i2d, 1) := by decide +kernel
theorem dX9_meanRounds_24 : decode cX9_meanRounds 24 = .ok (.aload_n 0, 1) := by decide +kernel
theorem dX9_meanRounds_25 : decode cX9_meanRounds 25 = .ok (.getfield 129, 3) := by decide +kernel
theorem dX9_meanRounds_28 : decode cX9_meanRounds 28 = .ok (.i2d, 1) := by decide +kernel
theorem dX9_meanRounds_29 : decode cX9_meanRounds 29 = .ok (.ddiv, 1) := by decide +kernel
theorem dX9_meanRounds_30 : decode cX9_meanRounds 30 = .ok (.goto 4, 3) := by decide +kernel
theorem dX9_meanRounds_33 : decode cX9_meanRounds 33 = .ok (.dconst 0, 1) := by decide +kernel
theorem dX9_meanRounds_34 : decode cX9_meanRounds 34 = .ok (.dreturn, 1) := by decide +kernel
theorem dX9_overflowShare_0 : decode cX9_overflowShare 0 = .ok (.aload_n 0, 1) := by decide +kernel
theorem dX9_overflowShare_1 : decode cX9_overflowShare 1 = .ok (.aload_n 0, 1) := by decide +kernel
theorem dX9_overflowShare_2 : decode cX9_overflowShare 2 = .ok (.getfield 129, 3) := by decide +kernel
theorem dX9_overflowShare_5 : decode cX9_overflowShare 5 = .ok (.ifCond .ne 7, 3) := by decide +kernel
theorem dX9_overflowShare_8 : decode cX9_overflowShare 8 = .ok (.iconst 1, 1) := by decide +kernel
theorem dX9_overflowShare_9 : decode cX9_overflowShare 9 = .ok (.goto 4, 3) := by decide +kernel
theorem dX9_overflowShare_12 : decode cX9_overflowShare 12 = .ok (.iconst 0, 1) := by decide +kernel
theorem dX9_overflowShare_13 : decode cX9_overflowShare 13 = .ok (.invokevirtual 94, 3) := by decide +kernel
theorem dX9_overflowShare_16 : decode cX9_overflowShare 16 = .ok (.ifCond .eq 17, 3) := by decide +kernel
theorem dX9_overflowShare_19 : decode cX9_overflowShare 19 = .ok (.aload_n 0, 1) := by decide +kernel
theorem dX9_overflowShare_20 : decode cX9_overflowShare 20 = .ok (.getfield 153, 3) := by decide +kernel
theorem dX9_overflowShare_23 : decode cX9_overflowShare 23 = .ok (.i2f, 1) := by decide +kernel
theorem dX9_overflowShare_24 : decode cX9_overflowShare 24 = .ok (.aload_n 0, 1) := by decide +kernel
theorem dX9_overflowShare_25 : decode cX9_overflowShare 25 = .ok (.getfield 129, 3) := by decide +kernel
theorem dX9_overflowShare_28 : decode cX9_overflowShare 28 = .ok (.i2f, 1) := by decide +kernel
theorem dX9_overflowShare_29 : decode cX9_overflowShare 29 = .ok (.fdiv, 1) := by decide +kernel
theorem dX9_overflowShare_30 : decode cX9_overflowShare 30 = .ok (.goto 4, 3) := by decide +kernel
theorem dX9_overflowShare_33 : decode cX9_overflowShare 33 = .ok (.fconst 0, 1) := by decide +kernel
theorem dX9_overflowShare_34 : decode cX9_overflowShare 34 = .ok (.freturn, 1) := by decide +kernel
theorem dX9_isOnce_0 : decode cX9_isOnce 0 = .ok (.aload_n 0, 1) := by decide +kernel
theorem dX9_isOnce_1 : decode cX9_isOnce 1 = .ok (.iconst 0, 1) := by decide +kernel
theorem dX9_isOnce_2 : decode cX9_isOnce 2 = .ok (.putfield 81, 3) := by decide +kernel
theorem dX9_isOnce_5 : decode cX9_isOnce 5 = .ok (.iconst 1, 1) := by decide +kernel
theorem dX9_isOnce_6 : decode cX9_isOnce 6 = .ok (.ireturn, 1) := by decide +kernel
theorem dJx00060_init_a7421_0 : decode cJx00060_init_a7421 0 = .ok (.aload_n 0, 1) := by decide +kernel
theorem dJx00060_init_a7421_1 : decode cJx00060_init_a7421 1 = .ok (.aload_n 1, 1) := by decide +kernel
theorem dJx00060_init_a7421_2 : decode cJx00060_init_a7421 2 = .ok (.invokespecial 7, 3) := by decide +kernel
theorem dJx00060_init_a7421_5 : decode cJx00060_init_a7421 5 = .ok (.return_, 1) := by decide +kernel
theorem dJ9_max_7cf53_0 : decode cJ9_max_7cf53 0 = .ok (.iload_n 0, 1) := by decide +kernel
theorem dJ9_max_7cf53_1 : decode cJ9_max_7cf53 1 = .ok (.iload_n 1, 1) := by decide +kernel
theorem dJ9_max_7cf53_2 : decode cJ9_max_7cf53 2 = .ok (.if_icmp .lt 7, 3) := by decide +kernel
theorem dJ9_max_7cf53_5 : decode cJ9_max_7cf53 5 = .ok (.iload_n 0, 1) := by decide +kernel
theorem dJ9_max_7cf53_6 : decode cJ9_max_7cf53 6 = .ok (.goto 4, 3) := by decide +kernel
theorem dJ9_max_7cf53_9 : decode cJ9_max_7cf53 9 = .ok (.iload_n 1, 1) := by decide +kernel
theorem dJ9_max_7cf53_10 : decode cJ9_max_7cf53 10 = .ok (.ireturn, 1) := by decide +kernel
theorem dJ9_min_7cf53_0 : decode cJ9_min_7cf53 0 = .ok (.iload_n 0, 1) := by decide +kernel
theorem dJ9_min_7cf53_1 : decode cJ9_min_7cf53 1 = .ok (.iload_n 1, 1) := by decide +kernel
theorem dJ9_min_7cf53_2 : decode cJ9_min_7cf53 2 = .ok (.if_icmp .gt 7, 3) := by decide +kernel
theorem dJ9_min_7cf53_5 : decode cJ9_min_7cf53 5 = .ok (.iload_n 0, 1) := by decide +kernel
theorem dJ9_min_7cf53_6 : decode cJ9_min_7cf53 6 = .ok (.goto 4, 3) := by decide +kernel
theorem dJ9_min_7cf53_9 : decode cJ9_min_7cf53 9 = .ok (.iload_n 1, 1) := by decide +kernel
theorem dJ9_min_7cf53_10 : decode cJ9_min_7cf53 10 = .ok (.ireturn, 1) := by decide +kernel
theorem dL_setLoop_0 : decode cL_setLoop 0 = .ok (.aload_n 2, 1) := by decide +kernel
theorem dL_setLoop_1 : decode cL_setLoop 1 = .ok (.iconst 0, 1) := by decide +kernel
theorem dL_setLoop_2 : decode cL_setLoop 2 = .ok (.aload_n 0, 1) := by decide +kernel
theorem dL_setLoop_3 : decode cL_setLoop 3 = .ok (.iload_n 1, 1) := by decide +kernel
theorem dL_setLoop_4 : decode cL_setLoop 4 = .ok (.invokevirtual 7, 3) := by decide +kernel
theorem dL_setLoop_7 : decode cL_setLoop 7 = .ok (.i2l, 1) := by decide +kernel
theorem dL_setLoop_8 : decode cL_setLoop 8 = .ok (.lastore, 1) := by decide +kernel
theorem dL_setLoop_9 : decode cL_setLoop 9 = .ok (.goto 9, 3) := by decide +kernel
theorem dL_setLoop_12 : decode cL_setLoop 12 = .ok (.astore_n 3, 1) := by decide +kernel
theorem dL_setLoop_13 : decode cL_setLoop 13 = .ok (.iconst 1, 1) := by decide +kernel
theorem dL_setLoop_14 : decode cL_setLoop 14 = .ok (.ireturn, 1) := by decide +kernel
theorem dL_setLoop_15 : decode cL_setLoop 15 = .ok (.astore_n 3, 1) := by decide +kernel
theorem dL_setLoop_16 : decode cL_setLoop 16 = .ok (.iconst 2, 1) := by decide +kernel
theorem dL_setLoop_17 : decode cL_setLoop 17 = .ok (.ireturn, 1) := by decide +kernel
theorem dL_setLoop_18 : decode cL_setLoop 18 = .ok (.iconst 0, 1) := by decide +kernel
theorem dL_setLoop_19 : decode cL_setLoop 19 = .ok (.ireturn, 1) := by decide +kernel
theorem dL_addChute_0 : decode cL_addChute 0 = .ok (.aload_n 3, 1) := by decide +kernel
theorem dL_addChute_1 : decode cL_addChute 1 = .ok (.iconst 0, 1) := by decide +kernel
theorem dL_addChute_2 : decode cL_addChute 2 = .ok (.aload_n 0, 1) := by decide +kernel
theorem dL_addChute_3 : decode cL_addChute 3 = .ok (.iload_n 1, 1) := by decide +kernel
theorem dL_addChute_4 : decode cL_addChute 4 = .ok (.iload_n 2, 1) := by decide +kernel
theorem dL_addChute_5 : decode cL_addChute 5 = .ok (.invokevirtual 17, 3) := by decide +kernel
theorem dL_addChute_8 : decode cL_addChute 8 = .ok (.i2l, 1) := by decide +kernel
theorem dL_addChute_9 : decode cL_addChute 9 = .ok (.lastore, 1) := by decide +kernel
theorem dL_addChute_10 : decode cL_addChute 10 = .ok (.goto 15, 3) := by decide +kernel
theorem dL_addChute_13 : decode cL_addChute 13 = .ok (.astore 4, 2) := by decide +kernel
theorem dL_addChute_15 : decode cL_addChute 15 = .ok (.iconst 1, 1) := by decide +kernel
theorem dL_addChute_16 : decode cL_addChute 16 = .ok (.ireturn, 1) := by decide +kernel
theorem dL_addChute_17 : decode cL_addChute 17 = .ok (.astore 4, 2) := by decide +kernel
theorem dL_addChute_19 : decode cL_addChute 19 = .ok (.iconst 2, 1) := by decide +kernel
theorem dL_addChute_20 : decode cL_addChute 20 = .ok (.ireturn, 1) := by decide +kernel
theorem dL_addChute_21 : decode cL_addChute 21 = .ok (.astore 4, 2) := by decide +kernel
theorem dL_addChute_23 : decode cL_addChute 23 = .ok (.iconst 3, 1) := by decide +kernel
theorem dL_addChute_24 : decode cL_addChute 24 = .ok (.ireturn, 1) := by decide +kernel
theorem dL_addChute_25 : decode cL_addChute 25 = .ok (.iconst 0, 1) := by decide +kernel
theorem dL_addChute_26 : decode cL_addChute 26 = .ok (.ireturn, 1) := by decide +kernel
theorem dL_setCapacity_0 : decode cL_setCapacity 0 = .ok (.aload_n 3, 1) := by decide +kernel
theorem dL_setCapacity_1 : decode cL_setCapacity 1 = .ok (.iconst 0, 1) := by decide +kernel
theorem dL_setCapacity_2 : decode cL_setCapacity 2 = .ok (.aload_n 0, 1) := by decide +kernel
theorem dL_setCapacity_3 : decode cL_setCapacity 3 = .ok (.iload_n 1, 1) := by decide +kernel
theorem dL_setCapacity_4 : decode cL_setCapacity 4 = .ok (.iload_n 2, 1) := by decide +kernel
theorem dL_setCapacity_5 : decode cL_setCapacity 5 = .ok (.invokevirtual 23, 3) := by decide +kernel
theorem dL_setCapacity_8 : decode cL_setCapacity 8 = .ok (.i2l, 1) := by decide +kernel
theorem dL_setCapacity_9 : decode cL_setCapacity 9 = .ok (.lastore, 1) := by decide +kernel
theorem dL_setCapacity_10 : decode cL_setCapacity 10 = .ok (.goto 15, 3) := by decide +kernel
theorem dL_setCapacity_13 : decode cL_setCapacity 13 = .ok (.astore 4, 2) := by decide +kernel
theorem dL_setCapacity_15 : decode cL_setCapacity 15 = .ok (.iconst 1, 1) := by decide +kernel
theorem dL_setCapacity_16 : decode cL_setCapacity 16 = .ok (.ireturn, 1) := by decide +kernel
theorem dL_setCapacity_17 : decode cL_setCapacity 17 = .ok (.astore 4, 2) := by decide +kernel
theorem dL_setCapacity_19 : decode cL_setCapacity 19 = .ok (.iconst 2, 1) := by decide +kernel
theorem dL_setCapacity_20 : decode cL_setCapacity 20 = .ok (.ireturn, 1) := by decide +kernel
theorem dL_setCapacity_21 : decode cL_setCapacity 21 = .ok (.astore 4, 2) := by decide +kernel
theorem dL_setCapacity_23 : decode cL_setCapacity 23 = .ok (.iconst 3, 1) := by decide +kernel
theorem dL_setCapacity_24 : decode cL_setCapacity 24 = .ok (.ireturn, 1) := by decide +kernel
theorem dL_setCapacity_25 : decode cL_setCapacity 25 = .ok (.iconst 0, 1) := by decide +kernel
theorem dL_setCapacity_26 : decode cL_setCapacity 26 = .ok (.ireturn, 1) := by decide +kernel
theorem dL_setLimit_0 : decode cL_setLimit 0 = .ok (.aload_n 2, 1) := by decide +kernel
theorem dL_setLimit_1 : decode cL_setLimit 1 = .ok (.iconst 0, 1) := by decide +kernel
theorem dL_setLimit_2 : decode cL_setLimit 2 = .ok (.aload_n 0, 1) := by decide +kernel
theorem dL_setLimit_3 : decode cL_setLimit 3 = .ok (.iload_n 1, 1) := by decide +kernel
theorem dL_setLimit_4 : decode cL_setLimit 4 = .ok (.invokevirtual 28, 3) := by decide +kernel
theorem dL_setLimit_7 : decode cL_setLimit 7 = .ok (.i2l, 1) := by decide +kernel
theorem dL_setLimit_8 : decode cL_setLimit 8 = .ok (.lastore, 1) := by decide +kernel
theorem dL_setLimit_9 : decode cL_setLimit 9 = .ok (.goto 6, 3) := by decide +kernel
theorem dL_setLimit_12 : decode cL_setLimit 12 = .ok (.astore_n 3, 1) := by decide +kernel
theorem dL_setLimit_13 : decode cL_setLimit 13 = .ok (.iconst 1, 1) := by decide +kernel
theorem dL_setLimit_14 : decode cL_setLimit 14 = .ok (.ireturn, 1) := by decide +kernel
theorem dL_setLimit_15 : decode cL_setLimit 15 = .ok (.iconst 0, 1) := by decide +kernel
theorem dL_setLimit_16 : decode cL_setLimit 16 = .ok (.ireturn, 1) := by decide +kernel
theorem dL_jam_0 : decode cL_jam 0 = .ok (.aload_n 2, 1) := by decide +kernel
theorem dL_jam_1 : decode cL_jam 1 = .ok (.iconst 0, 1) := by decide +kernel
theorem dL_jam_2 : decode cL_jam 2 = .ok (.aload_n 0, 1) := by decide +kernel
theorem dL_jam_3 : decode cL_jam 3 = .ok (.iload_n 1, 1) := by decide +kernel
theorem dL_jam_4 : decode cL_jam 4 = .ok (.invokevirtual 31, 3) := by decide +kernel
theorem dL_jam_7 : decode cL_jam 7 = .ok (.i2l, 1) := by decide +kernel
theorem dL_jam_8 : decode cL_jam 8 = .ok (.lastore, 1) := by decide +kernel
theorem dL_jam_9 : decode cL_jam 9 = .ok (.goto 9, 3) := by decide +kernel
theorem dL_jam_12 : decode cL_jam 12 = .ok (.astore_n 3, 1) := by decide +kernel
theorem dL_jam_13 : decode cL_jam 13 = .ok (.iconst 1, 1) := by decide +kernel
theorem dL_jam_14 : decode cL_jam 14 = .ok (.ireturn, 1) := by decide +kernel
theorem dL_jam_15 : decode cL_jam 15 = .ok (.astore_n 3, 1) := by decide +kernel
theorem dL_jam_16 : decode cL_jam 16 = .ok (.iconst 2, 1) := by decide +kernel
theorem dL_jam_17 : decode cL_jam 17 = .ok (.ireturn, 1) := by decide +kernel
theorem dL_jam_18 : decode cL_jam 18 = .ok (.iconst 0, 1) := by decide +kernel
theorem dL_jam_19 : decode cL_jam 19 = .ok (.ireturn, 1) := by decide +kernel
theorem dL_free_0 : decode cL_free 0 = .ok (.aload_n 2, 1) := by decide +kernel
theorem dL_free_1 : decode cL_free 1 = .ok (.iconst 0, 1) := by decide +kernel
theorem dL_free_2 : decode cL_free 2 = .ok (.aload_n 0, 1) := by decide +kernel
theorem dL_free_3 : decode cL_free 3 = .ok (.iload_n 1, 1) := by decide +kernel
theorem dL_free_4 : decode cL_free 4 = .ok (.invokevirtual 36, 3) := by decide +kernel
theorem dL_free_7 : decode cL_free 7 = .ok (.i2l, 1) := by decide +kernel
theorem dL_free_8 : decode cL_free 8 = .ok (.lastore, 1) := by decide +kernel
theorem dL_free_9 : decode cL_free 9 = .ok (.goto 9, 3) := by decide +kernel
theorem dL_free_12 : decode cL_free 12 = .ok (.astore_n 3, 1) := by decide +kernel
theorem dL_free_13 : decode cL_free 13 = .ok (.iconst 1, 1) := by decide +kernel
theorem dL_free_14 : decode cL_free 14 = .ok (.ireturn, 1) := by decide +kernel
theorem dL_free_15 : decode cL_free 15 = .ok (.astore_n 3, 1) := by decide +kernel
theorem dL_free_16 : decode cL_free 16 = .ok (.iconst 2, 1) := by decide +kernel
theorem dL_free_17 : decode cL_free 17 = .ok (.ireturn, 1) := by decide +kernel
theorem dL_free_18 : decode cL_free 18 = .ok (.iconst 0, 1) := by decide +kernel
theorem dL_free_19 : decode cL_free 19 = .ok (.ireturn, 1) := by decide +kernel
theorem dL_stationAt_0 : decode cL_stationAt 0 = .ok (.aload_n 2, 1) := by decide +kernel
theorem dL_stationAt_1 : decode cL_stationAt 1 = .ok (.iconst 0, 1) := by decide +kernel
theorem dL_stationAt_2 : decode cL_stationAt 2 = .ok (.aload_n 0, 1) := by decide +kernel
theorem dL_stationAt_3 : decode cL_stationAt 3 = .ok (.iload_n 1, 1) := by decide +kernel
theorem dL_stationAt_4 : decode cL_stationAt 4 = .ok (.invokevirtual 39, 3) := by decide +kernel
theorem dL_stationAt_7 : decode cL_stationAt 7 = .ok (.i2l, 1) := by decide +kernel
theorem dL_stationAt_8 : decode cL_stationAt 8 = .ok (.lastore, 1) := by decide +kernel
theorem dL_stationAt_9 : decode cL_stationAt 9 = .ok (.goto 6, 3) := by decide +kernel
theorem dL_stationAt_12 : decode cL_stationAt 12 = .ok (.astore_n 3, 1) := by decide +kernel
theorem dL_stationAt_13 : decode cL_stationAt 13 = .ok (.iconst 1, 1) := by decide +kernel
theorem dL_stationAt_14 : decode cL_stationAt 14 = .ok (.ireturn, 1) := by decide +kernel
theorem dL_stationAt_15 : decode cL_stationAt 15 = .ok (.iconst 0, 1) := by decide +kernel
theorem dL_stationAt_16 : decode cL_stationAt 16 = .ok (.ireturn, 1) := by decide +kernel
theorem dL_arrive_0 : decode cL_arrive 0 = .ok (.aload_n 3, 1) := by decide +kernel
theorem dL_arrive_1 : decode cL_arrive 1 = .ok (.iconst 0, 1) := by decide +kernel
theorem dL_arrive_2 : decode cL_arrive 2 = .ok (.aload_n 0, 1) := by decide +kernel
theorem dL_arrive_3 : decode cL_arrive 3 = .ok (.iload_n 1, 1) := by decide +kernel
theorem dL_arrive_4 : decode cL_arrive 4 = .ok (.iload_n 2, 1) := by decide +kernel
theorem dL_arrive_5 : decode cL_arrive 5 = .ok (.invokevirtual 43, 3) := by decide +kernel
theorem dL_arrive_8 : decode cL_arrive 8 = .ok (.i2l, 1) := by decide +kernel
theorem dL_arrive_9 : decode cL_arrive 9 = .ok (.lastore, 1) := by decide +kernel
theorem dL_arrive_10 : decode cL_arrive 10 = .ok (.goto 11, 3) := by decide +kernel
theorem dL_arrive_13 : decode cL_arrive 13 = .ok (.astore 4, 2) := by decide +kernel
theorem dL_arrive_15 : decode cL_arrive 15 = .ok (.iconst 1, 1) := by decide +kernel
theorem dL_arrive_16 : decode cL_arrive 16 = .ok (.ireturn, 1) := by decide +kernel
theorem dL_arrive_17 : decode cL_arrive 17 = .ok (.astore 4, 2) := by decide +kernel
theorem dL_arrive_19 : decode cL_arrive 19 = .ok (.iconst 2, 1) := by decide +kernel
theorem dL_arrive_20 : decode cL_arrive 20 = .ok (.ireturn, 1) := by decide +kernel
theorem dL_arrive_21 : decode cL_arrive 21 = .ok (.iconst 0, 1) := by decide +kernel
theorem dL_arrive_22 : decode cL_arrive 22 = .ok (.ireturn, 1) := by decide +kernel
theorem dL_pass_0 : decode cL_pass 0 = .ok (.aload_n 2, 1) := by decide +kernel
theorem dL_pass_1 : decode cL_pass 1 = .ok (.iconst 0, 1) := by decide +kernel
theorem dL_pass_2 : decode cL_pass 2 = .ok (.aload_n 0, 1) := by decide +kernel
theorem dL_pass_3 : decode cL_pass 3 = .ok (.iload_n 1, 1) := by decide +kernel
theorem dL_pass_4 : decode cL_pass 4 = .ok (.invokevirtual 46, 3) := by decide +kernel
theorem dL_pass_7 : decode cL_pass 7 = .ok (.i2l, 1) := by decide +kernel
theorem dL_pass_8 : decode cL_pass 8 = .ok (.lastore, 1) := by decide +kernel
theorem dL_pass_9 : decode cL_pass 9 = .ok (.goto 6, 3) := by decide +kernel
theorem dL_pass_12 : decode cL_pass 12 = .ok (.astore_n 3, 1) := by decide +kernel
theorem dL_pass_13 : decode cL_pass 13 = .ok (.iconst 1, 1) := by decide +kernel
theorem dL_pass_14 : decode cL_pass 14 = .ok (.ireturn, 1) := by decide +kernel
theorem dL_pass_15 : decode cL_pass 15 = .ok (.iconst 0, 1) := by decide +kernel
theorem dL_pass_16 : decode cL_pass 16 = .ok (.ireturn, 1) := by decide +kernel
theorem dL_stateOf_0 : decode cL_stateOf 0 = .ok (.aload_n 2, 1) := by decide +kernel
theorem dL_stateOf_1 : decode cL_stateOf 1 = .ok (.iconst 0, 1) := by decide +kernel
theorem dL_stateOf_2 : decode cL_stateOf 2 = .ok (.aload_n 0, 1) := by decide +kernel
theorem dL_stateOf_3 : decode cL_stateOf 3 = .ok (.iload_n 1, 1) := by decide +kernel
theorem dL_stateOf_4 : decode cL_stateOf 4 = .ok (.invokevirtual 49, 3) := by decide +kernel
theorem dL_stateOf_7 : decode cL_stateOf 7 = .ok (.i2l, 1) := by decide +kernel
theorem dL_stateOf_8 : decode cL_stateOf 8 = .ok (.lastore, 1) := by decide +kernel
theorem dL_stateOf_9 : decode cL_stateOf 9 = .ok (.goto 6, 3) := by decide +kernel
theorem dL_stateOf_12 : decode cL_stateOf 12 = .ok (.astore_n 3, 1) := by decide +kernel
theorem dL_stateOf_13 : decode cL_stateOf 13 = .ok (.iconst 1, 1) := by decide +kernel
theorem dL_stateOf_14 : decode cL_stateOf 14 = .ok (.ireturn, 1) := by decide +kernel
theorem dL_stateOf_15 : decode cL_stateOf 15 = .ok (.iconst 0, 1) := by decide +kernel
theorem dL_stateOf_16 : decode cL_stateOf 16 = .ok (.ireturn, 1) := by decide +kernel
theorem dL_positionOf_0 : decode cL_positionOf 0 = .ok (.aload_n 2, 1) := by decide +kernel
theorem dL_positionOf_1 : decode cL_positionOf 1 = .ok (.iconst 0, 1) := by decide +kernel
theorem dL_positionOf_2 : decode cL_positionOf 2 = .ok (.aload_n 0, 1) := by decide +kernel
theorem dL_positionOf_3 : decode cL_positionOf 3 = .ok (.iload_n 1, 1) := by decide +kernel
theorem dL_positionOf_4 : decode cL_positionOf 4 = .ok (.invokevirtual 52, 3) := by decide +kernel
theorem dL_positionOf_7 : decode cL_positionOf 7 = .ok (.i2l, 1) := by decide +kernel
theorem dL_positionOf_8 : decode cL_positionOf 8 = .ok (.lastore, 1) := by decide +kernel
theorem dL_positionOf_9 : decode cL_positionOf 9 = .ok (.goto 9, 3) := by decide +kernel
theorem dL_positionOf_12 : decode cL_positionOf 12 = .ok (.astore_n 3, 1) := by decide +kernel
theorem dL_positionOf_13 : decode cL_positionOf 13 = .ok (.iconst 1, 1) := by decide +kernel
theorem dL_positionOf_14 : decode cL_positionOf 14 = .ok (.ireturn, 1) := by decide +kernel
theorem dL_positionOf_15 : decode cL_positionOf 15 = .ok (.astore_n 3, 1) := by decide +kernel
theorem dL_positionOf_16 : decode cL_positionOf 16 = .ok (.iconst 2, 1) := by decide +kernel
theorem dL_positionOf_17 : decode cL_positionOf 17 = .ok (.ireturn, 1) := by decide +kernel
theorem dL_positionOf_18 : decode cL_positionOf 18 = .ok (.iconst 0, 1) := by decide +kernel
theorem dL_positionOf_19 : decode cL_positionOf 19 = .ok (.ireturn, 1) := by decide +kernel
theorem dL_roundsOf_0 : decode cL_roundsOf 0 = .ok (.aload_n 2, 1) := by decide +kernel
theorem dL_roundsOf_1 : decode cL_roundsOf 1 = .ok (.iconst 0, 1) := by decide +kernel
theorem dL_roundsOf_2 : decode cL_roundsOf 2 = .ok (.aload_n 0, 1) := by decide +kernel
theorem dL_roundsOf_3 : decode cL_roundsOf 3 = .ok (.iload_n 1, 1) := by decide +kernel
theorem dL_roundsOf_4 : decode cL_roundsOf 4 = .ok (.invokevirtual 55, 3) := by decide +kernel
theorem dL_roundsOf_7 : decode cL_roundsOf 7 = .ok (.i2l, 1) := by decide +kernel
theorem dL_roundsOf_8 : decode cL_roundsOf 8 = .ok (.lastore, 1) := by decide +kernel
theorem dL_roundsOf_9 : decode cL_roundsOf 9 = .ok (.goto 9, 3) := by decide +kernel
theorem dL_roundsOf_12 : decode cL_roundsOf 12 = .ok (.astore_n 3, 1) := by decide +kernel
theorem dL_roundsOf_13 : decode cL_roundsOf 13 = .ok (.iconst 1, 1) := by decide +kernel
theorem dL_roundsOf_14 : decode cL_roundsOf 14 = .ok (.ireturn, 1) := by decide +kernel
theorem dL_roundsOf_15 : decode cL_roundsOf 15 = .ok (.astore_n 3, 1) := by decide +kernel
theorem dL_roundsOf_16 : decode cL_roundsOf 16 = .ok (.iconst 2, 1) := by decide +kernel
theorem dL_roundsOf_17 : decode cL_roundsOf 17 = .ok (.ireturn, 1) := by decide +kernel
theorem dL_roundsOf_18 : decode cL_roundsOf 18 = .ok (.iconst 0, 1) := by decide +kernel
theorem dL_roundsOf_19 : decode cL_roundsOf 19 = .ok (.ireturn, 1) := by decide +kernel
theorem dL_trayAt_0 : decode cL_trayAt 0 = .ok (.aload_n 2, 1) := by decide +kernel
theorem dL_trayAt_1 : decode cL_trayAt 1 = .ok (.iconst 0, 1) := by decide +kernel
theorem dL_trayAt_2 : decode cL_trayAt 2 = .ok (.aload_n 0, 1) := by decide +kernel
theorem dL_trayAt_3 : decode cL_trayAt 3 = .ok (.iload_n 1, 1) := by decide +kernel
theorem dL_trayAt_4 : decode cL_trayAt 4 = .ok (.invokevirtual 58, 3) := by decide +kernel
theorem dL_trayAt_7 : decode cL_trayAt 7 = .ok (.i2l, 1) := by decide +kernel
theorem dL_trayAt_8 : decode cL_trayAt 8 = .ok (.lastore, 1) := by decide +kernel
theorem dL_trayAt_9 : decode cL_trayAt 9 = .ok (.goto 9, 3) := by decide +kernel
theorem dL_trayAt_12 : decode cL_trayAt 12 = .ok (.astore_n 3, 1) := by decide +kernel
theorem dL_trayAt_13 : decode cL_trayAt 13 = .ok (.iconst 1, 1) := by decide +kernel
theorem dL_trayAt_14 : decode cL_trayAt 14 = .ok (.ireturn, 1) := by decide +kernel
theorem dL_trayAt_15 : decode cL_trayAt 15 = .ok (.astore_n 3, 1) := by decide +kernel
theorem dL_trayAt_16 : decode cL_trayAt 16 = .ok (.iconst 2, 1) := by decide +kernel
theorem dL_trayAt_17 : decode cL_trayAt 17 = .ok (.ireturn, 1) := by decide +kernel
theorem dL_trayAt_18 : decode cL_trayAt 18 = .ok (.iconst 0, 1) := by decide +kernel
theorem dL_trayAt_19 : decode cL_trayAt 19 = .ok (.ireturn, 1) := by decide +kernel
theorem dL_leavingAhead_0 : decode cL_leavingAhead 0 = .ok (.aload_n 2, 1) := by decide +kernel
theorem dL_leavingAhead_1 : decode cL_leavingAhead 1 = .ok (.iconst 0, 1) := by decide +kernel
theorem dL_leavingAhead_2 : decode cL_leavingAhead 2 = .ok (.aload_n 0, 1) := by decide +kernel
theorem dL_leavingAhead_3 : decode cL_leavingAhead 3 = .ok (.iload_n 1, 1) := by decide +kernel
theorem dL_leavingAhead_4 : decode cL_leavingAhead 4 = .ok (.invokevirtual 61, 3) := by decide +kernel
theorem dL_leavingAhead_7 : decode cL_leavingAhead 7 = .ok (.i2l, 1) := by decide +kernel
theorem dL_leavingAhead_8 : decode cL_leavingAhead 8 = .ok (.lastore, 1) := by decide +kernel
theorem dL_leavingAhead_9 : decode cL_leavingAhead 9 = .ok (.goto 6, 3) := by decide +kernel
theorem dL_leavingAhead_12 : decode cL_leavingAhead 12 = .ok (.astore_n 3, 1) := by decide +kernel
theorem dL_leavingAhead_13 : decode cL_leavingAhead 13 = .ok (.iconst 1, 1) := by decide +kernel
theorem dL_leavingAhead_14 : decode cL_leavingAhead 14 = .ok (.ireturn, 1) := by decide +kernel
theorem dL_leavingAhead_15 : decode cL_leavingAhead 15 = .ok (.iconst 0, 1) := by decide +kernel
theorem dL_leavingAhead_16 : decode cL_leavingAhead 16 = .ok (.ireturn, 1) := by decide +kernel
theorem dL_leavingByTrays_0 : decode cL_leavingByTrays 0 = .ok (.aload_n 2, 1) := by decide +kernel
theorem dL_leavingByTrays_1 : decode cL_leavingByTrays 1 = .ok (.iconst 0, 1) := by decide +kernel
theorem dL_leavingByTrays_2 : decode cL_leavingByTrays 2 = .ok (.aload_n 0, 1) := by decide +kernel
theorem dL_leavingByTrays_3 : decode cL_leavingByTrays 3 = .ok (.iload_n 1, 1) := by decide +kernel
theorem dL_leavingByTrays_4 : decode cL_leavingByTrays 4 = .ok (.invokevirtual 64, 3) := by decide +kernel
theorem dL_leavingByTrays_7 : decode cL_leavingByTrays 7 = .ok (.i2l, 1) := by decide +kernel
theorem dL_leavingByTrays_8 : decode cL_leavingByTrays 8 = .ok (.lastore, 1) := by decide +kernel
theorem dL_leavingByTrays_9 : decode cL_leavingByTrays 9 = .ok (.goto 6, 3) := by decide +kernel
theorem dL_leavingByTrays_12 : decode cL_leavingByTrays 12 = .ok (.astore_n 3, 1) := by decide +kernel
theorem dL_leavingByTrays_13 : decode cL_leavingByTrays 13 = .ok (.iconst 1, 1) := by decide +kernel
theorem dL_leavingByTrays_14 : decode cL_leavingByTrays 14 = .ok (.ireturn, 1) := by decide +kernel
theorem dL_leavingByTrays_15 : decode cL_leavingByTrays 15 = .ok (.iconst 0, 1) := by decide +kernel
theorem dL_leavingByTrays_16 : decode cL_leavingByTrays 16 = .ok (.ireturn, 1) := by decide +kernel
theorem dL_startWave_0 : decode cL_startWave 0 = .ok (.aload_n 1, 1) := by decide +kernel
theorem dL_startWave_1 : decode cL_startWave 1 = .ok (.iconst 0, 1) := by decide +kernel
theorem dL_startWave_2 : decode cL_startWave 2 = .ok (.aload_n 0, 1) := by decide +kernel
theorem dL_startWave_3 : decode cL_startWave 3 = .ok (.invokevirtual 67, 3) := by decide +kernel
theorem dL_startWave_6 : decode cL_startWave 6 = .ok (.i2l, 1) := by decide +kernel
theorem dL_startWave_7 : decode cL_startWave 7 = .ok (.lastore, 1) := by decide +kernel
theorem dL_startWave_8 : decode cL_startWave 8 = .ok (.goto 6, 3) := by decide +kernel
theorem dL_startWave_11 : decode cL_startWave 11 = .ok (.astore_n 2, 1) := by decide +kernel
theorem dL_startWave_12 : decode cL_startWave 12 = .ok (.iconst 1, 1) := by decide +kernel
theorem dL_startWave_13 : decode cL_startWave 13 = .ok (.ireturn, 1) := by decide +kernel
theorem dL_startWave_14 : decode cL_startWave 14 = .ok (.iconst 0, 1) := by decide +kernel
theorem dL_startWave_15 : decode cL_startWave 15 = .ok (.ireturn, 1) := by decide +kernel
theorem dL_assign_0 : decode cL_assign 0 = .ok (.aload_n 3, 1) := by decide +kernel
theorem dL_assign_1 : decode cL_assign 1 = .ok (.iconst 0, 1) := by decide +kernel
theorem dL_assign_2 : decode cL_assign 2 = .ok (.aload_n 0, 1) := by decide +kernel
theorem dL_assign_3 : decode cL_assign 3 = .ok (.iload_n 1, 1) := by decide +kernel
theorem dL_assign_4 : decode cL_assign 4 = .ok (.iload_n 2, 1) := by decide +kernel
theorem dL_assign_5 : decode cL_assign 5 = .ok (.invokevirtual 71, 3) := by decide +kernel
theorem dL_assign_8 : decode cL_assign 8 = .ok (.i2l, 1) := by decide +kernel
theorem dL_assign_9 : decode cL_assign 9 = .ok (.lastore, 1) := by decide +kernel
theorem dL_assign_10 : decode cL_assign 10 = .ok (.goto 11, 3) := by decide +kernel
theorem dL_assign_13 : decode cL_assign 13 = .ok (.astore 4, 2) := by decide +kernel
theorem dL_assign_15 : decode cL_assign 15 = .ok (.iconst 1, 1) := by decide +kernel
theorem dL_assign_16 : decode cL_assign 16 = .ok (.ireturn, 1) := by decide +kernel
theorem dL_assign_17 : decode cL_assign 17 = .ok (.astore 4, 2) := by decide +kernel
theorem dL_assign_19 : decode cL_assign 19 = .ok (.iconst 2, 1) := by decide +kernel
theorem dL_assign_20 : decode cL_assign 20 = .ok (.ireturn, 1) := by decide +kernel
theorem dL_assign_21 : decode cL_assign 21 = .ok (.iconst 0, 1) := by decide +kernel
theorem dL_assign_22 : decode cL_assign 22 = .ok (.ireturn, 1) := by decide +kernel
theorem dL_unassign_0 : decode cL_unassign 0 = .ok (.aload_n 2, 1) := by decide +kernel
theorem dL_unassign_1 : decode cL_unassign 1 = .ok (.iconst 0, 1) := by decide +kernel
theorem dL_unassign_2 : decode cL_unassign 2 = .ok (.aload_n 0, 1) := by decide +kernel
theorem dL_unassign_3 : decode cL_unassign 3 = .ok (.iload_n 1, 1) := by decide +kernel
theorem dL_unassign_4 : decode cL_unassign 4 = .ok (.invokevirtual 74, 3) := by decide +kernel
theorem dL_unassign_7 : decode cL_unassign 7 = .ok (.i2l, 1) := by decide +kernel
theorem dL_unassign_8 : decode cL_unassign 8 = .ok (.lastore, 1) := by decide +kernel
theorem dL_unassign_9 : decode cL_unassign 9 = .ok (.goto 9, 3) := by decide +kernel
theorem dL_unassign_12 : decode cL_unassign 12 = .ok (.astore_n 3, 1) := by decide +kernel
theorem dL_unassign_13 : decode cL_unassign 13 = .ok (.iconst 1, 1) := by decide +kernel
theorem dL_unassign_14 : decode cL_unassign 14 = .ok (.ireturn, 1) := by decide +kernel
theorem dL_unassign_15 : decode cL_unassign 15 = .ok (.astore_n 3, 1) := by decide +kernel
theorem dL_unassign_16 : decode cL_unassign 16 = .ok (.iconst 2, 1) := by decide +kernel
theorem dL_unassign_17 : decode cL_unassign 17 = .ok (.ireturn, 1) := by decide +kernel
theorem dL_unassign_18 : decode cL_unassign 18 = .ok (.iconst 0, 1) := by decide +kernel
theorem dL_unassign_19 : decode cL_unassign 19 = .ok (.ireturn, 1) := by decide +kernel
theorem dL_chuteFor_0 : decode cL_chuteFor 0 = .ok (.aload_n 2, 1) := by decide +kernel
theorem dL_chuteFor_1 : decode cL_chuteFor 1 = .ok (.iconst 0, 1) := by decide +kernel
theorem dL_chuteFor_2 : decode cL_chuteFor 2 = .ok (.aload_n 0, 1) := by decide +kernel
theorem dL_chuteFor_3 : decode cL_chuteFor 3 = .ok (.iload_n 1, 1) := by decide +kernel
theorem dL_chuteFor_4 : decode cL_chuteFor 4 = .ok (.invokevirtual 77, 3) := by decide +kernel
theorem dL_chuteFor_7 : decode cL_chuteFor 7 = .ok (.i2l, 1) := by decide +kernel
theorem dL_chuteFor_8 : decode cL_chuteFor 8 = .ok (.lastore, 1) := by decide +kernel
theorem dL_chuteFor_9 : decode cL_chuteFor 9 = .ok (.goto 9, 3) := by decide +kernel
theorem dL_chuteFor_12 : decode cL_chuteFor 12 = .ok (.astore_n 3, 1) := by decide +kernel
theorem dL_chuteFor_13 : decode cL_chuteFor 13 = .ok (.iconst 1, 1) := by decide +kernel
theorem dL_chuteFor_14 : decode cL_chuteFor 14 = .ok (.ireturn, 1) := by decide +kernel
theorem dL_chuteFor_15 : decode cL_chuteFor 15 = .ok (.astore_n 3, 1) := by decide +kernel
theorem dL_chuteFor_16 : decode cL_chuteFor 16 = .ok (.iconst 2, 1) := by decide +kernel
theorem dL_chuteFor_17 : decode cL_chuteFor 17 = .ok (.ireturn, 1) := by decide +kernel
theorem dL_chuteFor_18 : decode cL_chuteFor 18 = .ok (.iconst 0, 1) := by decide +kernel
theorem dL_chuteFor_19 : decode cL_chuteFor 19 = .ok (.ireturn, 1) := by decide +kernel
theorem dL_load_0 : decode cL_load 0 = .ok (.aload_n 2, 1) := by decide +kernel
theorem dL_load_1 : decode cL_load 1 = .ok (.iconst 0, 1) := by decide +kernel
theorem dL_load_2 : decode cL_load 2 = .ok (.aload_n 0, 1) := by decide +kernel
theorem dL_load_3 : decode cL_load 3 = .ok (.iload_n 1, 1) := by decide +kernel
theorem dL_load_4 : decode cL_load 4 = .ok (.invokevirtual 80, 3) := by decide +kernel
theorem dL_load_7 : decode cL_load 7 = .ok (.i2l, 1) := by decide +kernel
theorem dL_load_8 : decode cL_load 8 = .ok (.lastore, 1) := by decide +kernel
theorem dL_load_9 : decode cL_load 9 = .ok (.goto 6, 3) := by decide +kernel
theorem dL_load_12 : decode cL_load 12 = .ok (.astore_n 3, 1) := by decide +kernel
theorem dL_load_13 : decode cL_load 13 = .ok (.iconst 1, 1) := by decide +kernel
theorem dL_load_14 : decode cL_load 14 = .ok (.ireturn, 1) := by decide +kernel
theorem dL_load_15 : decode cL_load 15 = .ok (.iconst 0, 1) := by decide +kernel
theorem dL_load_16 : decode cL_load 16 = .ok (.ireturn, 1) := by decide +kernel
theorem dL_inChute_0 : decode cL_inChute 0 = .ok (.aload_n 2, 1) := by decide +kernel
theorem dL_inChute_1 : decode cL_inChute 1 = .ok (.iconst 0, 1) := by decide +kernel
theorem dL_inChute_2 : decode cL_inChute 2 = .ok (.aload_n 0, 1) := by decide +kernel
theorem dL_inChute_3 : decode cL_inChute 3 = .ok (.iload_n 1, 1) := by decide +kernel
theorem dL_inChute_4 : decode cL_inChute 4 = .ok (.invokevirtual 83, 3) := by decide +kernel
theorem dL_inChute_7 : decode cL_inChute 7 = .ok (.i2l, 1) := by decide +kernel
theorem dL_inChute_8 : decode cL_inChute 8 = .ok (.lastore, 1) := by decide +kernel
theorem dL_inChute_9 : decode cL_inChute 9 = .ok (.goto 6, 3) := by decide +kernel
theorem dL_inChute_12 : decode cL_inChute 12 = .ok (.astore_n 3, 1) := by decide +kernel
theorem dL_inChute_13 : decode cL_inChute 13 = .ok (.iconst 1, 1) := by decide +kernel
theorem dL_inChute_14 : decode cL_inChute 14 = .ok (.ireturn, 1) := by decide +kernel
theorem dL_inChute_15 : decode cL_inChute 15 = .ok (.iconst 0, 1) := by decide +kernel
theorem dL_inChute_16 : decode cL_inChute 16 = .ok (.ireturn, 1) := by decide +kernel
theorem dL_seal_0 : decode cL_seal 0 = .ok (.aload_n 2, 1) := by decide +kernel
theorem dL_seal_1 : decode cL_seal 1 = .ok (.iconst 0, 1) := by decide +kernel
theorem dL_seal_2 : decode cL_seal 2 = .ok (.aload_n 0, 1) := by decide +kernel
theorem dL_seal_3 : decode cL_seal 3 = .ok (.iload_n 1, 1) := by decide +kernel
theorem dL_seal_4 : decode cL_seal 4 = .ok (.invokevirtual 86, 3) := by decide +kernel
theorem dL_seal_7 : decode cL_seal 7 = .ok (.i2l, 1) := by decide +kernel
theorem dL_seal_8 : decode cL_seal 8 = .ok (.lastore, 1) := by decide +kernel
theorem dL_seal_9 : decode cL_seal 9 = .ok (.goto 6, 3) := by decide +kernel
theorem dL_seal_12 : decode cL_seal 12 = .ok (.astore_n 3, 1) := by decide +kernel
theorem dL_seal_13 : decode cL_seal 13 = .ok (.iconst 1, 1) := by decide +kernel
theorem dL_seal_14 : decode cL_seal 14 = .ok (.ireturn, 1) := by decide +kernel
theorem dL_seal_15 : decode cL_seal 15 = .ok (.iconst 0, 1) := by decide +kernel
theorem dL_seal_16 : decode cL_seal 16 = .ok (.ireturn, 1) := by decide +kernel
theorem dL_sealByParcels_0 : decode cL_sealByParcels 0 = .ok (.aload_n 2, 1) := by decide +kernel
theorem dL_sealByParcels_1 : decode cL_sealByParcels 1 = .ok (.iconst 0, 1) := by decide +kernel
theorem dL_sealByParcels_2 : decode cL_sealByParcels 2 = .ok (.aload_n 0, 1) := by decide +kernel
theorem dL_sealByParcels_3 : decode cL_sealByParcels 3 = .ok (.iload_n 1, 1) := by decide +kernel
theorem dL_sealByParcels_4 : decode cL_sealByParcels 4 = .ok (.invokevirtual 89, 3) := by decide +kernel
theorem dL_sealByParcels_7 : decode cL_sealByParcels 7 = .ok (.i2l, 1) := by decide +kernel
theorem dL_sealByParcels_8 : decode cL_sealByParcels 8 = .ok (.lastore, 1) := by decide +kernel
theorem dL_sealByParcels_9 : decode cL_sealByParcels 9 = .ok (.goto 6, 3) := by decide +kernel
theorem dL_sealByParcels_12 : decode cL_sealByParcels 12 = .ok (.astore_n 3, 1) := by decide +kernel
theorem dL_sealByParcels_13 : decode cL_sealByParcels 13 = .ok (.iconst 1, 1) := by decide +kernel
theorem dL_sealByParcels_14 : decode cL_sealByParcels 14 = .ok (.ireturn, 1) := by decide +kernel
theorem dL_sealByParcels_15 : decode cL_sealByParcels 15 = .ok (.iconst 0, 1) := by decide +kernel
theorem dL_sealByParcels_16 : decode cL_sealByParcels 16 = .ok (.ireturn, 1) := by decide +kernel
theorem dL_dispatch_0 : decode cL_dispatch 0 = .ok (.aload_n 2, 1) := by decide +kernel
theorem dL_dispatch_1 : decode cL_dispatch 1 = .ok (.iconst 0, 1) := by decide +kernel
theorem dL_dispatch_2 : decode cL_dispatch 2 = .ok (.aload_n 0, 1) := by decide +kernel
theorem dL_dispatch_3 : decode cL_dispatch 3 = .ok (.iload_n 1, 1) := by decide +kernel
theorem dL_dispatch_4 : decode cL_dispatch 4 = .ok (.invokevirtual 92, 3) := by decide +kernel
theorem dL_dispatch_7 : decode cL_dispatch 7 = .ok (.i2l, 1) := by decide +kernel
theorem dL_dispatch_8 : decode cL_dispatch 8 = .ok (.lastore, 1) := by decide +kernel
theorem dL_dispatch_9 : decode cL_dispatch 9 = .ok (.goto 9, 3) := by decide +kernel
theorem dL_dispatch_12 : decode cL_dispatch 12 = .ok (.astore_n 3, 1) := by decide +kernel
theorem dL_dispatch_13 : decode cL_dispatch 13 = .ok (.iconst 1, 1) := by decide +kernel
theorem dL_dispatch_14 : decode cL_dispatch 14 = .ok (.ireturn, 1) := by decide +kernel
theorem dL_dispatch_15 : decode cL_dispatch 15 = .ok (.astore_n 3, 1) := by decide +kernel
theorem dL_dispatch_16 : decode cL_dispatch 16 = .ok (.iconst 2, 1) := by decide +kernel
theorem dL_dispatch_17 : decode cL_dispatch 17 = .ok (.ireturn, 1) := by decide +kernel
theorem dL_dispatch_18 : decode cL_dispatch 18 = .ok (.iconst 0, 1) := by decide +kernel
theorem dL_dispatch_19 : decode cL_dispatch 19 = .ok (.ireturn, 1) := by decide +kernel
theorem dL_sealOfTruck_0 : decode cL_sealOfTruck 0 = .ok (.aload_n 2, 1) := by decide +kernel
theorem dL_sealOfTruck_1 : decode cL_sealOfTruck 1 = .ok (.iconst 0, 1) := by decide +kernel
theorem dL_sealOfTruck_2 : decode cL_sealOfTruck 2 = .ok (.aload_n 0, 1) := by decide +kernel
theorem dL_sealOfTruck_3 : decode cL_sealOfTruck 3 = .ok (.iload_n 1, 1) := by decide +kernel
theorem dL_sealOfTruck_4 : decode cL_sealOfTruck 4 = .ok (.invokevirtual 95, 3) := by decide +kernel
theorem dL_sealOfTruck_7 : decode cL_sealOfTruck 7 = .ok (.i2l, 1) := by decide +kernel
theorem dL_sealOfTruck_8 : decode cL_sealOfTruck 8 = .ok (.lastore, 1) := by decide +kernel
theorem dL_sealOfTruck_9 : decode cL_sealOfTruck 9 = .ok (.goto 6, 3) := by decide +kernel
theorem dL_sealOfTruck_12 : decode cL_sealOfTruck 12 = .ok (.astore_n 3, 1) := by decide +kernel
theorem dL_sealOfTruck_13 : decode cL_sealOfTruck 13 = .ok (.iconst 1, 1) := by decide +kernel
theorem dL_sealOfTruck_14 : decode cL_sealOfTruck 14 = .ok (.ireturn, 1) := by decide +kernel
theorem dL_sealOfTruck_15 : decode cL_sealOfTruck 15 = .ok (.iconst 0, 1) := by decide +kernel
theorem dL_sealOfTruck_16 : decode cL_sealOfTruck 16 = .ok (.ireturn, 1) := by decide +kernel
theorem dL_parcelIn_0 : decode cL_parcelIn 0 = .ok (.aload_n 3, 1) := by decide +kernel
theorem dL_parcelIn_1 : decode cL_parcelIn 1 = .ok (.iconst 0, 1) := by decide +kernel
theorem dL_parcelIn_2 : decode cL_parcelIn 2 = .ok (.aload_n 0, 1) := by decide +kernel
theorem dL_parcelIn_3 : decode cL_parcelIn 3 = .ok (.iload_n 1, 1) := by decide +kernel
theorem dL_parcelIn_4 : decode cL_parcelIn 4 = .ok (.iload_n 2, 1) := by decide +kernel
theorem dL_parcelIn_5 : decode cL_parcelIn 5 = .ok (.invokevirtual 98, 3) := by decide +kernel
theorem dL_parcelIn_8 : decode cL_parcelIn 8 = .ok (.i2l, 1) := by decide +kernel
theorem dL_parcelIn_9 : decode cL_parcelIn 9 = .ok (.lastore, 1) := by decide +kernel
theorem dL_parcelIn_10 : decode cL_parcelIn 10 = .ok (.goto 11, 3) := by decide +kernel
theorem dL_parcelIn_13 : decode cL_parcelIn 13 = .ok (.astore 4, 2) := by decide +kernel
theorem dL_parcelIn_15 : decode cL_parcelIn 15 = .ok (.iconst 1, 1) := by decide +kernel
theorem dL_parcelIn_16 : decode cL_parcelIn 16 = .ok (.ireturn, 1) := by decide +kernel
theorem dL_parcelIn_17 : decode cL_parcelIn 17 = .ok (.astore 4, 2) := by decide +kernel
theorem dL_parcelIn_19 : decode cL_parcelIn 19 = .ok (.iconst 2, 1) := by decide +kernel
theorem dL_parcelIn_20 : decode cL_parcelIn 20 = .ok (.ireturn, 1) := by decide +kernel
theorem dL_parcelIn_21 : decode cL_parcelIn 21 = .ok (.iconst 0, 1) := by decide +kernel
theorem dL_parcelIn_22 : decode cL_parcelIn 22 = .ok (.ireturn, 1) := by decide +kernel
theorem dL_truckOf_0 : decode cL_truckOf 0 = .ok (.aload_n 2, 1) := by decide +kernel
theorem dL_truckOf_1 : decode cL_truckOf 1 = .ok (.iconst 0, 1) := by decide +kernel
theorem dL_truckOf_2 : decode cL_truckOf 2 = .ok (.aload_n 0, 1) := by decide +kernel
theorem dL_truckOf_3 : decode cL_truckOf 3 = .ok (.iload_n 1, 1) := by decide +kernel
theorem dL_truckOf_4 : decode cL_truckOf 4 = .ok (.invokevirtual 101, 3) := by decide +kernel
theorem dL_truckOf_7 : decode cL_truckOf 7 = .ok (.i2l, 1) := by decide +kernel
theorem dL_truckOf_8 : decode cL_truckOf 8 = .ok (.lastore, 1) := by decide +kernel
theorem dL_truckOf_9 : decode cL_truckOf 9 = .ok (.goto 9, 3) := by decide +kernel
theorem dL_truckOf_12 : decode cL_truckOf 12 = .ok (.astore_n 3, 1) := by decide +kernel
theorem dL_truckOf_13 : decode cL_truckOf 13 = .ok (.iconst 1, 1) := by decide +kernel
theorem dL_truckOf_14 : decode cL_truckOf 14 = .ok (.ireturn, 1) := by decide +kernel
theorem dL_truckOf_15 : decode cL_truckOf 15 = .ok (.astore_n 3, 1) := by decide +kernel
theorem dL_truckOf_16 : decode cL_truckOf 16 = .ok (.iconst 2, 1) := by decide +kernel
theorem dL_truckOf_17 : decode cL_truckOf 17 = .ok (.ireturn, 1) := by decide +kernel
theorem dL_truckOf_18 : decode cL_truckOf 18 = .ok (.iconst 0, 1) := by decide +kernel
theorem dL_truckOf_19 : decode cL_truckOf 19 = .ok (.ireturn, 1) := by decide +kernel
theorem dL_meanRounds_0 : decode cL_meanRounds 0 = .ok (.aload_n 1, 1) := by decide +kernel
theorem dL_meanRounds_1 : decode cL_meanRounds 1 = .ok (.iconst 0, 1) := by decide +kernel
theorem dL_meanRounds_2 : decode cL_meanRounds 2 = .ok (.aload_n 0, 1) := by decide +kernel
theorem dL_meanRounds_3 : decode cL_meanRounds 3 = .ok (.invokevirtual 104, 3) := by decide +kernel
theorem dL_meanRounds_6 : decode cL_meanRounds 6 = .ok (.dastore, 1) := by decide +kernel
theorem dL_meanRounds_7 : decode cL_meanRounds 7 = .ok (.goto 6, 3) := by decide +kernel
theorem dL_meanRounds_10 : decode cL_meanRounds 10 = .ok (.astore_n 2, 1) := by decide +kernel
theorem dL_meanRounds_11 : decode cL_meanRounds 11 = .ok (.iconst 1, 1) := by decide +kernel
theorem dL_meanRounds_12 : decode cL_meanRounds 12 = .ok (.ireturn, 1) := by decide +kernel
theorem dL_meanRounds_13 : decode cL_meanRounds 13 = .ok (.iconst 0, 1) := by decide +kernel
theorem dL_meanRounds_14 : decode cL_meanRounds 14 = .ok (.ireturn, 1) := by decide +kernel
theorem dL_overflowShare_0 : decode cL_overflowShare 0 = .ok (.aload_n 1, 1) := by decide +kernel
theorem dL_overflowShare_1 : decode cL_overflowShare 1 = .ok (.iconst 0, 1) := by decide +kernel
theorem dL_overflowShare_2 : decode cL_overflowShare 2 = .ok (.aload_n 0, 1) := by decide +kernel
theorem dL_overflowShare_3 : decode cL_overflowShare 3 = .ok (.invokevirtual 110, 3) := by decide +kernel
theorem dL_overflowShare_6 : decode cL_overflowShare 6 = .ok (.f2d, 1) := by decide +kernel
theorem dL_overflowShare_7 : decode cL_overflowShare 7 = .ok (.dastore, 1) := by decide +kernel
theorem dL_overflowShare_8 : decode cL_overflowShare 8 = .ok (.goto 6, 3) := by decide +kernel
theorem dL_overflowShare_11 : decode cL_overflowShare 11 = .ok (.astore_n 2, 1) := by decide +kernel
theorem dL_overflowShare_12 : decode cL_overflowShare 12 = .ok (.iconst 1, 1) := by decide +kernel
theorem dL_overflowShare_13 : decode cL_overflowShare 13 = .ok (.ireturn, 1) := by decide +kernel
theorem dL_overflowShare_14 : decode cL_overflowShare 14 = .ok (.iconst 0, 1) := by decide +kernel
theorem dL_overflowShare_15 : decode cL_overflowShare 15 = .ok (.ireturn, 1) := by decide +kernel
theorem dL_law_0 : decode cL_law 0 = .ok (.new 8, 3) := by decide +kernel
theorem dL_law_3 : decode cL_law 3 = .ok (.dup, 1) := by decide +kernel
theorem dL_law_4 : decode cL_law 4 = .ok (.invokespecial 114, 3) := by decide +kernel
theorem dL_law_7 : decode cL_law 7 = .ok (.astore_n 1, 1) := by decide +kernel
theorem dL_law_8 : decode cL_law 8 = .ok (.new 115, 3) := by decide +kernel
theorem dL_law_11 : decode cL_law 11 = .ok (.dup, 1) := by decide +kernel
theorem dL_law_12 : decode cL_law 12 = .ok (.invokespecial 117, 3) := by decide +kernel
theorem dL_law_15 : decode cL_law 15 = .ok (.astore_n 2, 1) := by decide +kernel
theorem dL_law_16 : decode cL_law 16 = .ok (.iconst 1, 1) := by decide +kernel
theorem dL_law_17 : decode cL_law 17 = .ok (.newarray .long, 2) := by decide +kernel
theorem dL_law_19 : decode cL_law 19 = .ok (.astore_n 3, 1) := by decide +kernel
theorem dL_law_20 : decode cL_law 20 = .ok (.iconst 1, 1) := by decide +kernel
theorem dL_law_21 : decode cL_law 21 = .ok (.newarray .double, 2) := by decide +kernel
theorem dL_law_23 : decode cL_law 23 = .ok (.astore 4, 2) := by decide +kernel
theorem dL_law_25 : decode cL_law 25 = .ok (.iconst 0, 1) := by decide +kernel
theorem dL_law_26 : decode cL_law 26 = .ok (.istore 5, 2) := by decide +kernel
theorem dL_law_28 : decode cL_law 28 = .ok (.iload 5, 2) := by decide +kernel
theorem dL_law_30 : decode cL_law 30 = .ok (.aload_n 0, 1) := by decide +kernel
theorem dL_law_31 : decode cL_law 31 = .ok (.arraylength, 1) := by decide +kernel
theorem dL_law_32 : decode cL_law 32 = .ok (.iconst 3, 1) := by decide +kernel
theorem dL_law_33 : decode cL_law 33 = .ok (.isub, 1) := by decide +kernel
theorem dL_law_34 : decode cL_law 34 = .ok (.if_icmp .gt 1960, 3) := by decide +kernel
theorem dL_law_37 : decode cL_law 37 = .ok (.aload_n 0, 1) := by decide +kernel
theorem dL_law_38 : decode cL_law 38 = .ok (.iload 5, 2) := by decide +kernel
theorem dL_law_40 : decode cL_law 40 = .ok (.iaload, 1) := by decide +kernel
theorem dL_law_41 : decode cL_law 41 = .ok (.bipush 63, 2) := by decide +kernel
theorem dL_law_43 : decode cL_law 43 = .ok (.iand, 1) := by decide +kernel
theorem dL_law_44 : decode cL_law 44 = .ok (.tableswitch 1944 0 35 #[160, 216, 284, 352, 408, 464, 520, 576, 644, 700, 714, 770, 826, 882, 938, 951, 964, 977, 1033, 1089, 1133, 1201, 1257, 1313, 1369, 1425, 1481, 1537, 1593, 1606, 1662, 1730, 1786, 1800, 1865, 1931], 160) := by decide +kernel
theorem dL_law_204 : decode cL_law 204 = .ok (.aload_n 1, 1) := by decide +kernel
theorem dL_law_205 : decode cL_law 205 = .ok (.aload_n 0, 1) := by decide +kernel
theorem dL_law_206 : decode cL_law 206 = .ok (.iload 5, 2) := by decide +kernel
theorem dL_law_208 : decode cL_law 208 = .ok (.iconst 1, 1) := by decide +kernel
theorem dL_law_209 : decode cL_law 209 = .ok (.iadd, 1) := by decide +kernel
theorem dL_law_210 : decode cL_law 210 = .ok (.iaload, 1) := by decide +kernel
theorem dL_law_211 : decode cL_law 211 = .ok (.aload_n 3, 1) := by decide +kernel
theorem dL_law_212 : decode cL_law 212 = .ok (.invokestatic 118, 3) := by decide +kernel
theorem dL_law_215 : decode cL_law 215 = .ok (.istore 6, 2) := by decide +kernel
theorem dL_law_217 : decode cL_law 217 = .ok (.aload_n 2, 1) := by decide +kernel
theorem dL_law_218 : decode cL_law 218 = .ok (.aload_n 0, 1) := by decide +kernel
theorem dL_law_219 : decode cL_law 219 = .ok (.iload 5, 2) := by decide +kernel
theorem dL_law_221 : decode cL_law 221 = .ok (.iconst 1, 1) := by decide +kernel
theorem dL_law_222 : decode cL_law 222 = .ok (.iadd, 1) := by decide +kernel
theorem dL_law_223 : decode cL_law 223 = .ok (.iaload, 1) := by decide +kernel
theorem dL_law_224 : decode cL_law 224 = .ok (.invokevirtual 123, 3) := by decide +kernel
theorem dL_law_227 : decode cL_law 227 = .ok (.istore 7, 2) := by decide +kernel
theorem dL_law_229 : decode cL_law 229 = .ok (.aload_n 2, 1) := by decide +kernel
theorem dL_law_230 : decode cL_law 230 = .ok (.invokevirtual 124, 3) := by decide +kernel
theorem dL_law_233 : decode cL_law 233 = .ok (.iload 6, 2) := by decide +kernel
theorem dL_law_235 : decode cL_law 235 = .ok (.if_icmp .eq 5, 3) := by decide +kernel
theorem dL_law_238 : decode cL_law 238 = .ok (.iconst 0, 1) := by decide +kernel
theorem dL_law_239 : decode cL_law 239 = .ok (.ireturn, 1) := by decide +kernel
theorem dL_law_240 : decode cL_law 240 = .ok (.iload 6, 2) := by decide +kernel
theorem dL_law_242 : decode cL_law 242 = .ok (.ifCond .ne 15, 3) := by decide +kernel
theorem dL_law_245 : decode cL_law 245 = .ok (.aload_n 3, 1) := by decide +kernel
theorem dL_law_246 : decode cL_law 246 = .ok (.iconst 0, 1) := by decide +kernel
theorem dL_law_247 : decode cL_law 247 = .ok (.laload, 1) := by decide +kernel
theorem dL_law_248 : decode cL_law 248 = .ok (.iload 7, 2) := by decide +kernel
theorem dL_law_250 : decode cL_law 250 = .ok (.i2l, 1) := by decide +kernel
theorem dL_law_251 : decode cL_law 251 = .ok (.lcmp, 1) := by decide +kernel
theorem dL_law_252 : decode cL_law 252 = .ok (.ifCond .eq 5, 3) := by decide +kernel
theorem dL_law_255 : decode cL_law 255 = .ok (.iconst 0, 1) := by decide +kernel
theorem dL_law_256 : decode cL_law 256 = .ok (.ireturn, 1) := by decide +kernel
theorem dL_law_257 : decode cL_law 257 = .ok (.goto 1731, 3) := by decide +kernel
theorem dL_law_260 : decode cL_law 260 = .ok (.aload_n 1, 1) := by decide +kernel
theorem dL_law_261 : decode cL_law 261 = .ok (.aload_n 0, 1) := by decide +kernel
theorem dL_law_262 : decode cL_law 262 = .ok (.iload 5, 2) := by decide +kernel
theorem dL_law_264 : decode cL_law 264 = .ok (.iconst 1, 1) := by decide +kernel
theorem dL_law_265 : decode cL_law 265 = .ok (.iadd, 1) := by decide +kernel
theorem dL_law_266 : decode cL_law 266 = .ok (.iaload, 1) := by decide +kernel
theorem dL_law_267 : decode cL_law 267 = .ok (.aload_n 0, 1) := by decide +kernel
theorem dL_law_268 : decode cL_law 268 = .ok (.iload 5, 2) := by decide +kernel
theorem dL_law_270 : decode cL_law 270 = .ok (.iconst 2, 1) := by decide +kernel
theorem dL_law_271 : decode cL_law 271 = .ok (.iadd, 1) := by decide +kernel
theorem dL_law_272 : decode cL_law 272 = .ok (.iaload, 1) := by decide +kernel
theorem dL_law_273 : decode cL_law 273 = .ok (.aload_n 3, 1) := by decide +kernel
theorem dL_law_274 : decode cL_law 274 = .ok (.invokestatic 127, 3) := by decide +kernel
theorem dL_law_277 : decode cL_law 277 = .ok (.istore 6, 2) := by decide +kernel
theorem dL_law_279 : decode cL_law 279 = .ok (.aload_n 2, 1) := by decide +kernel
theorem dL_law_280 : decode cL_law 280 = .ok (.aload_n 0, 1) := by decide +kernel
theorem dL_law_281 : decode cL_law 281 = .ok (.iload 5, 2) := by decide +kernel
theorem dL_law_283 : decode cL_law 283 = .ok (.iconst 1, 1) := by decide +kernel
theorem dL_law_284 : decode cL_law 284 = .ok (.iadd, 1) := by decide +kernel
theorem dL_law_285 : decode cL_law 285 = .ok (.iaload, 1) := by decide +kernel
theorem dL_law_286 : decode cL_law 286 = .ok (.aload_n 0, 1) := by decide +kernel
theorem dL_law_287 : decode cL_law 287 = .ok (.iload 5, 2) := by decide +kernel
theorem dL_law_289 : decode cL_law 289 = .ok (.iconst 2, 1) := by decide +kernel
theorem dL_law_290 : decode cL_law 290 = .ok (.iadd, 1) := by decide +kernel
theorem dL_law_291 : decode cL_law 291 = .ok (.iaload, 1) := by decide +kernel
theorem dL_law_292 : decode cL_law 292 = .ok (.invokevirtual 130, 3) := by decide +kernel
theorem dL_law_295 : decode cL_law 295 = .ok (.istore 7, 2) := by decide +kernel
theorem dL_law_297 : decode cL_law 297 = .ok (.aload_n 2, 1) := by decide +kernel
theorem dL_law_298 : decode cL_law 298 = .ok (.invokevirtual 124, 3) := by decide +kernel
theorem dL_law_301 : decode cL_law 301 = .ok (.iload 6, 2) := by decide +kernel
theorem dL_law_303 : decode cL_law 303 = .ok (.if_icmp .eq 5, 3) := by decide +kernel
theorem dL_law_306 : decode cL_law 306 = .ok (.iconst 0, 1) := by decide +kernel
theorem dL_law_307 : decode cL_law 307 = .ok (.ireturn, 1) := by decide +kernel
theorem dL_law_308 : decode cL_law 308 = .ok (.iload 6, 2) := by decide +kernel
theorem dL_law_310 : decode cL_law 310 = .ok (.ifCond .ne 15, 3) := by decide +kernel
theorem dL_law_313 : decode cL_law 313 = .ok (.aload_n 3, 1) := by decide +kernel
theorem dL_law_314 : decode cL_law 314 = .ok (.iconst 0, 1) := by decide +kernel
theorem dL_law_315 : decode cL_law 315 = .ok (.laload, 1) := by decide +kernel
theorem dL_law_316 : decode cL_law 316 = .ok (.iload 7, 2) := by decide +kernel
theorem dL_law_318 : decode cL_law 318 = .ok (.i2l, 1) := by decide +kernel
theorem dL_law_319 : decode cL_law 319 = .ok (.lcmp, 1) := by decide +kernel
theorem dL_law_320 : decode cL_law 320 = .ok (.ifCond .eq 5, 3) := by decide +kernel
theorem dL_law_323 : decode cL_law 323 = .ok (.iconst 0, 1) := by decide +kernel
theorem dL_law_324 : decode cL_law 324 = .ok (.ireturn, 1) := by decide +kernel
theorem dL_law_325 : decode cL_law 325 = .ok (.goto 1663, 3) := by decide +kernel
theorem dL_law_328 : decode cL_law 328 = .ok (.aload_n 1, 1) := by decide +kernel
theorem dL_law_329 : decode cL_law 329 = .ok (.aload_n 0, 1) := by decide +kernel
theorem dL_law_330 : decode cL_law 330 = .ok (.iload 5, 2) := by decide +kernel
theorem dL_law_332 : decode cL_law 332 = .ok (.iconst 1, 1) := by decide +kernel
theorem dL_law_333 : decode cL_law 333 = .ok (.iadd, 1) := by decide +kernel
theorem dL_law_334 : decode cL_law 334 = .ok (.iaload, 1) := by decide +kernel
theorem dL_law_335 : decode cL_law 335 = .ok (.aload_n 0, 1) := by decide +kernel
theorem dL_law_336 : decode cL_law 336 = .ok (.iload 5, 2) := by decide +kernel
