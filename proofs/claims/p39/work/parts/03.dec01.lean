theorem dX6_setJammed_31 : decode cX6_setJammed 31 = .ok (.goto 12, 3) := by decide +kernel
theorem dX6_setJammed_34 : decode cX6_setJammed 34 = .ok (.aload_n 3, 1) := by decide +kernel
theorem dX6_setJammed_35 : decode cX6_setJammed 35 = .ok (.ifnull 8, 3) := by decide +kernel
theorem dX6_setJammed_38 : decode cX6_setJammed 38 = .ok (.aload_n 3, 1) := by decide +kernel
theorem dX6_setJammed_39 : decode cX6_setJammed 39 = .ok (.iload_n 2, 1) := by decide +kernel
theorem dX6_setJammed_40 : decode cX6_setJammed 40 = .ok (.putfield 55, 3) := by decide +kernel
theorem dX6_setJammed_43 : decode cX6_setJammed 43 = .ok (.return_, 1) := by decide +kernel
theorem dX6_jams_0 : decode cX6_jams 0 = .ok (.aload_n 0, 1) := by decide +kernel
theorem dX6_jams_1 : decode cX6_jams 1 = .ok (.getfield 48, 3) := by decide +kernel
theorem dX6_jams_4 : decode cX6_jams 4 = .ok (.ifCond .eq 7, 3) := by decide +kernel
theorem dX6_jams_7 : decode cX6_jams 7 = .ok (.iconst 1, 1) := by decide +kernel
theorem dX6_jams_8 : decode cX6_jams 8 = .ok (.goto 4, 3) := by decide +kernel
theorem dX6_jams_11 : decode cX6_jams 11 = .ok (.iconst 0, 1) := by decide +kernel
theorem dX6_jams_12 : decode cX6_jams 12 = .ok (.aload_n 0, 1) := by decide +kernel
theorem dX6_jams_13 : decode cX6_jams 13 = .ok (.getfield 52, 3) := by decide +kernel
theorem dX6_jams_16 : decode cX6_jams 16 = .ok (.ifCond .eq 7, 3) := by decide +kernel
theorem dX6_jams_19 : decode cX6_jams 19 = .ok (.iconst 1, 1) := by decide +kernel
theorem dX6_jams_20 : decode cX6_jams 20 = .ok (.goto 4, 3) := by decide +kernel
theorem dX6_jams_23 : decode cX6_jams 23 = .ok (.iconst 0, 1) := by decide +kernel
theorem dX6_jams_24 : decode cX6_jams 24 = .ok (.iadd, 1) := by decide +kernel
theorem dX6_jams_25 : decode cX6_jams 25 = .ok (.istore_n 1, 1) := by decide +kernel
theorem dX6_jams_26 : decode cX6_jams 26 = .ok (.iconst 0, 1) := by decide +kernel
theorem dX6_jams_27 : decode cX6_jams 27 = .ok (.istore_n 2, 1) := by decide +kernel
theorem dX6_jams_28 : decode cX6_jams 28 = .ok (.iload_n 2, 1) := by decide +kernel
theorem dX6_jams_29 : decode cX6_jams 29 = .ok (.aload_n 0, 1) := by decide +kernel
theorem dX6_jams_30 : decode cX6_jams 30 = .ok (.getfield 28, 3) := by decide +kernel
theorem dX6_jams_33 : decode cX6_jams 33 = .ok (.if_icmp .ge 29, 3) := by decide +kernel
theorem dX6_jams_36 : decode cX6_jams 36 = .ok (.aload_n 0, 1) := by decide +kernel
theorem dX6_jams_37 : decode cX6_jams 37 = .ok (.iload_n 2, 1) := by decide +kernel
theorem dX6_jams_38 : decode cX6_jams 38 = .ok (.invokevirtual 34, 3) := by decide +kernel
theorem dX6_jams_41 : decode cX6_jams 41 = .ok (.astore_n 3, 1) := by decide +kernel
theorem dX6_jams_42 : decode cX6_jams 42 = .ok (.aload_n 3, 1) := by decide +kernel
theorem dX6_jams_43 : decode cX6_jams 43 = .ok (.ifnull 13, 3) := by decide +kernel
theorem dX6_jams_46 : decode cX6_jams 46 = .ok (.aload_n 3, 1) := by decide +kernel
theorem dX6_jams_47 : decode cX6_jams 47 = .ok (.getfield 55, 3) := by decide +kernel
theorem dX6_jams_50 : decode cX6_jams 50 = .ok (.ifCond .eq 6, 3) := by decide +kernel
theorem dX6_jams_53 : decode cX6_jams 53 = .ok (.iinc 1 1, 3) := by decide +kernel
theorem dX6_jams_56 : decode cX6_jams 56 = .ok (.iinc 2 1, 3) := by decide +kernel
theorem dX6_jams_59 : decode cX6_jams 59 = .ok (.goto (-31), 3) := by decide +kernel
theorem dX6_jams_62 : decode cX6_jams 62 = .ok (.iload_n 1, 1) := by decide +kernel
theorem dX6_jams_63 : decode cX6_jams 63 = .ok (.ireturn, 1) := by decide +kernel
theorem dX6_chuteOfRoute_0 : decode cX6_chuteOfRoute 0 = .ok (.iload_n 1, 1) := by decide +kernel
theorem dX6_chuteOfRoute_1 : decode cX6_chuteOfRoute 1 = .ok (.invokestatic 58, 3) := by decide +kernel
theorem dX6_chuteOfRoute_4 : decode cX6_chuteOfRoute 4 = .ok (.ifCond .eq 12, 3) := by decide +kernel
theorem dX6_chuteOfRoute_7 : decode cX6_chuteOfRoute 7 = .ok (.aload_n 0, 1) := by decide +kernel
theorem dX6_chuteOfRoute_8 : decode cX6_chuteOfRoute 8 = .ok (.getfield 17, 3) := by decide +kernel
theorem dX6_chuteOfRoute_11 : decode cX6_chuteOfRoute 11 = .ok (.iload_n 1, 1) := by decide +kernel
theorem dX6_chuteOfRoute_12 : decode cX6_chuteOfRoute 12 = .ok (.iaload, 1) := by decide +kernel
theorem dX6_chuteOfRoute_13 : decode cX6_chuteOfRoute 13 = .ok (.goto 4, 3) := by decide +kernel
theorem dX6_chuteOfRoute_16 : decode cX6_chuteOfRoute 16 = .ok (.iconst (-1), 1) := by decide +kernel
theorem dX6_chuteOfRoute_17 : decode cX6_chuteOfRoute 17 = .ok (.ireturn, 1) := by decide +kernel
theorem dX6_send_0 : decode cX6_send 0 = .ok (.iload_n 1, 1) := by decide +kernel
theorem dX6_send_1 : decode cX6_send 1 = .ok (.invokestatic 58, 3) := by decide +kernel
theorem dX6_send_4 : decode cX6_send 4 = .ok (.ifCond .eq 10, 3) := by decide +kernel
theorem dX6_send_7 : decode cX6_send 7 = .ok (.aload_n 0, 1) := by decide +kernel
theorem dX6_send_8 : decode cX6_send 8 = .ok (.getfield 17, 3) := by decide +kernel
theorem dX6_send_11 : decode cX6_send 11 = .ok (.iload_n 1, 1) := by decide +kernel
theorem dX6_send_12 : decode cX6_send 12 = .ok (.iload_n 2, 1) := by decide +kernel
theorem dX6_send_13 : decode cX6_send 13 = .ok (.iastore, 1) := by decide +kernel
theorem dX6_send_14 : decode cX6_send 14 = .ok (.return_, 1) := by decide +kernel
theorem dX6_loaderPuts_0 : decode cX6_loaderPuts 0 = .ok (.aload_n 0, 1) := by decide +kernel
theorem dX6_loaderPuts_1 : decode cX6_loaderPuts 1 = .ok (.getfield 48, 3) := by decide +kernel
theorem dX6_loaderPuts_4 : decode cX6_loaderPuts 4 = .ok (.ifCond .ne 17, 3) := by decide +kernel
theorem dX6_loaderPuts_7 : decode cX6_loaderPuts 7 = .ok (.iload_n 1, 1) := by decide +kernel
theorem dX6_loaderPuts_8 : decode cX6_loaderPuts 8 = .ok (.iconst (-1), 1) := by decide +kernel
theorem dX6_loaderPuts_9 : decode cX6_loaderPuts 9 = .ok (.if_icmp .ne 12, 3) := by decide +kernel
theorem dX6_loaderPuts_12 : decode cX6_loaderPuts 12 = .ok (.iload_n 2, 1) := by decide +kernel
theorem dX6_loaderPuts_13 : decode cX6_loaderPuts 13 = .ok (.iload_n 3, 1) := by decide +kernel
theorem dX6_loaderPuts_14 : decode cX6_loaderPuts 14 = .ok (.if_icmp .ge 7, 3) := by decide +kernel
theorem dX6_loaderPuts_17 : decode cX6_loaderPuts 17 = .ok (.iconst 1, 1) := by decide +kernel
theorem dX6_loaderPuts_18 : decode cX6_loaderPuts 18 = .ok (.goto 4, 3) := by decide +kernel
theorem dX6_loaderPuts_21 : decode cX6_loaderPuts 21 = .ok (.iconst 0, 1) := by decide +kernel
theorem dX6_loaderPuts_22 : decode cX6_loaderPuts 22 = .ok (.ireturn, 1) := by decide +kernel
theorem dX6_chuteTakes_0 : decode cX6_chuteTakes 0 = .ok (.aload_n 0, 1) := by decide +kernel
theorem dX6_chuteTakes_1 : decode cX6_chuteTakes 1 = .ok (.iload_n 1, 1) := by decide +kernel
theorem dX6_chuteTakes_2 : decode cX6_chuteTakes 2 = .ok (.invokevirtual 34, 3) := by decide +kernel
theorem dX6_chuteTakes_5 : decode cX6_chuteTakes 5 = .ok (.astore 4, 2) := by decide +kernel
theorem dX6_chuteTakes_7 : decode cX6_chuteTakes 7 = .ok (.aload 4, 2) := by decide +kernel
theorem dX6_chuteTakes_9 : decode cX6_chuteTakes 9 = .ok (.ifnull 33, 3) := by decide +kernel
theorem dX6_chuteTakes_12 : decode cX6_chuteTakes 12 = .ok (.aload 4, 2) := by decide +kernel
theorem dX6_chuteTakes_14 : decode cX6_chuteTakes 14 = .ok (.getfield 55, 3) := by decide +kernel
theorem dX6_chuteTakes_17 : decode cX6_chuteTakes 17 = .ok (.ifCond .ne 25, 3) := by decide +kernel
theorem dX6_chuteTakes_20 : decode cX6_chuteTakes 20 = .ok (.iload_n 3, 1) := by decide +kernel
theorem dX6_chuteTakes_21 : decode cX6_chuteTakes 21 = .ok (.aload 4, 2) := by decide +kernel
theorem dX6_chuteTakes_23 : decode cX6_chuteTakes 23 = .ok (.getfield 62, 3) := by decide +kernel
theorem dX6_chuteTakes_26 : decode cX6_chuteTakes 26 = .ok (.if_icmp .ge 16, 3) := by decide +kernel
theorem dX6_chuteTakes_29 : decode cX6_chuteTakes 29 = .ok (.aload_n 0, 1) := by decide +kernel
theorem dX6_chuteTakes_30 : decode cX6_chuteTakes 30 = .ok (.iload_n 2, 1) := by decide +kernel
theorem dX6_chuteTakes_31 : decode cX6_chuteTakes 31 = .ok (.invokevirtual 65, 3) := by decide +kernel
theorem dX6_chuteTakes_34 : decode cX6_chuteTakes 34 = .ok (.iload_n 1, 1) := by decide +kernel
theorem dX6_chuteTakes_35 : decode cX6_chuteTakes 35 = .ok (.if_icmp .ne 7, 3) := by decide +kernel
theorem dX6_chuteTakes_38 : decode cX6_chuteTakes 38 = .ok (.iconst 1, 1) := by decide +kernel
theorem dX6_chuteTakes_39 : decode cX6_chuteTakes 39 = .ok (.goto 4, 3) := by decide +kernel
theorem dX6_chuteTakes_42 : decode cX6_chuteTakes 42 = .ok (.iconst 0, 1) := by decide +kernel
theorem dX6_chuteTakes_43 : decode cX6_chuteTakes 43 = .ok (.ireturn, 1) := by decide +kernel
theorem dX6_overflowTakes_0 : decode cX6_overflowTakes 0 = .ok (.aload_n 0, 1) := by decide +kernel
theorem dX6_overflowTakes_1 : decode cX6_overflowTakes 1 = .ok (.getfield 52, 3) := by decide +kernel
theorem dX6_overflowTakes_4 : decode cX6_overflowTakes 4 = .ok (.ifCond .ne 20, 3) := by decide +kernel
theorem dX6_overflowTakes_7 : decode cX6_overflowTakes 7 = .ok (.iload_n 1, 1) := by decide +kernel
theorem dX6_overflowTakes_8 : decode cX6_overflowTakes 8 = .ok (.iconst (-1), 1) := by decide +kernel
theorem dX6_overflowTakes_9 : decode cX6_overflowTakes 9 = .ok (.if_icmp .eq 15, 3) := by decide +kernel
theorem dX6_overflowTakes_12 : decode cX6_overflowTakes 12 = .ok (.iload_n 2, 1) := by decide +kernel
theorem dX6_overflowTakes_13 : decode cX6_overflowTakes 13 = .ok (.aload_n 0, 1) := by decide +kernel
theorem dX6_overflowTakes_14 : decode cX6_overflowTakes 14 = .ok (.getfield 25, 3) := by decide +kernel
theorem dX6_overflowTakes_17 : decode cX6_overflowTakes 17 = .ok (.if_icmp .lt 7, 3) := by decide +kernel
theorem dX6_overflowTakes_20 : decode cX6_overflowTakes 20 = .ok (.iconst 1, 1) := by decide +kernel
theorem dX6_overflowTakes_21 : decode cX6_overflowTakes 21 = .ok (.goto 4, 3) := by decide +kernel
theorem dX6_overflowTakes_24 : decode cX6_overflowTakes 24 = .ok (.iconst 0, 1) := by decide +kernel
theorem dX6_overflowTakes_25 : decode cX6_overflowTakes 25 = .ok (.ireturn, 1) := by decide +kernel
theorem dX6_sealsAgree_0 : decode cX6_sealsAgree 0 = .ok (.iconst 0, 1) := by decide +kernel
theorem dX6_sealsAgree_1 : decode cX6_sealsAgree 1 = .ok (.istore_n 1, 1) := by decide +kernel
theorem dX6_sealsAgree_2 : decode cX6_sealsAgree 2 = .ok (.iload_n 1, 1) := by decide +kernel
theorem dX6_sealsAgree_3 : decode cX6_sealsAgree 3 = .ok (.aload_n 0, 1) := by decide +kernel
theorem dX6_sealsAgree_4 : decode cX6_sealsAgree 4 = .ok (.getfield 28, 3) := by decide +kernel
theorem dX6_sealsAgree_7 : decode cX6_sealsAgree 7 = .ok (.if_icmp .ge 32, 3) := by decide +kernel
theorem dX6_sealsAgree_10 : decode cX6_sealsAgree 10 = .ok (.aload_n 0, 1) := by decide +kernel
theorem dX6_sealsAgree_11 : decode cX6_sealsAgree 11 = .ok (.iload_n 1, 1) := by decide +kernel
theorem dX6_sealsAgree_12 : decode cX6_sealsAgree 12 = .ok (.invokevirtual 34, 3) := by decide +kernel
theorem dX6_sealsAgree_15 : decode cX6_sealsAgree 15 = .ok (.astore_n 2, 1) := by decide +kernel
theorem dX6_sealsAgree_16 : decode cX6_sealsAgree 16 = .ok (.aload_n 2, 1) := by decide +kernel
theorem dX6_sealsAgree_17 : decode cX6_sealsAgree 17 = .ok (.ifnull 16, 3) := by decide +kernel
theorem dX6_sealsAgree_20 : decode cX6_sealsAgree 20 = .ok (.aload_n 2, 1) := by decide +kernel
theorem dX6_sealsAgree_21 : decode cX6_sealsAgree 21 = .ok (.invokevirtual 68, 3) := by decide +kernel
theorem dX6_sealsAgree_24 : decode cX6_sealsAgree 24 = .ok (.aload_n 2, 1) := by decide +kernel
theorem dX6_sealsAgree_25 : decode cX6_sealsAgree 25 = .ok (.invokevirtual 72, 3) := by decide +kernel
theorem dX6_sealsAgree_28 : decode cX6_sealsAgree 28 = .ok (.if_icmp .eq 5, 3) := by decide +kernel
theorem dX6_sealsAgree_31 : decode cX6_sealsAgree 31 = .ok (.iconst 0, 1) := by decide +kernel
theorem dX6_sealsAgree_32 : decode cX6_sealsAgree 32 = .ok (.ireturn, 1) := by decide +kernel
theorem dX6_sealsAgree_33 : decode cX6_sealsAgree 33 = .ok (.iinc 1 1, 3) := by decide +kernel
theorem dX6_sealsAgree_36 : decode cX6_sealsAgree 36 = .ok (.goto (-34), 3) := by decide +kernel
theorem dX6_sealsAgree_39 : decode cX6_sealsAgree 39 = .ok (.iconst 1, 1) := by decide +kernel
theorem dX6_sealsAgree_40 : decode cX6_sealsAgree 40 = .ok (.ireturn, 1) := by decide +kernel
theorem dX7_init_0 : decode cX7_init 0 = .ok (.aload_n 0, 1) := by decide +kernel
theorem dX7_init_1 : decode cX7_init 1 = .ok (.invokespecial 3, 3) := by decide +kernel
theorem dX7_init_4 : decode cX7_init 4 = .ok (.aload_n 0, 1) := by decide +kernel
theorem dX7_init_5 : decode cX7_init 5 = .ok (.bipush 8, 2) := by decide +kernel
theorem dX7_init_7 : decode cX7_init 7 = .ok (.newarray .int, 2) := by decide +kernel
theorem dX7_init_9 : decode cX7_init 9 = .ok (.putfield 9, 3) := by decide +kernel
theorem dX7_init_12 : decode cX7_init 12 = .ok (.aload_n 0, 1) := by decide +kernel
theorem dX7_init_13 : decode cX7_init 13 = .ok (.bipush 6, 2) := by decide +kernel
theorem dX7_init_15 : decode cX7_init 15 = .ok (.newarray .int, 2) := by decide +kernel
theorem dX7_init_17 : decode cX7_init 17 = .ok (.putfield 15, 3) := by decide +kernel
theorem dX7_init_20 : decode cX7_init 20 = .ok (.aload_n 0, 1) := by decide +kernel
theorem dX7_init_21 : decode cX7_init 21 = .ok (.aload_n 1, 1) := by decide +kernel
theorem dX7_init_22 : decode cX7_init 22 = .ok (.putfield 18, 3) := by decide +kernel
theorem dX7_init_25 : decode cX7_init 25 = .ok (.aload_n 0, 1) := by decide +kernel
theorem dX7_init_26 : decode cX7_init 26 = .ok (.aload_n 2, 1) := by decide +kernel
theorem dX7_init_27 : decode cX7_init 27 = .ok (.putfield 22, 3) := by decide +kernel
theorem dX7_init_30 : decode cX7_init 30 = .ok (.return_, 1) := by decide +kernel
theorem dX8_init_0 : decode cX8_init 0 = .ok (.aload_n 0, 1) := by decide +kernel
theorem dX8_init_1 : decode cX8_init 1 = .ok (.invokespecial 1, 3) := by decide +kernel
theorem dX8_init_4 : decode cX8_init 4 = .ok (.aload_n 0, 1) := by decide +kernel
theorem dX8_init_5 : decode cX8_init 5 = .ok (.new 7, 3) := by decide +kernel
theorem dX8_init_8 : decode cX8_init 8 = .ok (.dup, 1) := by decide +kernel
theorem dX8_init_9 : decode cX8_init 9 = .ok (.invokespecial 9, 3) := by decide +kernel
theorem dX8_init_12 : decode cX8_init 12 = .ok (.putfield 10, 3) := by decide +kernel
theorem dX8_init_15 : decode cX8_init 15 = .ok (.aload_n 0, 1) := by decide +kernel
theorem dX8_init_16 : decode cX8_init 16 = .ok (.new 16, 3) := by decide +kernel
theorem dX8_init_19 : decode cX8_init 19 = .ok (.dup, 1) := by decide +kernel
theorem dX8_init_20 : decode cX8_init 20 = .ok (.invokespecial 18, 3) := by decide +kernel
theorem dX8_init_23 : decode cX8_init 23 = .ok (.putfield 19, 3) := by decide +kernel
theorem dX8_init_26 : decode cX8_init 26 = .ok (.aload_n 0, 1) := by decide +kernel
theorem dX8_init_27 : decode cX8_init 27 = .ok (.new 23, 3) := by decide +kernel
theorem dX8_init_30 : decode cX8_init 30 = .ok (.dup, 1) := by decide +kernel
theorem dX8_init_31 : decode cX8_init 31 = .ok (.invokespecial 25, 3) := by decide +kernel
theorem dX8_init_34 : decode cX8_init 34 = .ok (.putfield 26, 3) := by decide +kernel
theorem dX8_init_37 : decode cX8_init 37 = .ok (.aload_n 0, 1) := by decide +kernel
theorem dX8_init_38 : decode cX8_init 38 = .ok (.new 30, 3) := by decide +kernel
theorem dX8_init_41 : decode cX8_init 41 = .ok (.dup, 1) := by decide +kernel
theorem dX8_init_42 : decode cX8_init 42 = .ok (.aload_n 0, 1) := by decide +kernel
theorem dX8_init_43 : decode cX8_init 43 = .ok (.getfield 26, 3) := by decide +kernel
theorem dX8_init_46 : decode cX8_init 46 = .ok (.aload_n 0, 1) := by decide +kernel
theorem dX8_init_47 : decode cX8_init 47 = .ok (.getfield 10, 3) := by decide +kernel
theorem dX8_init_50 : decode cX8_init 50 = .ok (.invokespecial 32, 3) := by decide +kernel
theorem dX8_init_53 : decode cX8_init 53 = .ok (.putfield 35, 3) := by decide +kernel
theorem dX8_init_56 : decode cX8_init 56 = .ok (.aload_n 0, 1) := by decide +kernel
theorem dX8_init_57 : decode cX8_init 57 = .ok (.new 39, 3) := by decide +kernel
theorem dX8_init_60 : decode cX8_init 60 = .ok (.dup, 1) := by decide +kernel
theorem dX8_init_61 : decode cX8_init 61 = .ok (.aload_n 0, 1) := by decide +kernel
theorem dX8_init_62 : decode cX8_init 62 = .ok (.getfield 26, 3) := by decide +kernel
theorem dX8_init_65 : decode cX8_init 65 = .ok (.aload_n 0, 1) := by decide +kernel
theorem dX8_init_66 : decode cX8_init 66 = .ok (.getfield 10, 3) := by decide +kernel
theorem dX8_init_69 : decode cX8_init 69 = .ok (.aload_n 0, 1) := by decide +kernel
theorem dX8_init_70 : decode cX8_init 70 = .ok (.getfield 19, 3) := by decide +kernel
theorem dX8_init_73 : decode cX8_init 73 = .ok (.invokespecial 41, 3) := by decide +kernel
theorem dX8_init_76 : decode cX8_init 76 = .ok (.putfield 44, 3) := by decide +kernel
theorem dX8_init_79 : decode cX8_init 79 = .ok (.aload_n 0, 1) := by decide +kernel
theorem dX8_init_80 : decode cX8_init 80 = .ok (.new 48, 3) := by decide +kernel
theorem dX8_init_83 : decode cX8_init 83 = .ok (.dup, 1) := by decide +kernel
theorem dX8_init_84 : decode cX8_init 84 = .ok (.sipush 300, 3) := by decide +kernel
theorem dX8_init_87 : decode cX8_init 87 = .ok (.invokespecial 50, 3) := by decide +kernel
theorem dX8_init_90 : decode cX8_init 90 = .ok (.putfield 53, 3) := by decide +kernel
theorem dX8_init_93 : decode cX8_init 93 = .ok (.aload_n 0, 1) := by decide +kernel
theorem dX8_init_94 : decode cX8_init 94 = .ok (.new 57, 3) := by decide +kernel
theorem dX8_init_97 : decode cX8_init 97 = .ok (.dup, 1) := by decide +kernel
theorem dX8_init_98 : decode cX8_init 98 = .ok (.invokespecial 59, 3) := by decide +kernel
theorem dX8_init_101 : decode cX8_init 101 = .ok (.putfield 60, 3) := by decide +kernel
theorem dX8_init_104 : decode cX8_init 104 = .ok (.aload_n 0, 1) := by decide +kernel
theorem dX8_init_105 : decode cX8_init 105 = .ok (.sipush 300, 3) := by decide +kernel
theorem dX8_init_108 : decode cX8_init 108 = .ok (.newarray .int, 2) := by decide +kernel
theorem dX8_init_110 : decode cX8_init 110 = .ok (.putfield 64, 3) := by decide +kernel
theorem dX8_init_113 : decode cX8_init 113 = .ok (.return_, 1) := by decide +kernel
theorem dX8_setLoop_0 : decode cX8_setLoop 0 = .ok (.iload_n 1, 1) := by decide +kernel
theorem dX8_setLoop_1 : decode cX8_setLoop 1 = .ok (.iconst 4, 1) := by decide +kernel
theorem dX8_setLoop_2 : decode cX8_setLoop 2 = .ok (.if_icmp .lt 9, 3) := by decide +kernel
theorem dX8_setLoop_5 : decode cX8_setLoop 5 = .ok (.iload_n 1, 1) := by decide +kernel
theorem dX8_setLoop_6 : decode cX8_setLoop 6 = .ok (.bipush 20, 2) := by decide +kernel
theorem dX8_setLoop_8 : decode cX8_setLoop 8 = .ok (.if_icmp .le 11, 3) := by decide +kernel
theorem dX8_setLoop_11 : decode cX8_setLoop 11 = .ok (.new 68, 3) := by decide +kernel
theorem dX8_setLoop_14 : decode cX8_setLoop 14 = .ok (.dup, 1) := by decide +kernel
theorem dX8_setLoop_15 : decode cX8_setLoop 15 = .ok (.invokespecial 70, 3) := by decide +kernel
theorem dX8_setLoop_18 : decode cX8_setLoop 18 = .ok (.athrow, 1) := by decide +kernel
theorem dX8_setLoop_19 : decode cX8_setLoop 19 = .ok (.aload_n 0, 1) := by decide +kernel
theorem dX8_setLoop_20 : decode cX8_setLoop 20 = .ok (.getfield 26, 3) := by decide +kernel
theorem dX8_setLoop_23 : decode cX8_setLoop 23 = .ok (.getfield 71, 3) := by decide +kernel
theorem dX8_setLoop_26 : decode cX8_setLoop 26 = .ok (.ifCond .gt 13, 3) := by decide +kernel
theorem dX8_setLoop_29 : decode cX8_setLoop 29 = .ok (.aload_n 0, 1) := by decide +kernel
theorem dX8_setLoop_30 : decode cX8_setLoop 30 = .ok (.getfield 10, 3) := by decide +kernel
theorem dX8_setLoop_33 : decode cX8_setLoop 33 = .ok (.getfield 75, 3) := by decide +kernel
theorem dX8_setLoop_36 : decode cX8_setLoop 36 = .ok (.ifCond .le 11, 3) := by decide +kernel
theorem dX8_setLoop_39 : decode cX8_setLoop 39 = .ok (.new 78, 3) := by decide +kernel
theorem dX8_setLoop_42 : decode cX8_setLoop 42 = .ok (.dup, 1) := by decide +kernel
theorem dX8_setLoop_43 : decode cX8_setLoop 43 = .ok (.invokespecial 80, 3) := by decide +kernel
theorem dX8_setLoop_46 : decode cX8_setLoop 46 = .ok (.athrow, 1) := by decide +kernel
theorem dX8_setLoop_47 : decode cX8_setLoop 47 = .ok (.aload_n 0, 1) := by decide +kernel
theorem dX8_setLoop_48 : decode cX8_setLoop 48 = .ok (.getfield 19, 3) := by decide +kernel
theorem dX8_setLoop_51 : decode cX8_setLoop 51 = .ok (.getfield 81, 3) := by decide +kernel
theorem dX8_setLoop_54 : decode cX8_setLoop 54 = .ok (.istore_n 2, 1) := by decide +kernel
theorem dX8_setLoop_55 : decode cX8_setLoop 55 = .ok (.aload_n 0, 1) := by decide +kernel
theorem dX8_setLoop_56 : decode cX8_setLoop 56 = .ok (.getfield 19, 3) := by decide +kernel
theorem dX8_setLoop_59 : decode cX8_setLoop 59 = .ok (.iload_n 1, 1) := by decide +kernel
theorem dX8_setLoop_60 : decode cX8_setLoop 60 = .ok (.invokevirtual 84, 3) := by decide +kernel
theorem dX8_setLoop_63 : decode cX8_setLoop 63 = .ok (.aload_n 0, 1) := by decide +kernel
theorem dX8_setLoop_64 : decode cX8_setLoop 64 = .ok (.getfield 26, 3) := by decide +kernel
theorem dX8_setLoop_67 : decode cX8_setLoop 67 = .ok (.iload_n 1, 1) := by decide +kernel
theorem dX8_setLoop_68 : decode cX8_setLoop 68 = .ok (.iconst 1, 1) := by decide +kernel
theorem dX8_setLoop_69 : decode cX8_setLoop 69 = .ok (.isub, 1) := by decide +kernel
theorem dX8_setLoop_70 : decode cX8_setLoop 70 = .ok (.putfield 87, 3) := by decide +kernel
theorem dX8_setLoop_73 : decode cX8_setLoop 73 = .ok (.iload_n 2, 1) := by decide +kernel
theorem dX8_setLoop_74 : decode cX8_setLoop 74 = .ok (.ireturn, 1) := by decide +kernel
theorem dX8_addChute_0 : decode cX8_addChute 0 = .ok (.iload_n 1, 1) := by decide +kernel
theorem dX8_addChute_1 : decode cX8_addChute 1 = .ok (.iconst 1, 1) := by decide +kernel
theorem dX8_addChute_2 : decode cX8_addChute 2 = .ok (.if_icmp .lt 21, 3) := by decide +kernel
theorem dX8_addChute_5 : decode cX8_addChute 5 = .ok (.iload_n 1, 1) := by decide +kernel
theorem dX8_addChute_6 : decode cX8_addChute 6 = .ok (.aload_n 0, 1) := by decide +kernel
theorem dX8_addChute_7 : decode cX8_addChute 7 = .ok (.getfield 26, 3) := by decide +kernel
theorem dX8_addChute_10 : decode cX8_addChute 10 = .ok (.getfield 87, 3) := by decide +kernel
theorem dX8_addChute_13 : decode cX8_addChute 13 = .ok (.if_icmp .ge 10, 3) := by decide +kernel
theorem dX8_addChute_16 : decode cX8_addChute 16 = .ok (.iload_n 2, 1) := by decide +kernel
theorem dX8_addChute_17 : decode cX8_addChute 17 = .ok (.invokestatic 90, 3) := by decide +kernel
theorem dX8_addChute_20 : decode cX8_addChute 20 = .ok (.ifCond .ne 11, 3) := by decide +kernel
theorem dX8_addChute_23 : decode cX8_addChute 23 = .ok (.new 68, 3) := by decide +kernel
theorem dX8_addChute_26 : decode cX8_addChute 26 = .ok (.dup, 1) := by decide +kernel
theorem dX8_addChute_27 : decode cX8_addChute 27 = .ok (.invokespecial 70, 3) := by decide +kernel
theorem dX8_addChute_30 : decode cX8_addChute 30 = .ok (.athrow, 1) := by decide +kernel
theorem dX8_addChute_31 : decode cX8_addChute 31 = .ok (.aload_n 0, 1) := by decide +kernel
theorem dX8_addChute_32 : decode cX8_addChute 32 = .ok (.getfield 26, 3) := by decide +kernel
theorem dX8_addChute_35 : decode cX8_addChute 35 = .ok (.iload_n 1, 1) := by decide +kernel
theorem dX8_addChute_36 : decode cX8_addChute 36 = .ok (.invokevirtual 94, 3) := by decide +kernel
theorem dX8_addChute_39 : decode cX8_addChute 39 = .ok (.ifnull 11, 3) := by decide +kernel
theorem dX8_addChute_42 : decode cX8_addChute 42 = .ok (.new 98, 3) := by decide +kernel
theorem dX8_addChute_45 : decode cX8_addChute 45 = .ok (.dup, 1) := by decide +kernel
theorem dX8_addChute_46 : decode cX8_addChute 46 = .ok (.invokespecial 100, 3) := by decide +kernel
theorem dX8_addChute_49 : decode cX8_addChute 49 = .ok (.athrow, 1) := by decide +kernel
theorem dX8_addChute_50 : decode cX8_addChute 50 = .ok (.aload_n 0, 1) := by decide +kernel
theorem dX8_addChute_51 : decode cX8_addChute 51 = .ok (.getfield 26, 3) := by decide +kernel
theorem dX8_addChute_54 : decode cX8_addChute 54 = .ok (.getfield 71, 3) := by decide +kernel
theorem dX8_addChute_57 : decode cX8_addChute 57 = .ok (.bipush 6, 2) := by decide +kernel
theorem dX8_addChute_59 : decode cX8_addChute 59 = .ok (.if_icmp .lt 11, 3) := by decide +kernel
theorem dX8_addChute_62 : decode cX8_addChute 62 = .ok (.new 78, 3) := by decide +kernel
theorem dX8_addChute_65 : decode cX8_addChute 65 = .ok (.dup, 1) := by decide +kernel
theorem dX8_addChute_66 : decode cX8_addChute 66 = .ok (.invokespecial 80, 3) := by decide +kernel
theorem dX8_addChute_69 : decode cX8_addChute 69 = .ok (.athrow, 1) := by decide +kernel
theorem dX8_addChute_70 : decode cX8_addChute 70 = .ok (.aload_n 0, 1) := by decide +kernel
theorem dX8_addChute_71 : decode cX8_addChute 71 = .ok (.getfield 26, 3) := by decide +kernel
theorem dX8_addChute_74 : decode cX8_addChute 74 = .ok (.iload_n 1, 1) := by decide +kernel
theorem dX8_addChute_75 : decode cX8_addChute 75 = .ok (.iload_n 2, 1) := by decide +kernel
theorem dX8_addChute_76 : decode cX8_addChute 76 = .ok (.invokevirtual 101, 3) := by decide +kernel
theorem dX8_addChute_79 : decode cX8_addChute 79 = .ok (.ireturn, 1) := by decide +kernel
theorem dX8_setCapacity_0 : decode cX8_setCapacity 0 = .ok (.aload_n 0, 1) := by decide +kernel
theorem dX8_setCapacity_1 : decode cX8_setCapacity 1 = .ok (.iload_n 1, 1) := by decide +kernel
theorem dX8_setCapacity_2 : decode cX8_setCapacity 2 = .ok (.invokevirtual 105, 3) := by decide +kernel
theorem dX8_setCapacity_5 : decode cX8_setCapacity 5 = .ok (.astore_n 3, 1) := by decide +kernel
theorem dX8_setCapacity_6 : decode cX8_setCapacity 6 = .ok (.iload_n 2, 1) := by decide +kernel
theorem dX8_setCapacity_7 : decode cX8_setCapacity 7 = .ok (.invokestatic 90, 3) := by decide +kernel
theorem dX8_setCapacity_10 : decode cX8_setCapacity 10 = .ok (.ifCond .ne 11, 3) := by decide +kernel
theorem dX8_setCapacity_13 : decode cX8_setCapacity 13 = .ok (.new 68, 3) := by decide +kernel
theorem dX8_setCapacity_16 : decode cX8_setCapacity 16 = .ok (.dup, 1) := by decide +kernel
theorem dX8_setCapacity_17 : decode cX8_setCapacity 17 = .ok (.invokespecial 70, 3) := by decide +kernel
theorem dX8_setCapacity_20 : decode cX8_setCapacity 20 = .ok (.athrow, 1) := by decide +kernel
theorem dX8_setCapacity_21 : decode cX8_setCapacity 21 = .ok (.aload_n 3, 1) := by decide +kernel
theorem dX8_setCapacity_22 : decode cX8_setCapacity 22 = .ok (.getfield 108, 3) := by decide +kernel
theorem dX8_setCapacity_25 : decode cX8_setCapacity 25 = .ok (.getfield 113, 3) := by decide +kernel
theorem dX8_setCapacity_28 : decode cX8_setCapacity 28 = .ok (.iload_n 2, 1) := by decide +kernel
theorem dX8_setCapacity_29 : decode cX8_setCapacity 29 = .ok (.if_icmp .le 11, 3) := by decide +kernel
theorem dX8_setCapacity_32 : decode cX8_setCapacity 32 = .ok (.new 78, 3) := by decide +kernel
theorem dX8_setCapacity_35 : decode cX8_setCapacity 35 = .ok (.dup, 1) := by decide +kernel
theorem dX8_setCapacity_36 : decode cX8_setCapacity 36 = .ok (.invokespecial 80, 3) := by decide +kernel
theorem dX8_setCapacity_39 : decode cX8_setCapacity 39 = .ok (.athrow, 1) := by decide +kernel
theorem dX8_setCapacity_40 : decode cX8_setCapacity 40 = .ok (.aload_n 3, 1) := by decide +kernel
theorem dX8_setCapacity_41 : decode cX8_setCapacity 41 = .ok (.getfield 116, 3) := by decide +kernel
theorem dX8_setCapacity_44 : decode cX8_setCapacity 44 = .ok (.istore 4, 2) := by decide +kernel
theorem dX8_setCapacity_46 : decode cX8_setCapacity 46 = .ok (.aload_n 3, 1) := by decide +kernel
theorem dX8_setCapacity_47 : decode cX8_setCapacity 47 = .ok (.iload_n 2, 1) := by decide +kernel
theorem dX8_setCapacity_48 : decode cX8_setCapacity 48 = .ok (.putfield 116, 3) := by decide +kernel
theorem dX8_setCapacity_51 : decode cX8_setCapacity 51 = .ok (.iload 4, 2) := by decide +kernel
theorem dX8_setCapacity_53 : decode cX8_setCapacity 53 = .ok (.ireturn, 1) := by decide +kernel
theorem dX8_setLimit_0 : decode cX8_setLimit 0 = .ok (.iload_n 1, 1) := by decide +kernel
theorem dX8_setLimit_1 : decode cX8_setLimit 1 = .ok (.iconst 1, 1) := by decide +kernel
theorem dX8_setLimit_2 : decode cX8_setLimit 2 = .ok (.if_icmp .lt 9, 3) := by decide +kernel
theorem dX8_setLimit_5 : decode cX8_setLimit 5 = .ok (.iload_n 1, 1) := by decide +kernel
theorem dX8_setLimit_6 : decode cX8_setLimit 6 = .ok (.bipush 9, 2) := by decide +kernel
theorem dX8_setLimit_8 : decode cX8_setLimit 8 = .ok (.if_icmp .le 11, 3) := by decide +kernel
theorem dX8_setLimit_11 : decode cX8_setLimit 11 = .ok (.new 68, 3) := by decide +kernel
theorem dX8_setLimit_14 : decode cX8_setLimit 14 = .ok (.dup, 1) := by decide +kernel
theorem dX8_setLimit_15 : decode cX8_setLimit 15 = .ok (.invokespecial 70, 3) := by decide +kernel
theorem dX8_setLimit_18 : decode cX8_setLimit 18 = .ok (.athrow, 1) := by decide +kernel
theorem dX8_setLimit_19 : decode cX8_setLimit 19 = .ok (.aload_n 0, 1) := by decide +kernel
theorem dX8_setLimit_20 : decode cX8_setLimit 20 = .ok (.getfield 26, 3) := by decide +kernel
theorem dX8_setLimit_23 : decode cX8_setLimit 23 = .ok (.getfield 119, 3) := by decide +kernel
theorem dX8_setLimit_26 : decode cX8_setLimit 26 = .ok (.istore_n 2, 1) := by decide +kernel
theorem dX8_setLimit_27 : decode cX8_setLimit 27 = .ok (.aload_n 0, 1) := by decide +kernel
theorem dX8_setLimit_28 : decode cX8_setLimit 28 = .ok (.getfield 26, 3) := by decide +kernel
theorem dX8_setLimit_31 : decode cX8_setLimit 31 = .ok (.iload_n 1, 1) := by decide +kernel
theorem dX8_setLimit_32 : decode cX8_setLimit 32 = .ok (.putfield 119, 3) := by decide +kernel
theorem dX8_setLimit_35 : decode cX8_setLimit 35 = .ok (.iload_n 2, 1) := by decide +kernel
theorem dX8_setLimit_36 : decode cX8_setLimit 36 = .ok (.ireturn, 1) := by decide +kernel
theorem dX8_jam_0 : decode cX8_jam 0 = .ok (.aload_n 0, 1) := by decide +kernel
theorem dX8_jam_1 : decode cX8_jam 1 = .ok (.iload_n 1, 1) := by decide +kernel
theorem dX8_jam_2 : decode cX8_jam 2 = .ok (.invokevirtual 122, 3) := by decide +kernel
theorem dX8_jam_5 : decode cX8_jam 5 = .ok (.aload_n 0, 1) := by decide +kernel
theorem dX8_jam_6 : decode cX8_jam 6 = .ok (.getfield 26, 3) := by decide +kernel
theorem dX8_jam_9 : decode cX8_jam 9 = .ok (.iload_n 1, 1) := by decide +kernel
theorem dX8_jam_10 : decode cX8_jam 10 = .ok (.invokevirtual 125, 3) := by decide +kernel
theorem dX8_jam_13 : decode cX8_jam 13 = .ok (.ifCond .eq 11, 3) := by decide +kernel
theorem dX8_jam_16 : decode cX8_jam 16 = .ok (.new 78, 3) := by decide +kernel
theorem dX8_jam_19 : decode cX8_jam 19 = .ok (.dup, 1) := by decide +kernel
theorem dX8_jam_20 : decode cX8_jam 20 = .ok (.invokespecial 80, 3) := by decide +kernel
theorem dX8_jam_23 : decode cX8_jam 23 = .ok (.athrow, 1) := by decide +kernel
theorem dX8_jam_24 : decode cX8_jam 24 = .ok (.aload_n 0, 1) := by decide +kernel
theorem dX8_jam_25 : decode cX8_jam 25 = .ok (.getfield 26, 3) := by decide +kernel
theorem dX8_jam_28 : decode cX8_jam 28 = .ok (.iload_n 1, 1) := by decide +kernel
theorem dX8_jam_29 : decode cX8_jam 29 = .ok (.iconst 1, 1) := by decide +kernel
theorem dX8_jam_30 : decode cX8_jam 30 = .ok (.invokevirtual 128, 3) := by decide +kernel
theorem dX8_jam_33 : decode cX8_jam 33 = .ok (.aload_n 0, 1) := by decide +kernel
theorem dX8_jam_34 : decode cX8_jam 34 = .ok (.getfield 26, 3) := by decide +kernel
theorem dX8_jam_37 : decode cX8_jam 37 = .ok (.invokevirtual 132, 3) := by decide +kernel
theorem dX8_jam_40 : decode cX8_jam 40 = .ok (.ireturn, 1) := by decide +kernel
theorem dX8_free_0 : decode cX8_free 0 = .ok (.aload_n 0, 1) := by decide +kernel
theorem dX8_free_1 : decode cX8_free 1 = .ok (.iload_n 1, 1) := by decide +kernel
theorem dX8_free_2 : decode cX8_free 2 = .ok (.invokevirtual 122, 3) := by decide +kernel
theorem dX8_free_5 : decode cX8_free 5 = .ok (.aload_n 0, 1) := by decide +kernel
theorem dX8_free_6 : decode cX8_free 6 = .ok (.getfield 26, 3) := by decide +kernel
theorem dX8_free_9 : decode cX8_free 9 = .ok (.iload_n 1, 1) := by decide +kernel
theorem dX8_free_10 : decode cX8_free 10 = .ok (.invokevirtual 125, 3) := by decide +kernel
theorem dX8_free_13 : decode cX8_free 13 = .ok (.ifCond .ne 11, 3) := by decide +kernel
theorem dX8_free_16 : decode cX8_free 16 = .ok (.new 78, 3) := by decide +kernel
theorem dX8_free_19 : decode cX8_free 19 = .ok (.dup, 1) := by decide +kernel
theorem dX8_free_20 : decode cX8_free 20 = .ok (.invokespecial 80, 3) := by decide +kernel
theorem dX8_free_23 : decode cX8_free 23 = .ok (.athrow, 1) := by decide +kernel
theorem dX8_free_24 : decode cX8_free 24 = .ok (.aload_n 0, 1) := by decide +kernel
theorem dX8_free_25 : decode cX8_free 25 = .ok (.getfield 26, 3) := by decide +kernel
theorem dX8_free_28 : decode cX8_free 28 = .ok (.iload_n 1, 1) := by decide +kernel
theorem dX8_free_29 : decode cX8_free 29 = .ok (.iconst 0, 1) := by decide +kernel
theorem dX8_free_30 : decode cX8_free 30 = .ok (.invokevirtual 128, 3) := by decide +kernel
theorem dX8_free_33 : decode cX8_free 33 = .ok (.aload_n 0, 1) := by decide +kernel
theorem dX8_free_34 : decode cX8_free 34 = .ok (.getfield 26, 3) := by decide +kernel
theorem dX8_free_37 : decode cX8_free 37 = .ok (.invokevirtual 132, 3) := by decide +kernel
theorem dX8_free_40 : decode cX8_free 40 = .ok (.ireturn, 1) := by decide +kernel
theorem dX8_stationAt_0 : decode cX8_stationAt 0 = .ok (.aload_n 0, 1) := by decide +kernel
theorem dX8_stationAt_1 : decode cX8_stationAt 1 = .ok (.iload_n 1, 1) := by decide +kernel
theorem dX8_stationAt_2 : decode cX8_stationAt 2 = .ok (.invokevirtual 136, 3) := by decide +kernel
theorem dX8_stationAt_5 : decode cX8_stationAt 5 = .ok (.aload_n 0, 1) := by decide +kernel
theorem dX8_stationAt_6 : decode cX8_stationAt 6 = .ok (.getfield 26, 3) := by decide +kernel
theorem dX8_stationAt_9 : decode cX8_stationAt 9 = .ok (.iload_n 1, 1) := by decide +kernel
theorem dX8_stationAt_10 : decode cX8_stationAt 10 = .ok (.invokevirtual 139, 3) := by decide +kernel
theorem dX8_stationAt_13 : decode cX8_stationAt 13 = .ok (.ireturn, 1) := by decide +kernel
theorem dX8_arrive_0 : decode cX8_arrive 0 = .ok (.iload_n 1, 1) := by decide +kernel
theorem dX8_arrive_1 : decode cX8_arrive 1 = .ok (.invokestatic 143, 3) := by decide +kernel
theorem dX8_arrive_4 : decode cX8_arrive 4 = .ok (.ifCond .eq 14, 3) := by decide +kernel
theorem dX8_arrive_7 : decode cX8_arrive 7 = .ok (.iload_n 2, 1) := by decide +kernel
theorem dX8_arrive_8 : decode cX8_arrive 8 = .ok (.iconst 1, 1) := by decide +kernel
theorem dX8_arrive_9 : decode cX8_arrive 9 = .ok (.if_icmp .lt 9, 3) := by decide +kernel
theorem dX8_arrive_12 : decode cX8_arrive 12 = .ok (.iload_n 2, 1) := by decide +kernel
theorem dX8_arrive_13 : decode cX8_arrive 13 = .ok (.bipush 9, 2) := by decide +kernel
theorem dX8_arrive_15 : decode cX8_arrive 15 = .ok (.if_icmp .le 11, 3) := by decide +kernel
theorem dX8_arrive_18 : decode cX8_arrive 18 = .ok (.new 68, 3) := by decide +kernel
theorem dX8_arrive_21 : decode cX8_arrive 21 = .ok (.dup, 1) := by decide +kernel
theorem dX8_arrive_22 : decode cX8_arrive 22 = .ok (.invokespecial 70, 3) := by decide +kernel
theorem dX8_arrive_25 : decode cX8_arrive 25 = .ok (.athrow, 1) := by decide +kernel
theorem dX8_arrive_26 : decode cX8_arrive 26 = .ok (.aload_n 0, 1) := by decide +kernel
theorem dX8_arrive_27 : decode cX8_arrive 27 = .ok (.getfield 10, 3) := by decide +kernel
theorem dX8_arrive_30 : decode cX8_arrive 30 = .ok (.getfield 75, 3) := by decide +kernel
theorem dX8_arrive_33 : decode cX8_arrive 33 = .ok (.sipush 300, 3) := by decide +kernel
theorem dX8_arrive_36 : decode cX8_arrive 36 = .ok (.if_icmp .lt 11, 3) := by decide +kernel
theorem dX8_arrive_39 : decode cX8_arrive 39 = .ok (.new 78, 3) := by decide +kernel
theorem dX8_arrive_42 : decode cX8_arrive 42 = .ok (.dup, 1) := by decide +kernel
theorem dX8_arrive_43 : decode cX8_arrive 43 = .ok (.invokespecial 80, 3) := by decide +kernel
theorem dX8_arrive_46 : decode cX8_arrive 46 = .ok (.athrow, 1) := by decide +kernel
theorem dX8_arrive_47 : decode cX8_arrive 47 = .ok (.aload_n 0, 1) := by decide +kernel
theorem dX8_arrive_48 : decode cX8_arrive 48 = .ok (.getfield 10, 3) := by decide +kernel
theorem dX8_arrive_51 : decode cX8_arrive 51 = .ok (.iload_n 1, 1) := by decide +kernel
theorem dX8_arrive_52 : decode cX8_arrive 52 = .ok (.iload_n 2, 1) := by decide +kernel
theorem dX8_arrive_53 : decode cX8_arrive 53 = .ok (.invokevirtual 146, 3) := by decide +kernel
theorem dX8_arrive_56 : decode cX8_arrive 56 = .ok (.ireturn, 1) := by decide +kernel
theorem dX8_pass_0 : decode cX8_pass 0 = .ok (.iload_n 1, 1) := by decide +kernel
theorem dX8_pass_1 : decode cX8_pass 1 = .ok (.invokestatic 149, 3) := by decide +kernel
theorem dX8_pass_4 : decode cX8_pass 4 = .ok (.iconst 0, 1) := by decide +kernel
theorem dX8_pass_5 : decode cX8_pass 5 = .ok (.istore_n 2, 1) := by decide +kernel
theorem dX8_pass_6 : decode cX8_pass 6 = .ok (.iconst 0, 1) := by decide +kernel
theorem dX8_pass_7 : decode cX8_pass 7 = .ok (.istore_n 3, 1) := by decide +kernel
theorem dX8_pass_8 : decode cX8_pass 8 = .ok (.iload_n 3, 1) := by decide +kernel
theorem dX8_pass_9 : decode cX8_pass 9 = .ok (.iload_n 1, 1) := by decide +kernel
theorem dX8_pass_10 : decode cX8_pass 10 = .ok (.if_icmp .ge 16, 3) := by decide +kernel
theorem dX8_pass_13 : decode cX8_pass 13 = .ok (.iload_n 2, 1) := by decide +kernel
theorem dX8_pass_14 : decode cX8_pass 14 = .ok (.aload_n 0, 1) := by decide +kernel
theorem dX8_pass_15 : decode cX8_pass 15 = .ok (.invokevirtual 152, 3) := by decide +kernel
theorem dX8_pass_18 : decode cX8_pass 18 = .ok (.iadd, 1) := by decide +kernel
theorem dX8_pass_19 : decode cX8_pass 19 = .ok (.istore_n 2, 1) := by decide +kernel
theorem dX8_pass_20 : decode cX8_pass 20 = .ok (.iinc 3 1, 3) := by decide +kernel
theorem dX8_pass_23 : decode cX8_pass 23 = .ok (.goto (-15), 3) := by decide +kernel
theorem dX8_pass_26 : decode cX8_pass 26 = .ok (.iload_n 2, 1) := by decide +kernel
theorem dX8_pass_27 : decode cX8_pass 27 = .ok (.ireturn, 1) := by decide +kernel
theorem dX8_tick_0 : decode cX8_tick 0 = .ok (.aload_n 0, 1) := by decide +kernel
theorem dX8_tick_1 : decode cX8_tick 1 = .ok (.getfield 155, 3) := by decide +kernel
theorem dX8_tick_4 : decode cX8_tick 4 = .ok (.lreturn, 1) := by decide +kernel
theorem dX8_stateOf_0 : decode cX8_stateOf 0 = .ok (.aload_n 0, 1) := by decide +kernel
theorem dX8_stateOf_1 : decode cX8_stateOf 1 = .ok (.iload_n 1, 1) := by decide +kernel
theorem dX8_stateOf_2 : decode cX8_stateOf 2 = .ok (.invokevirtual 159, 3) := by decide +kernel
theorem dX8_stateOf_5 : decode cX8_stateOf 5 = .ok (.aload_n 0, 1) := by decide +kernel
theorem dX8_stateOf_6 : decode cX8_stateOf 6 = .ok (.getfield 10, 3) := by decide +kernel
theorem dX8_stateOf_9 : decode cX8_stateOf 9 = .ok (.iload_n 1, 1) := by decide +kernel
theorem dX8_stateOf_10 : decode cX8_stateOf 10 = .ok (.invokevirtual 162, 3) := by decide +kernel
theorem dX8_stateOf_13 : decode cX8_stateOf 13 = .ok (.ireturn, 1) := by decide +kernel
theorem dX8_positionOf_0 : decode cX8_positionOf 0 = .ok (.aload_n 0, 1) := by decide +kernel
theorem dX8_positionOf_1 : decode cX8_positionOf 1 = .ok (.iload_n 1, 1) := by decide +kernel
theorem dX8_positionOf_2 : decode cX8_positionOf 2 = .ok (.invokevirtual 159, 3) := by decide +kernel
theorem dX8_positionOf_5 : decode cX8_positionOf 5 = .ok (.aload_n 0, 1) := by decide +kernel
theorem dX8_positionOf_6 : decode cX8_positionOf 6 = .ok (.getfield 19, 3) := by decide +kernel
theorem dX8_positionOf_9 : decode cX8_positionOf 9 = .ok (.iload_n 1, 1) := by decide +kernel
theorem dX8_positionOf_10 : decode cX8_positionOf 10 = .ok (.invokevirtual 165, 3) := by decide +kernel
theorem dX8_positionOf_13 : decode cX8_positionOf 13 = .ok (.istore_n 2, 1) := by decide +kernel
theorem dX8_positionOf_14 : decode cX8_positionOf 14 = .ok (.iload_n 2, 1) := by decide +kernel
theorem dX8_positionOf_15 : decode cX8_positionOf 15 = .ok (.iconst (-1), 1) := by decide +kernel
theorem dX8_positionOf_16 : decode cX8_positionOf 16 = .ok (.if_icmp .ne 11, 3) := by decide +kernel
theorem dX8_positionOf_19 : decode cX8_positionOf 19 = .ok (.new 78, 3) := by decide +kernel
theorem dX8_positionOf_22 : decode cX8_positionOf 22 = .ok (.dup, 1) := by decide +kernel
theorem dX8_positionOf_23 : decode cX8_positionOf 23 = .ok (.invokespecial 80, 3) := by decide +kernel
theorem dX8_positionOf_26 : decode cX8_positionOf 26 = .ok (.athrow, 1) := by decide +kernel
theorem dX8_positionOf_27 : decode cX8_positionOf 27 = .ok (.iload_n 2, 1) := by decide +kernel
theorem dX8_positionOf_28 : decode cX8_positionOf 28 = .ok (.ireturn, 1) := by decide +kernel
theorem dX8_roundsOf_0 : decode cX8_roundsOf 0 = .ok (.aload_n 0, 1) := by decide +kernel
theorem dX8_roundsOf_1 : decode cX8_roundsOf 1 = .ok (.iload_n 1, 1) := by decide +kernel
theorem dX8_roundsOf_2 : decode cX8_roundsOf 2 = .ok (.invokevirtual 159, 3) := by decide +kernel
theorem dX8_roundsOf_5 : decode cX8_roundsOf 5 = .ok (.aload_n 0, 1) := by decide +kernel
theorem dX8_roundsOf_6 : decode cX8_roundsOf 6 = .ok (.getfield 10, 3) := by decide +kernel
theorem dX8_roundsOf_9 : decode cX8_roundsOf 9 = .ok (.iload_n 1, 1) := by decide +kernel
theorem dX8_roundsOf_10 : decode cX8_roundsOf 10 = .ok (.invokevirtual 162, 3) := by decide +kernel
theorem dX8_roundsOf_13 : decode cX8_roundsOf 13 = .ok (.istore_n 2, 1) := by decide +kernel
theorem dX8_roundsOf_14 : decode cX8_roundsOf 14 = .ok (.iload_n 2, 1) := by decide +kernel
theorem dX8_roundsOf_15 : decode cX8_roundsOf 15 = .ok (.bipush 119, 2) := by decide +kernel
theorem dX8_roundsOf_17 : decode cX8_roundsOf 17 = .ok (.if_icmp .ne 11, 3) := by decide +kernel
theorem dX8_roundsOf_20 : decode cX8_roundsOf 20 = .ok (.new 78, 3) := by decide +kernel
theorem dX8_roundsOf_23 : decode cX8_roundsOf 23 = .ok (.dup, 1) := by decide +kernel
theorem dX8_roundsOf_24 : decode cX8_roundsOf 24 = .ok (.invokespecial 80, 3) := by decide +kernel
theorem dX8_roundsOf_27 : decode cX8_roundsOf 27 = .ok (.athrow, 1) := by decide +kernel
theorem dX8_roundsOf_28 : decode cX8_roundsOf 28 = .ok (.iload_n 2, 1) := by decide +kernel
theorem dX8_roundsOf_29 : decode cX8_roundsOf 29 = .ok (.bipush 108, 2) := by decide +kernel
theorem dX8_roundsOf_31 : decode cX8_roundsOf 31 = .ok (.if_icmp .ne 19, 3) := by decide +kernel
theorem dX8_roundsOf_34 : decode cX8_roundsOf 34 = .ok (.aload_n 0, 1) := by decide +kernel
theorem dX8_roundsOf_35 : decode cX8_roundsOf 35 = .ok (.getfield 19, 3) := by decide +kernel
theorem dX8_roundsOf_38 : decode cX8_roundsOf 38 = .ok (.aload_n 0, 1) := by decide +kernel
theorem dX8_roundsOf_39 : decode cX8_roundsOf 39 = .ok (.getfield 19, 3) := by decide +kernel
theorem dX8_roundsOf_42 : decode cX8_roundsOf 42 = .ok (.iload_n 1, 1) := by decide +kernel
theorem dX8_roundsOf_43 : decode cX8_roundsOf 43 = .ok (.invokevirtual 165, 3) := by decide +kernel
theorem dX8_roundsOf_46 : decode cX8_roundsOf 46 = .ok (.invokevirtual 169, 3) := by decide +kernel
theorem dX8_roundsOf_49 : decode cX8_roundsOf 49 = .ok (.ireturn, 1) := by decide +kernel
theorem dX8_roundsOf_50 : decode cX8_roundsOf 50 = .ok (.aload_n 0, 1) := by decide +kernel
theorem dX8_roundsOf_51 : decode cX8_roundsOf 51 = .ok (.getfield 10, 3) := by decide +kernel
theorem dX8_roundsOf_54 : decode cX8_roundsOf 54 = .ok (.iload_n 1, 1) := by decide +kernel
theorem dX8_roundsOf_55 : decode cX8_roundsOf 55 = .ok (.invokevirtual 172, 3) := by decide +kernel
theorem dX8_roundsOf_58 : decode cX8_roundsOf 58 = .ok (.ireturn, 1) := by decide +kernel
theorem dX8_trayAt_0 : decode cX8_trayAt 0 = .ok (.aload_n 0, 1) := by decide +kernel
theorem dX8_trayAt_1 : decode cX8_trayAt 1 = .ok (.iload_n 1, 1) := by decide +kernel
theorem dX8_trayAt_2 : decode cX8_trayAt 2 = .ok (.invokevirtual 136, 3) := by decide +kernel
theorem dX8_trayAt_5 : decode cX8_trayAt 5 = .ok (.aload_n 0, 1) := by decide +kernel
theorem dX8_trayAt_6 : decode cX8_trayAt 6 = .ok (.getfield 19, 3) := by decide +kernel
theorem dX8_trayAt_9 : decode cX8_trayAt 9 = .ok (.iload_n 1, 1) := by decide +kernel
theorem dX8_trayAt_10 : decode cX8_trayAt 10 = .ok (.invokevirtual 175, 3) := by decide +kernel
theorem dX8_trayAt_13 : decode cX8_trayAt 13 = .ok (.istore_n 2, 1) := by decide +kernel
theorem dX8_trayAt_14 : decode cX8_trayAt 14 = .ok (.iload_n 2, 1) := by decide +kernel
theorem dX8_trayAt_15 : decode cX8_trayAt 15 = .ok (.iconst (-1), 1) := by decide +kernel
theorem dX8_trayAt_16 : decode cX8_trayAt 16 = .ok (.if_icmp .ne 11, 3) := by decide +kernel
theorem dX8_trayAt_19 : decode cX8_trayAt 19 = .ok (.new 178, 3) := by decide +kernel
theorem dX8_trayAt_22 : decode cX8_trayAt 22 = .ok (.dup, 1) := by decide +kernel
theorem dX8_trayAt_23 : decode cX8_trayAt 23 = .ok (.invokespecial 180, 3) := by decide +kernel
theorem dX8_trayAt_26 : decode cX8_trayAt 26 = .ok (.athrow, 1) := by decide +kernel
theorem dX8_trayAt_27 : decode cX8_trayAt 27 = .ok (.iload_n 2, 1) := by decide +kernel
theorem dX8_trayAt_28 : decode cX8_trayAt 28 = .ok (.ireturn, 1) := by decide +kernel
theorem dX8_waiting_0 : decode cX8_waiting 0 = .ok (.aload_n 0, 1) := by decide +kernel
theorem dX8_waiting_1 : decode cX8_waiting 1 = .ok (.getfield 10, 3) := by decide +kernel
theorem dX8_waiting_4 : decode cX8_waiting 4 = .ok (.getfield 75, 3) := by decide +kernel
theorem dX8_waiting_7 : decode cX8_waiting 7 = .ok (.aload_n 0, 1) := by decide +kernel
theorem dX8_waiting_8 : decode cX8_waiting 8 = .ok (.getfield 10, 3) := by decide +kernel
theorem dX8_waiting_11 : decode cX8_waiting 11 = .ok (.getfield 181, 3) := by decide +kernel
theorem dX8_waiting_14 : decode cX8_waiting 14 = .ok (.isub, 1) := by decide +kernel
theorem dX8_waiting_15 : decode cX8_waiting 15 = .ok (.ireturn, 1) := by decide +kernel
theorem dX8_onLoop_0 : decode cX8_onLoop 0 = .ok (.aload_n 0, 1) := by decide +kernel
theorem dX8_onLoop_1 : decode cX8_onLoop 1 = .ok (.getfield 10, 3) := by decide +kernel
theorem dX8_onLoop_4 : decode cX8_onLoop 4 = .ok (.getfield 181, 3) := by decide +kernel
theorem dX8_onLoop_7 : decode cX8_onLoop 7 = .ok (.aload_n 0, 1) := by decide +kernel
theorem dX8_onLoop_8 : decode cX8_onLoop 8 = .ok (.getfield 10, 3) := by decide +kernel
theorem dX8_onLoop_11 : decode cX8_onLoop 11 = .ok (.getfield 184, 3) := by decide +kernel
theorem dX8_onLoop_14 : decode cX8_onLoop 14 = .ok (.isub, 1) := by decide +kernel
theorem dX8_onLoop_15 : decode cX8_onLoop 15 = .ok (.ireturn, 1) := by decide +kernel
theorem dX8_overflowed_0 : decode cX8_overflowed 0 = .ok (.aload_n 0, 1) := by decide +kernel
theorem dX8_overflowed_1 : decode cX8_overflowed 1 = .ok (.getfield 53, 3) := by decide +kernel
theorem dX8_overflowed_4 : decode cX8_overflowed 4 = .ok (.getfield 113, 3) := by decide +kernel
theorem dX8_overflowed_7 : decode cX8_overflowed 7 = .ok (.ireturn, 1) := by decide +kernel
theorem dX8_leavingAhead_0 : decode cX8_leavingAhead 0 = .ok (.iload_n 1, 1) := by decide +kernel
theorem dX8_leavingAhead_1 : decode cX8_leavingAhead 1 = .ok (.invokestatic 149, 3) := by decide +kernel
theorem dX8_leavingAhead_4 : decode cX8_leavingAhead 4 = .ok (.aload_n 0, 1) := by decide +kernel
theorem dX8_leavingAhead_5 : decode cX8_leavingAhead 5 = .ok (.getfield 44, 3) := by decide +kernel
theorem dX8_leavingAhead_8 : decode cX8_leavingAhead 8 = .ok (.iload_n 1, 1) := by decide +kernel
theorem dX8_leavingAhead_9 : decode cX8_leavingAhead 9 = .ok (.invokevirtual 187, 3) := by decide +kernel
theorem dX8_leavingAhead_12 : decode cX8_leavingAhead 12 = .ok (.ireturn, 1) := by decide +kernel
theorem dX8_leavingByTrays_0 : decode cX8_leavingByTrays 0 = .ok (.iload_n 1, 1) := by decide +kernel
theorem dX8_leavingByTrays_1 : decode cX8_leavingByTrays 1 = .ok (.invokestatic 149, 3) := by decide +kernel
theorem dX8_leavingByTrays_4 : decode cX8_leavingByTrays 4 = .ok (.aload_n 0, 1) := by decide +kernel
theorem dX8_leavingByTrays_5 : decode cX8_leavingByTrays 5 = .ok (.getfield 44, 3) := by decide +kernel
theorem dX8_leavingByTrays_8 : decode cX8_leavingByTrays 8 = .ok (.iload_n 1, 1) := by decide +kernel
theorem dX8_leavingByTrays_9 : decode cX8_leavingByTrays 9 = .ok (.invokevirtual 190, 3) := by decide +kernel
theorem dX8_leavingByTrays_12 : decode cX8_leavingByTrays 12 = .ok (.ireturn, 1) := by decide +kernel
theorem dX8_assign_0 : decode cX8_assign 0 = .ok (.iload_n 1, 1) := by decide +kernel
theorem dX8_assign_1 : decode cX8_assign 1 = .ok (.invokestatic 200, 3) := by decide +kernel
theorem dX8_assign_4 : decode cX8_assign 4 = .ok (.aload_n 0, 1) := by decide +kernel
theorem dX8_assign_5 : decode cX8_assign 5 = .ok (.iload_n 2, 1) := by decide +kernel
theorem dX8_assign_6 : decode cX8_assign 6 = .ok (.invokevirtual 105, 3) := by decide +kernel
theorem dX8_assign_9 : decode cX8_assign 9 = .ok (.pop, 1) := by decide +kernel
theorem dX8_assign_10 : decode cX8_assign 10 = .ok (.aload_n 0, 1) := by decide +kernel
theorem dX8_assign_11 : decode cX8_assign 11 = .ok (.getfield 26, 3) := by decide +kernel
theorem dX8_assign_14 : decode cX8_assign 14 = .ok (.iload_n 1, 1) := by decide +kernel
theorem dX8_assign_15 : decode cX8_assign 15 = .ok (.invokevirtual 203, 3) := by decide +kernel
theorem dX8_assign_18 : decode cX8_assign 18 = .ok (.istore_n 3, 1) := by decide +kernel
theorem dX8_assign_19 : decode cX8_assign 19 = .ok (.aload_n 0, 1) := by decide +kernel
theorem dX8_assign_20 : decode cX8_assign 20 = .ok (.getfield 26, 3) := by decide +kernel
theorem dX8_assign_23 : decode cX8_assign 23 = .ok (.iload_n 1, 1) := by decide +kernel
theorem dX8_assign_24 : decode cX8_assign 24 = .ok (.iload_n 2, 1) := by decide +kernel
theorem dX8_assign_25 : decode cX8_assign 25 = .ok (.invokevirtual 206, 3) := by decide +kernel
theorem dX8_assign_28 : decode cX8_assign 28 = .ok (.iload_n 3, 1) := by decide +kernel
theorem dX8_assign_29 : decode cX8_assign 29 = .ok (.ireturn, 1) := by decide +kernel
theorem dX8_unassign_0 : decode cX8_unassign 0 = .ok (.iload_n 1, 1) := by decide +kernel
theorem dX8_unassign_1 : decode cX8_unassign 1 = .ok (.invokestatic 200, 3) := by decide +kernel
theorem dX8_unassign_4 : decode cX8_unassign 4 = .ok (.aload_n 0, 1) := by decide +kernel
theorem dX8_unassign_5 : decode cX8_unassign 5 = .ok (.getfield 26, 3) := by decide +kernel
theorem dX8_unassign_8 : decode cX8_unassign 8 = .ok (.iload_n 1, 1) := by decide +kernel
theorem dX8_unassign_9 : decode cX8_unassign 9 = .ok (.invokevirtual 203, 3) := by decide +kernel
theorem dX8_unassign_12 : decode cX8_unassign 12 = .ok (.istore_n 2, 1) := by decide +kernel
theorem dX8_unassign_13 : decode cX8_unassign 13 = .ok (.iload_n 2, 1) := by decide +kernel
theorem dX8_unassign_14 : decode cX8_unassign 14 = .ok (.iconst (-1), 1) := by decide +kernel
theorem dX8_unassign_15 : decode cX8_unassign 15 = .ok (.if_icmp .ne 11, 3) := by decide +kernel
theorem dX8_unassign_18 : decode cX8_unassign 18 = .ok (.new 78, 3) := by decide +kernel
theorem dX8_unassign_21 : decode cX8_unassign 21 = .ok (.dup, 1) := by decide +kernel
theorem dX8_unassign_22 : decode cX8_unassign 22 = .ok (.invokespecial 80, 3) := by decide +kernel
theorem dX8_unassign_25 : decode cX8_unassign 25 = .ok (.athrow, 1) := by decide +kernel
theorem dX8_unassign_26 : decode cX8_unassign 26 = .ok (.aload_n 0, 1) := by decide +kernel
theorem dX8_unassign_27 : decode cX8_unassign 27 = .ok (.getfield 26, 3) := by decide +kernel
theorem dX8_unassign_30 : decode cX8_unassign 30 = .ok (.iload_n 1, 1) := by decide +kernel
theorem dX8_unassign_31 : decode cX8_unassign 31 = .ok (.iconst (-1), 1) := by decide +kernel
theorem dX8_unassign_32 : decode cX8_unassign 32 = .ok (.invokevirtual 206, 3) := by decide +kernel
theorem dX8_unassign_35 : decode cX8_unassign 35 = .ok (.iload_n 2, 1) := by decide +kernel
theorem dX8_unassign_36 : decode cX8_unassign 36 = .ok (.ireturn, 1) := by decide +kernel
theorem dX8_chuteFor_0 : decode cX8_chuteFor 0 = .ok (.iload_n 1, 1) := by decide +kernel
theorem dX8_chuteFor_1 : decode cX8_chuteFor 1 = .ok (.invokestatic 200, 3) := by decide +kernel
theorem dX8_chuteFor_4 : decode cX8_chuteFor 4 = .ok (.aload_n 0, 1) := by decide +kernel
theorem dX8_chuteFor_5 : decode cX8_chuteFor 5 = .ok (.getfield 26, 3) := by decide +kernel
theorem dX8_chuteFor_8 : decode cX8_chuteFor 8 = .ok (.iload_n 1, 1) := by decide +kernel
theorem dX8_chuteFor_9 : decode cX8_chuteFor 9 = .ok (.invokevirtual 203, 3) := by decide +kernel
theorem dX8_chuteFor_12 : decode cX8_chuteFor 12 = .ok (.istore_n 2, 1) := by decide +kernel
theorem dX8_chuteFor_13 : decode cX8_chuteFor 13 = .ok (.iload_n 2, 1) := by decide +kernel
theorem dX8_chuteFor_14 : decode cX8_chuteFor 14 = .ok (.iconst (-1), 1) := by decide +kernel
theorem dX8_chuteFor_15 : decode cX8_chuteFor 15 = .ok (.if_icmp .ne 11, 3) := by decide +kernel
theorem dX8_chuteFor_18 : decode cX8_chuteFor 18 = .ok (.new 178, 3) := by decide +kernel
theorem dX8_chuteFor_21 : decode cX8_chuteFor 21 = .ok (.dup, 1) := by decide +kernel
theorem dX8_chuteFor_22 : decode cX8_chuteFor 22 = .ok (.invokespecial 180, 3) := by decide +kernel
theorem dX8_chuteFor_25 : decode cX8_chuteFor 25 = .ok (.athrow, 1) := by decide +kernel
theorem dX8_chuteFor_26 : decode cX8_chuteFor 26 = .ok (.iload_n 2, 1) := by decide +kernel
theorem dX8_chuteFor_27 : decode cX8_chuteFor 27 = .ok (.ireturn, 1) := by decide +kernel
theorem dX8_load_0 : decode cX8_load 0 = .ok (.iload_n 1, 1) := by decide +kernel
theorem dX8_load_1 : decode cX8_load 1 = .ok (.invokestatic 200, 3) := by decide +kernel
theorem dX8_load_4 : decode cX8_load 4 = .ok (.aload_n 0, 1) := by decide +kernel
theorem dX8_load_5 : decode cX8_load 5 = .ok (.getfield 10, 3) := by decide +kernel
theorem dX8_load_8 : decode cX8_load 8 = .ok (.iload_n 1, 1) := by decide +kernel
theorem dX8_load_9 : decode cX8_load 9 = .ok (.invokevirtual 210, 3) := by decide +kernel
theorem dX8_load_12 : decode cX8_load 12 = .ok (.ireturn, 1) := by decide +kernel
theorem dX8_inChute_0 : decode cX8_inChute 0 = .ok (.aload_n 0, 1) := by decide +kernel
theorem dX8_inChute_1 : decode cX8_inChute 1 = .ok (.iload_n 1, 1) := by decide +kernel
theorem dX8_inChute_2 : decode cX8_inChute 2 = .ok (.invokevirtual 105, 3) := by decide +kernel
theorem dX8_inChute_5 : decode cX8_inChute 5 = .ok (.getfield 108, 3) := by decide +kernel
theorem dX8_inChute_8 : decode cX8_inChute 8 = .ok (.getfield 113, 3) := by decide +kernel
theorem dX8_inChute_11 : decode cX8_inChute 11 = .ok (.ireturn, 1) := by decide +kernel
theorem dX8_seal_0 : decode cX8_seal 0 = .ok (.aload_n 0, 1) := by decide +kernel
theorem dX8_seal_1 : decode cX8_seal 1 = .ok (.iload_n 1, 1) := by decide +kernel
theorem dX8_seal_2 : decode cX8_seal 2 = .ok (.invokevirtual 105, 3) := by decide +kernel
theorem dX8_seal_5 : decode cX8_seal 5 = .ok (.invokevirtual 213, 3) := by decide +kernel
theorem dX8_seal_8 : decode cX8_seal 8 = .ok (.ireturn, 1) := by decide +kernel
theorem dX8_sealByParcels_0 : decode cX8_sealByParcels 0 = .ok (.aload_n 0, 1) := by decide +kernel
theorem dX8_sealByParcels_1 : decode cX8_sealByParcels 1 = .ok (.iload_n 1, 1) := by decide +kernel
theorem dX8_sealByParcels_2 : decode cX8_sealByParcels 2 = .ok (.invokevirtual 105, 3) := by decide +kernel
theorem dX8_sealByParcels_5 : decode cX8_sealByParcels 5 = .ok (.invokevirtual 216, 3) := by decide +kernel
theorem dX8_sealByParcels_8 : decode cX8_sealByParcels 8 = .ok (.ireturn, 1) := by decide +kernel
theorem dX8_dispatch_0 : decode cX8_dispatch 0 = .ok (.aload_n 0, 1) := by decide +kernel
theorem dX8_dispatch_1 : decode cX8_dispatch 1 = .ok (.iload_n 1, 1) := by decide +kernel
theorem dX8_dispatch_2 : decode cX8_dispatch 2 = .ok (.invokevirtual 105, 3) := by decide +kernel
theorem dX8_dispatch_5 : decode cX8_dispatch 5 = .ok (.astore_n 2, 1) := by decide +kernel
theorem dX8_dispatch_6 : decode cX8_dispatch 6 = .ok (.aload_n 2, 1) := by decide +kernel
theorem dX8_dispatch_7 : decode cX8_dispatch 7 = .ok (.getfield 108, 3) := by decide +kernel
theorem dX8_dispatch_10 : decode cX8_dispatch 10 = .ok (.getfield 113, 3) := by decide +kernel
theorem dX8_dispatch_13 : decode cX8_dispatch 13 = .ok (.ifCond .ne 11, 3) := by decide +kernel
theorem dX8_dispatch_16 : decode cX8_dispatch 16 = .ok (.new 78, 3) := by decide +kernel
theorem dX8_dispatch_19 : decode cX8_dispatch 19 = .ok (.dup, 1) := by decide +kernel
theorem dX8_dispatch_20 : decode cX8_dispatch 20 = .ok (.invokespecial 80, 3) := by decide +kernel
theorem dX8_dispatch_23 : decode cX8_dispatch 23 = .ok (.athrow, 1) := by decide +kernel
theorem dX8_dispatch_24 : decode cX8_dispatch 24 = .ok (.aload_n 2, 1) := by decide +kernel
theorem dX8_dispatch_25 : decode cX8_dispatch 25 = .ok (.invokevirtual 213, 3) := by decide +kernel
theorem dX8_dispatch_28 : decode cX8_dispatch 28 = .ok (.istore_n 3, 1) := by decide +kernel
theorem dX8_dispatch_29 : decode cX8_dispatch 29 = .ok (.aload_n 0, 1) := by decide +kernel
theorem dX8_dispatch_30 : decode cX8_dispatch 30 = .ok (.getfield 60, 3) := by decide +kernel
theorem dX8_dispatch_33 : decode cX8_dispatch 33 = .ok (.aload_n 2, 1) := by decide +kernel
theorem dX8_dispatch_34 : decode cX8_dispatch 34 = .ok (.getfield 108, 3) := by decide +kernel
theorem dX8_dispatch_37 : decode cX8_dispatch 37 = .ok (.invokevirtual 219, 3) := by decide +kernel
theorem dX8_dispatch_40 : decode cX8_dispatch 40 = .ok (.istore 4, 2) := by decide +kernel
theorem dX8_dispatch_42 : decode cX8_dispatch 42 = .ok (.iconst 0, 1) := by decide +kernel
theorem dX8_dispatch_43 : decode cX8_dispatch 43 = .ok (.istore 5, 2) := by decide +kernel
theorem dX8_dispatch_45 : decode cX8_dispatch 45 = .ok (.iload 5, 2) := by decide +kernel
theorem dX8_dispatch_47 : decode cX8_dispatch 47 = .ok (.aload_n 2, 1) := by decide +kernel
theorem dX8_dispatch_48 : decode cX8_dispatch 48 = .ok (.getfield 108, 3) := by decide +kernel
theorem dX8_dispatch_51 : decode cX8_dispatch 51 = .ok (.getfield 113, 3) := by decide +kernel
theorem dX8_dispatch_54 : decode cX8_dispatch 54 = .ok (.if_icmp .ge 27, 3) := by decide +kernel
theorem dX8_dispatch_57 : decode cX8_dispatch 57 = .ok (.aload_n 0, 1) := by decide +kernel
theorem dX8_dispatch_58 : decode cX8_dispatch 58 = .ok (.getfield 10, 3) := by decide +kernel
theorem dX8_dispatch_61 : decode cX8_dispatch 61 = .ok (.aload_n 2, 1) := by decide +kernel
theorem dX8_dispatch_62 : decode cX8_dispatch 62 = .ok (.getfield 108, 3) := by decide +kernel
theorem dX8_dispatch_65 : decode cX8_dispatch 65 = .ok (.iload 5, 2) := by decide +kernel
theorem dX8_dispatch_67 : decode cX8_dispatch 67 = .ok (.invokevirtual 223, 3) := by decide +kernel
theorem dX8_dispatch_70 : decode cX8_dispatch 70 = .ok (.iload 4, 2) := by decide +kernel
theorem dX8_dispatch_72 : decode cX8_dispatch 72 = .ok (.invokevirtual 226, 3) := by decide +kernel
theorem dX8_dispatch_75 : decode cX8_dispatch 75 = .ok (.iinc 5 1, 3) := by decide +kernel
theorem dX8_dispatch_78 : decode cX8_dispatch 78 = .ok (.goto (-33), 3) := by decide +kernel
theorem dX8_dispatch_81 : decode cX8_dispatch 81 = .ok (.aload_n 2, 1) := by decide +kernel
theorem dX8_dispatch_82 : decode cX8_dispatch 82 = .ok (.invokevirtual 229, 3) := by decide +kernel
theorem dX8_dispatch_85 : decode cX8_dispatch 85 = .ok (.iload_n 3, 1) := by decide +kernel
theorem dX8_dispatch_86 : decode cX8_dispatch 86 = .ok (.ireturn, 1) := by decide +kernel
theorem dX8_trucks_0 : decode cX8_trucks 0 = .ok (.aload_n 0, 1) := by decide +kernel
theorem dX8_trucks_1 : decode cX8_trucks 1 = .ok (.getfield 60, 3) := by decide +kernel
theorem dX8_trucks_4 : decode cX8_trucks 4 = .ok (.getfield 232, 3) := by decide +kernel
theorem dX8_trucks_7 : decode cX8_trucks 7 = .ok (.ireturn, 1) := by decide +kernel
theorem dX8_sealOfTruck_0 : decode cX8_sealOfTruck 0 = .ok (.aload_n 0, 1) := by decide +kernel
theorem dX8_sealOfTruck_1 : decode cX8_sealOfTruck 1 = .ok (.iload_n 1, 1) := by decide +kernel
theorem dX8_sealOfTruck_2 : decode cX8_sealOfTruck 2 = .ok (.invokevirtual 233, 3) := by decide +kernel
theorem dX8_sealOfTruck_5 : decode cX8_sealOfTruck 5 = .ok (.aload_n 0, 1) := by decide +kernel
theorem dX8_sealOfTruck_6 : decode cX8_sealOfTruck 6 = .ok (.getfield 60, 3) := by decide +kernel
theorem dX8_sealOfTruck_9 : decode cX8_sealOfTruck 9 = .ok (.iload_n 1, 1) := by decide +kernel
theorem dX8_sealOfTruck_10 : decode cX8_sealOfTruck 10 = .ok (.invokevirtual 236, 3) := by decide +kernel
theorem dX8_sealOfTruck_13 : decode cX8_sealOfTruck 13 = .ok (.ireturn, 1) := by decide +kernel
theorem dX8_parcelIn_0 : decode cX8_parcelIn 0 = .ok (.aload_n 0, 1) := by decide +kernel
theorem dX8_parcelIn_1 : decode cX8_parcelIn 1 = .ok (.iload_n 1, 1) := by decide +kernel
theorem dX8_parcelIn_2 : decode cX8_parcelIn 2 = .ok (.invokevirtual 233, 3) := by decide +kernel
theorem dX8_parcelIn_5 : decode cX8_parcelIn 5 = .ok (.iload_n 2, 1) := by decide +kernel
theorem dX8_parcelIn_6 : decode cX8_parcelIn 6 = .ok (.ifCond .lt 15, 3) := by decide +kernel
theorem dX8_parcelIn_9 : decode cX8_parcelIn 9 = .ok (.iload_n 2, 1) := by decide +kernel
theorem dX8_parcelIn_10 : decode cX8_parcelIn 10 = .ok (.aload_n 0, 1) := by decide +kernel
theorem dX8_parcelIn_11 : decode cX8_parcelIn 11 = .ok (.getfield 60, 3) := by decide +kernel
theorem dX8_parcelIn_14 : decode cX8_parcelIn 14 = .ok (.iload_n 1, 1) := by decide +kernel
theorem dX8_parcelIn_15 : decode cX8_parcelIn 15 = .ok (.invokevirtual 239, 3) := by decide +kernel
theorem dX8_parcelIn_18 : decode cX8_parcelIn 18 = .ok (.if_icmp .lt 11, 3) := by decide +kernel
theorem dX8_parcelIn_21 : decode cX8_parcelIn 21 = .ok (.new 178, 3) := by decide +kernel
theorem dX8_parcelIn_24 : decode cX8_parcelIn 24 = .ok (.dup, 1) := by decide +kernel
theorem dX8_parcelIn_25 : decode cX8_parcelIn 25 = .ok (.invokespecial 180, 3) := by decide +kernel
theorem dX8_parcelIn_28 : decode cX8_parcelIn 28 = .ok (.athrow, 1) := by decide +kernel
theorem dX8_parcelIn_29 : decode cX8_parcelIn 29 = .ok (.aload_n 0, 1) := by decide +kernel
theorem dX8_parcelIn_30 : decode cX8_parcelIn 30 = .ok (.getfield 60, 3) := by decide +kernel
theorem dX8_parcelIn_33 : decode cX8_parcelIn 33 = .ok (.iload_n 1, 1) := by decide +kernel
theorem dX8_parcelIn_34 : decode cX8_parcelIn 34 = .ok (.iload_n 2, 1) := by decide +kernel
theorem dX8_parcelIn_35 : decode cX8_parcelIn 35 = .ok (.invokevirtual 242, 3) := by decide +kernel
theorem dX8_parcelIn_38 : decode cX8_parcelIn 38 = .ok (.ireturn, 1) := by decide +kernel
theorem dX8_truckOf_0 : decode cX8_truckOf 0 = .ok (.aload_n 0, 1) := by decide +kernel
theorem dX8_truckOf_1 : decode cX8_truckOf 1 = .ok (.iload_n 1, 1) := by decide +kernel
theorem dX8_truckOf_2 : decode cX8_truckOf 2 = .ok (.invokevirtual 159, 3) := by decide +kernel
theorem dX8_truckOf_5 : decode cX8_truckOf 5 = .ok (.aload_n 0, 1) := by decide +kernel
theorem dX8_truckOf_6 : decode cX8_truckOf 6 = .ok (.getfield 10, 3) := by decide +kernel
theorem dX8_truckOf_9 : decode cX8_truckOf 9 = .ok (.iload_n 1, 1) := by decide +kernel
theorem dX8_truckOf_10 : decode cX8_truckOf 10 = .ok (.invokevirtual 162, 3) := by decide +kernel
theorem dX8_truckOf_13 : decode cX8_truckOf 13 = .ok (.bipush 116, 2) := by decide +kernel
theorem dX8_truckOf_15 : decode cX8_truckOf 15 = .ok (.if_icmp .eq 11, 3) := by decide +kernel
theorem dX8_truckOf_18 : decode cX8_truckOf 18 = .ok (.new 78, 3) := by decide +kernel
theorem dX8_truckOf_21 : decode cX8_truckOf 21 = .ok (.dup, 1) := by decide +kernel
theorem dX8_truckOf_22 : decode cX8_truckOf 22 = .ok (.invokespecial 80, 3) := by decide +kernel
theorem dX8_truckOf_25 : decode cX8_truckOf 25 = .ok (.athrow, 1) := by decide +kernel
theorem dX8_truckOf_26 : decode cX8_truckOf 26 = .ok (.aload_n 0, 1) := by decide +kernel
theorem dX8_truckOf_27 : decode cX8_truckOf 27 = .ok (.getfield 10, 3) := by decide +kernel
theorem dX8_truckOf_30 : decode cX8_truckOf 30 = .ok (.iload_n 1, 1) := by decide +kernel
theorem dX8_truckOf_31 : decode cX8_truckOf 31 = .ok (.invokevirtual 244, 3) := by decide +kernel
theorem dX8_truckOf_34 : decode cX8_truckOf 34 = .ok (.ireturn, 1) := by decide +kernel
theorem dX8_shipped_0 : decode cX8_shipped 0 = .ok (.aload_n 0, 1) := by decide +kernel
theorem dX8_shipped_1 : decode cX8_shipped 1 = .ok (.getfield 10, 3) := by decide +kernel
theorem dX8_shipped_4 : decode cX8_shipped 4 = .ok (.getfield 247, 3) := by decide +kernel
theorem dX8_shipped_7 : decode cX8_shipped 7 = .ok (.lreturn, 1) := by decide +kernel
theorem dX8_meanRounds_0 : decode cX8_meanRounds 0 = .ok (.aload_n 0, 1) := by decide +kernel
theorem dX8_meanRounds_1 : decode cX8_meanRounds 1 = .ok (.invokevirtual 250, 3) := by decide +kernel
theorem dX8_meanRounds_4 : decode cX8_meanRounds 4 = .ok (.aload_n 0, 1) := by decide +kernel
theorem dX8_meanRounds_5 : decode cX8_meanRounds 5 = .ok (.getfield 10, 3) := by decide +kernel
theorem dX8_meanRounds_8 : decode cX8_meanRounds 8 = .ok (.getfield 253, 3) := by decide +kernel
theorem dX8_meanRounds_11 : decode cX8_meanRounds 11 = .ok (.l2d, 1) := by decide +kernel
theorem dX8_meanRounds_12 : decode cX8_meanRounds 12 = .ok (.aload_n 0, 1) := by decide +kernel
theorem dX8_meanRounds_13 : decode cX8_meanRounds 13 = .ok (.getfield 10, 3) := by decide +kernel
theorem dX8_meanRounds_16 : decode cX8_meanRounds 16 = .ok (.getfield 184, 3) := by decide +kernel
theorem dX8_meanRounds_19 : decode cX8_meanRounds 19 = .ok (.i2d, 1) := by decide +kernel
theorem dX8_meanRounds_20 : decode cX8_meanRounds 20 = .ok (.ddiv, 1) := by decide +kernel
theorem dX8_meanRounds_21 : decode cX8_meanRounds 21 = .ok (.dreturn, 1) := by decide +kernel
theorem dX8_overflowShare_0 : decode cX8_overflowShare 0 = .ok (.aload_n 0, 1) := by decide +kernel
theorem dX8_overflowShare_1 : decode cX8_overflowShare 1 = .ok (.invokevirtual 250, 3) := by decide +kernel
theorem dX8_overflowShare_4 : decode cX8_overflowShare 4 = .ok (.aload_n 0, 1) := by decide +kernel
theorem dX8_overflowShare_5 : decode cX8_overflowShare 5 = .ok (.getfield 53, 3) := by decide +kernel
theorem dX8_overflowShare_8 : decode cX8_overflowShare 8 = .ok (.getfield 113, 3) := by decide +kernel
theorem dX8_overflowShare_11 : decode cX8_overflowShare 11 = .ok (.i2f, 1) := by decide +kernel
theorem dX8_overflowShare_12 : decode cX8_overflowShare 12 = .ok (.aload_n 0, 1) := by decide +kernel
theorem dX8_overflowShare_13 : decode cX8_overflowShare 13 = .ok (.getfield 10, 3) := by decide +kernel
theorem dX8_overflowShare_16 : decode cX8_overflowShare 16 = .ok (.getfield 184, 3) := by decide +kernel
theorem dX8_overflowShare_19 : decode cX8_overflowShare 19 = .ok (.i2f, 1) := by decide +kernel
theorem dX8_overflowShare_20 : decode cX8_overflowShare 20 = .ok (.fdiv, 1) := by decide +kernel
theorem dX8_overflowShare_21 : decode cX8_overflowShare 21 = .ok (.freturn, 1) := by decide +kernel
theorem dX8_isOnce_0 : decode cX8_isOnce 0 = .ok (.aload_n 0, 1) := by decide +kernel
theorem dX8_isOnce_1 : decode cX8_isOnce 1 = .ok (.invokevirtual 256, 3) := by decide +kernel
theorem dX8_isOnce_4 : decode cX8_isOnce 4 = .ok (.ifCond .eq 38, 3) := by decide +kernel
theorem dX8_isOnce_7 : decode cX8_isOnce 7 = .ok (.aload_n 0, 1) := by decide +kernel
theorem dX8_isOnce_8 : decode cX8_isOnce 8 = .ok (.getfield 26, 3) := by decide +kernel
theorem dX8_isOnce_11 : decode cX8_isOnce 11 = .ok (.invokevirtual 259, 3) := by decide +kernel
theorem dX8_isOnce_14 : decode cX8_isOnce 14 = .ok (.ifCond .eq 28, 3) := by decide +kernel
theorem dX8_isOnce_17 : decode cX8_isOnce 17 = .ok (.aload_n 0, 1) := by decide +kernel
theorem dX8_isOnce_18 : decode cX8_isOnce 18 = .ok (.getfield 44, 3) := by decide +kernel
theorem dX8_isOnce_21 : decode cX8_isOnce 21 = .ok (.bipush 60, 2) := by decide +kernel
theorem dX8_isOnce_23 : decode cX8_isOnce 23 = .ok (.invokevirtual 187, 3) := by decide +kernel
theorem dX8_isOnce_26 : decode cX8_isOnce 26 = .ok (.aload_n 0, 1) := by decide +kernel
theorem dX8_isOnce_27 : decode cX8_isOnce 27 = .ok (.getfield 44, 3) := by decide +kernel
theorem dX8_isOnce_30 : decode cX8_isOnce 30 = .ok (.bipush 60, 2) := by decide +kernel
theorem dX8_isOnce_32 : decode cX8_isOnce 32 = .ok (.invokevirtual 190, 3) := by decide +kernel
theorem dX8_isOnce_35 : decode cX8_isOnce 35 = .ok (.if_icmp .ne 7, 3) := by decide +kernel
theorem dX8_isOnce_38 : decode cX8_isOnce 38 = .ok (.iconst 1, 1) := by decide +kernel
theorem dX8_isOnce_39 : decode cX8_isOnce 39 = .ok (.goto 4, 3) := by decide +kernel
theorem dX8_isOnce_42 : decode cX8_isOnce 42 = .ok (.iconst 0, 1) := by decide +kernel
theorem dX8_isOnce_43 : decode cX8_isOnce 43 = .ok (.ireturn, 1) := by decide +kernel
theorem dX8_isCapacity_0 : decode cX8_isCapacity 0 = .ok (.iload_n 0, 1) := by decide +kernel
theorem dX8_isCapacity_1 : decode cX8_isCapacity 1 = .ok (.iconst 1, 1) := by decide +kernel
theorem dX8_isCapacity_2 : decode cX8_isCapacity 2 = .ok (.if_icmp .lt 13, 3) := by decide +kernel
theorem dX8_isCapacity_5 : decode cX8_isCapacity 5 = .ok (.iload_n 0, 1) := by decide +kernel
theorem dX8_isCapacity_6 : decode cX8_isCapacity 6 = .ok (.bipush 30, 2) := by decide +kernel
theorem dX8_isCapacity_8 : decode cX8_isCapacity 8 = .ok (.if_icmp .gt 7, 3) := by decide +kernel
theorem dX8_isCapacity_11 : decode cX8_isCapacity 11 = .ok (.iconst 1, 1) := by decide +kernel
theorem dX8_isCapacity_12 : decode cX8_isCapacity 12 = .ok (.goto 4, 3) := by decide +kernel
theorem dX8_isCapacity_15 : decode cX8_isCapacity 15 = .ok (.iconst 0, 1) := by decide +kernel
theorem dX8_isCapacity_16 : decode cX8_isCapacity 16 = .ok (.ireturn, 1) := by decide +kernel
theorem dX8_isRoute_0 : decode cX8_isRoute 0 = .ok (.iload_n 0, 1) := by decide +kernel
theorem dX8_isRoute_1 : decode cX8_isRoute 1 = .ok (.ifCond .lt 13, 3) := by decide +kernel
theorem dX8_isRoute_4 : decode cX8_isRoute 4 = .ok (.iload_n 0, 1) := by decide +kernel
theorem dX8_isRoute_5 : decode cX8_isRoute 5 = .ok (.bipush 8, 2) := by decide +kernel
theorem dX8_isRoute_7 : decode cX8_isRoute 7 = .ok (.if_icmp .ge 7, 3) := by decide +kernel
theorem dX8_isRoute_10 : decode cX8_isRoute 10 = .ok (.iconst 1, 1) := by decide +kernel
theorem dX8_isRoute_11 : decode cX8_isRoute 11 = .ok (.goto 4, 3) := by decide +kernel
theorem dX8_isRoute_14 : decode cX8_isRoute 14 = .ok (.iconst 0, 1) := by decide +kernel
theorem dX8_isRoute_15 : decode cX8_isRoute 15 = .ok (.ireturn, 1) := by decide +kernel
theorem dX8_requireRoute_0 : decode cX8_requireRoute 0 = .ok (.iload_n 0, 1) := by decide +kernel
theorem dX8_requireRoute_1 : decode cX8_requireRoute 1 = .ok (.invokestatic 143, 3) := by decide +kernel
theorem dX8_requireRoute_4 : decode cX8_requireRoute 4 = .ok (.ifCond .ne 11, 3) := by decide +kernel
theorem dX8_requireRoute_7 : decode cX8_requireRoute 7 = .ok (.new 68, 3) := by decide +kernel
theorem dX8_requireRoute_10 : decode cX8_requireRoute 10 = .ok (.dup, 1) := by decide +kernel
theorem dX8_requireRoute_11 : decode cX8_requireRoute 11 = .ok (.invokespecial 70, 3) := by decide +kernel
theorem dX8_requireRoute_14 : decode cX8_requireRoute 14 = .ok (.athrow, 1) := by decide +kernel
theorem dX8_requireRoute_15 : decode cX8_requireRoute 15 = .ok (.return_, 1) := by decide +kernel
theorem dX8_requireTicks_0 : decode cX8_requireTicks 0 = .ok (.iload_n 0, 1) := by decide +kernel
theorem dX8_requireTicks_1 : decode cX8_requireTicks 1 = .ok (.iconst 1, 1) := by decide +kernel
theorem dX8_requireTicks_2 : decode cX8_requireTicks 2 = .ok (.if_icmp .lt 10, 3) := by decide +kernel
theorem dX8_requireTicks_5 : decode cX8_requireTicks 5 = .ok (.iload_n 0, 1) := by decide +kernel
theorem dX8_requireTicks_6 : decode cX8_requireTicks 6 = .ok (.sipush 200, 3) := by decide +kernel
theorem dX8_requireTicks_9 : decode cX8_requireTicks 9 = .ok (.if_icmp .le 11, 3) := by decide +kernel
theorem dX8_requireTicks_12 : decode cX8_requireTicks 12 = .ok (.new 68, 3) := by decide +kernel
theorem dX8_requireTicks_15 : decode cX8_requireTicks 15 = .ok (.dup, 1) := by decide +kernel
theorem dX8_requireTicks_16 : decode cX8_requireTicks 16 = .ok (.invokespecial 70, 3) := by decide +kernel
theorem dX8_requireTicks_19 : decode cX8_requireTicks 19 = .ok (.athrow, 1) := by decide +kernel
theorem dX8_requireTicks_20 : decode cX8_requireTicks 20 = .ok (.return_, 1) := by decide +kernel
theorem dX8_requirePosition_0 : decode cX8_requirePosition 0 = .ok (.aload_n 0, 1) := by decide +kernel
theorem dX8_requirePosition_1 : decode cX8_requirePosition 1 = .ok (.getfield 19, 3) := by decide +kernel
theorem dX8_requirePosition_4 : decode cX8_requirePosition 4 = .ok (.iload_n 1, 1) := by decide +kernel
theorem dX8_requirePosition_5 : decode cX8_requirePosition 5 = .ok (.invokevirtual 262, 3) := by decide +kernel
theorem dX8_requirePosition_8 : decode cX8_requirePosition 8 = .ok (.ifCond .ne 11, 3) := by decide +kernel
theorem dX8_requirePosition_11 : decode cX8_requirePosition 11 = .ok (.new 68, 3) := by decide +kernel
theorem dX8_requirePosition_14 : decode cX8_requirePosition 14 = .ok (.dup, 1) := by decide +kernel
theorem dX8_requirePosition_15 : decode cX8_requirePosition 15 = .ok (.invokespecial 70, 3) := by decide +kernel
theorem dX8_requirePosition_18 : decode cX8_requirePosition 18 = .ok (.athrow, 1) := by decide +kernel
theorem dX8_requirePosition_19 : decode cX8_requirePosition 19 = .ok (.return_, 1) := by decide +kernel
theorem dX8_requireStation_0 : decode cX8_requireStation 0 = .ok (.aload_n 0, 1) := by decide +kernel
theorem dX8_requireStation_1 : decode cX8_requireStation 1 = .ok (.getfield 26, 3) := by decide +kernel
theorem dX8_requireStation_4 : decode cX8_requireStation 4 = .ok (.iload_n 1, 1) := by decide +kernel
theorem dX8_requireStation_5 : decode cX8_requireStation 5 = .ok (.invokevirtual 139, 3) := by decide +kernel
theorem dX8_requireStation_8 : decode cX8_requireStation 8 = .ok (.bipush 45, 2) := by decide +kernel
theorem dX8_requireStation_10 : decode cX8_requireStation 10 = .ok (.if_icmp .ne 11, 3) := by decide +kernel
theorem dX8_requireStation_13 : decode cX8_requireStation 13 = .ok (.new 178, 3) := by decide +kernel
theorem dX8_requireStation_16 : decode cX8_requireStation 16 = .ok (.dup, 1) := by decide +kernel
theorem dX8_requireStation_17 : decode cX8_requireStation 17 = .ok (.invokespecial 180, 3) := by decide +kernel
theorem dX8_requireStation_20 : decode cX8_requireStation 20 = .ok (.athrow, 1) := by decide +kernel
theorem dX8_requireStation_21 : decode cX8_requireStation 21 = .ok (.return_, 1) := by decide +kernel
theorem dX8_requireParcel_0 : decode cX8_requireParcel 0 = .ok (.aload_n 0, 1) := by decide +kernel
theorem dX8_requireParcel_1 : decode cX8_requireParcel 1 = .ok (.getfield 10, 3) := by decide +kernel
theorem dX8_requireParcel_4 : decode cX8_requireParcel 4 = .ok (.iload_n 1, 1) := by decide +kernel
theorem dX8_requireParcel_5 : decode cX8_requireParcel 5 = .ok (.invokevirtual 265, 3) := by decide +kernel
theorem dX8_requireParcel_8 : decode cX8_requireParcel 8 = .ok (.ifCond .ne 11, 3) := by decide +kernel
theorem dX8_requireParcel_11 : decode cX8_requireParcel 11 = .ok (.new 178, 3) := by decide +kernel
theorem dX8_requireParcel_14 : decode cX8_requireParcel 14 = .ok (.dup, 1) := by decide +kernel
theorem dX8_requireParcel_15 : decode cX8_requireParcel 15 = .ok (.invokespecial 180, 3) := by decide +kernel
theorem dX8_requireParcel_18 : decode cX8_requireParcel 18 = .ok (.athrow, 1) := by decide +kernel
theorem dX8_requireParcel_19 : decode cX8_requireParcel 19 = .ok (.return_, 1) := by decide +kernel
theorem dX8_requireChute_0 : decode cX8_requireChute 0 = .ok (.aload_n 0, 1) := by decide +kernel
theorem dX8_requireChute_1 : decode cX8_requireChute 1 = .ok (.getfield 26, 3) := by decide +kernel
theorem dX8_requireChute_4 : decode cX8_requireChute 4 = .ok (.iload_n 1, 1) := by decide +kernel
theorem dX8_requireChute_5 : decode cX8_requireChute 5 = .ok (.invokevirtual 266, 3) := by decide +kernel
theorem dX8_requireChute_8 : decode cX8_requireChute 8 = .ok (.astore_n 2, 1) := by decide +kernel
theorem dX8_requireChute_9 : decode cX8_requireChute 9 = .ok (.aload_n 2, 1) := by decide +kernel
theorem dX8_requireChute_10 : decode cX8_requireChute 10 = .ok (.ifnonnull 11, 3) := by decide +kernel
theorem dX8_requireChute_13 : decode cX8_requireChute 13 = .ok (.new 269, 3) := by decide +kernel
theorem dX8_requireChute_16 : decode cX8_requireChute 16 = .ok (.dup, 1) := by decide +kernel
theorem dX8_requireChute_17 : decode cX8_requireChute 17 = .ok (.invokespecial 271, 3) := by decide +kernel
theorem dX8_requireChute_20 : decode cX8_requireChute 20 = .ok (.athrow, 1) := by decide +kernel
theorem dX8_requireChute_21 : decode cX8_requireChute 21 = .ok (.aload_n 2, 1) := by decide +kernel
theorem dX8_requireChute_22 : decode cX8_requireChute 22 = .ok (.areturn, 1) := by decide +kernel
theorem dX8_requireTruck_0 : decode cX8_requireTruck 0 = .ok (.aload_n 0, 1) := by decide +kernel
theorem dX8_requireTruck_1 : decode cX8_requireTruck 1 = .ok (.getfield 60, 3) := by decide +kernel
theorem dX8_requireTruck_4 : decode cX8_requireTruck 4 = .ok (.iload_n 1, 1) := by decide +kernel
theorem dX8_requireTruck_5 : decode cX8_requireTruck 5 = .ok (.invokevirtual 272, 3) := by decide +kernel
theorem dX8_requireTruck_8 : decode cX8_requireTruck 8 = .ok (.ifCond .ne 11, 3) := by decide +kernel
theorem dX8_requireTruck_11 : decode cX8_requireTruck 11 = .ok (.new 269, 3) := by decide +kernel
theorem dX8_requireTruck_14 : decode cX8_requireTruck 14 = .ok (.dup, 1) := by decide +kernel
theorem dX8_requireTruck_15 : decode cX8_requireTruck 15 = .ok (.invokespecial 271, 3) := by decide +kernel
theorem dX8_requireTruck_18 : decode cX8_requireTruck 18 = .ok (.athrow, 1) := by decide +kernel
theorem dX8_requireTruck_19 : decode cX8_requireTruck 19 = .ok (.return_, 1) := by decide +kernel
theorem dX8_requireSomeLeft_0 : decode cX8_requireSomeLeft 0 = .ok (.aload_n 0, 1) := by decide +kernel
theorem dX8_requireSomeLeft_1 : decode cX8_requireSomeLeft 1 = .ok (.getfield 10, 3) := by decide +kernel
theorem dX8_requireSomeLeft_4 : decode cX8_requireSomeLeft 4 = .ok (.getfield 184, 3) := by decide +kernel
theorem dX8_requireSomeLeft_7 : decode cX8_requireSomeLeft 7 = .ok (.ifCond .gt 11, 3) := by decide +kernel
theorem dX8_requireSomeLeft_10 : decode cX8_requireSomeLeft 10 = .ok (.new 273, 3) := by decide +kernel
theorem dX8_requireSomeLeft_13 : decode cX8_requireSomeLeft 13 = .ok (.dup, 1) := by decide +kernel
theorem dX8_requireSomeLeft_14 : decode cX8_requireSomeLeft 14 = .ok (.invokespecial 275, 3) := by decide +kernel
theorem dX8_requireSomeLeft_17 : decode cX8_requireSomeLeft 17 = .ok (.athrow, 1) := by decide +kernel
theorem dX8_requireSomeLeft_18 : decode cX8_requireSomeLeft 18 = .ok (.return_, 1) := by decide +kernel
theorem dX8_passOneTick_0 : decode cX8_passOneTick 0 = .ok (.aload_n 0, 1) := by decide +kernel
theorem dX8_passOneTick_1 : decode cX8_passOneTick 1 = .ok (.dup, 1) := by decide +kernel
theorem dX8_passOneTick_2 : decode cX8_passOneTick 2 = .ok (.getfield 155, 3) := by decide +kernel
theorem dX8_passOneTick_5 : decode cX8_passOneTick 5 = .ok (.lconst 1, 1) := by decide +kernel
theorem dX8_passOneTick_6 : decode cX8_passOneTick 6 = .ok (.ladd, 1) := by decide +kernel
theorem dX8_passOneTick_7 : decode cX8_passOneTick 7 = .ok (.putfield 155, 3) := by decide +kernel
theorem dX8_passOneTick_10 : decode cX8_passOneTick 10 = .ok (.aload_n 0, 1) := by decide +kernel
theorem dX8_passOneTick_11 : decode cX8_passOneTick 11 = .ok (.getfield 19, 3) := by decide +kernel
theorem dX8_passOneTick_14 : decode cX8_passOneTick 14 = .ok (.invokevirtual 276, 3) := by decide +kernel
theorem dX8_passOneTick_17 : decode cX8_passOneTick 17 = .ok (.aload_n 0, 1) := by decide +kernel
theorem dX8_passOneTick_18 : decode cX8_passOneTick 18 = .ok (.getfield 26, 3) := by decide +kernel
theorem dX8_passOneTick_21 : decode cX8_passOneTick 21 = .ok (.aload_n 0, 1) := by decide +kernel
theorem dX8_passOneTick_22 : decode cX8_passOneTick 22 = .ok (.getfield 19, 3) := by decide +kernel
theorem dX8_passOneTick_25 : decode cX8_passOneTick 25 = .ok (.iconst 0, 1) := by decide +kernel
theorem dX8_passOneTick_26 : decode cX8_passOneTick 26 = .ok (.invokevirtual 175, 3) := by decide +kernel
theorem dX8_passOneTick_29 : decode cX8_passOneTick 29 = .ok (.aload_n 0, 1) := by decide +kernel
theorem dX8_passOneTick_30 : decode cX8_passOneTick 30 = .ok (.getfield 10, 3) := by decide +kernel
theorem dX8_passOneTick_33 : decode cX8_passOneTick 33 = .ok (.getfield 181, 3) := by decide +kernel
theorem dX8_passOneTick_36 : decode cX8_passOneTick 36 = .ok (.aload_n 0, 1) := by decide +kernel
theorem dX8_passOneTick_37 : decode cX8_passOneTick 37 = .ok (.getfield 10, 3) := by decide +kernel
theorem dX8_passOneTick_40 : decode cX8_passOneTick 40 = .ok (.getfield 75, 3) := by decide +kernel
theorem dX8_passOneTick_43 : decode cX8_passOneTick 43 = .ok (.invokevirtual 279, 3) := by decide +kernel
theorem dX8_passOneTick_46 : decode cX8_passOneTick 46 = .ok (.ifCond .eq 18, 3) := by decide +kernel
theorem dX8_passOneTick_49 : decode cX8_passOneTick 49 = .ok (.aload_n 0, 1) := by decide +kernel
theorem dX8_passOneTick_50 : decode cX8_passOneTick 50 = .ok (.getfield 19, 3) := by decide +kernel
theorem dX8_passOneTick_53 : decode cX8_passOneTick 53 = .ok (.iconst 0, 1) := by decide +kernel
theorem dX8_passOneTick_54 : decode cX8_passOneTick 54 = .ok (.aload_n 0, 1) := by decide +kernel
theorem dX8_passOneTick_55 : decode cX8_passOneTick 55 = .ok (.getfield 10, 3) := by decide +kernel
theorem dX8_passOneTick_58 : decode cX8_passOneTick 58 = .ok (.invokevirtual 283, 3) := by decide +kernel
theorem dX8_passOneTick_61 : decode cX8_passOneTick 61 = .ok (.invokevirtual 286, 3) := by decide +kernel
theorem dX8_passOneTick_64 : decode cX8_passOneTick 64 = .ok (.iconst 0, 1) := by decide +kernel
theorem dX8_passOneTick_65 : decode cX8_passOneTick 65 = .ok (.istore_n 1, 1) := by decide +kernel
theorem dX8_passOneTick_66 : decode cX8_passOneTick 66 = .ok (.iconst 0, 1) := by decide +kernel
theorem dX8_passOneTick_67 : decode cX8_passOneTick 67 = .ok (.istore_n 2, 1) := by decide +kernel
theorem dX8_passOneTick_68 : decode cX8_passOneTick 68 = .ok (.iload_n 2, 1) := by decide +kernel
theorem dX8_passOneTick_69 : decode cX8_passOneTick 69 = .ok (.aload_n 0, 1) := by decide +kernel
theorem dX8_passOneTick_70 : decode cX8_passOneTick 70 = .ok (.getfield 26, 3) := by decide +kernel
theorem dX8_passOneTick_73 : decode cX8_passOneTick 73 = .ok (.getfield 71, 3) := by decide +kernel
theorem dX8_passOneTick_76 : decode cX8_passOneTick 76 = .ok (.if_icmp .ge 17, 3) := by decide +kernel
theorem dX8_passOneTick_79 : decode cX8_passOneTick 79 = .ok (.iload_n 1, 1) := by decide +kernel
theorem dX8_passOneTick_80 : decode cX8_passOneTick 80 = .ok (.aload_n 0, 1) := by decide +kernel
theorem dX8_passOneTick_81 : decode cX8_passOneTick 81 = .ok (.iload_n 2, 1) := by decide +kernel
theorem dX8_passOneTick_82 : decode cX8_passOneTick 82 = .ok (.invokevirtual 289, 3) := by decide +kernel
theorem dX8_passOneTick_85 : decode cX8_passOneTick 85 = .ok (.iadd, 1) := by decide +kernel
theorem dX8_passOneTick_86 : decode cX8_passOneTick 86 = .ok (.istore_n 1, 1) := by decide +kernel
theorem dX8_passOneTick_87 : decode cX8_passOneTick 87 = .ok (.iinc 2 1, 3) := by decide +kernel
theorem dX8_passOneTick_90 : decode cX8_passOneTick 90 = .ok (.goto (-22), 3) := by decide +kernel
theorem dX8_passOneTick_93 : decode cX8_passOneTick 93 = .ok (.iload_n 1, 1) := by decide +kernel
theorem dX8_passOneTick_94 : decode cX8_passOneTick 94 = .ok (.aload_n 0, 1) := by decide +kernel
theorem dX8_passOneTick_95 : decode cX8_passOneTick 95 = .ok (.invokevirtual 292, 3) := by decide +kernel
theorem dX8_passOneTick_98 : decode cX8_passOneTick 98 = .ok (.iadd, 1) := by decide +kernel
theorem dX8_passOneTick_99 : decode cX8_passOneTick 99 = .ok (.ireturn, 1) := by decide +kernel
theorem dX8_dropInto_0 : decode cX8_dropInto 0 = .ok (.aload_n 0, 1) := by decide +kernel
theorem dX8_dropInto_1 : decode cX8_dropInto 1 = .ok (.getfield 26, 3) := by decide +kernel
theorem dX8_dropInto_4 : decode cX8_dropInto 4 = .ok (.iload_n 1, 1) := by decide +kernel
theorem dX8_dropInto_5 : decode cX8_dropInto 5 = .ok (.invokevirtual 266, 3) := by decide +kernel
theorem dX8_dropInto_8 : decode cX8_dropInto 8 = .ok (.astore_n 2, 1) := by decide +kernel
theorem dX8_dropInto_9 : decode cX8_dropInto 9 = .ok (.aload_n 2, 1) := by decide +kernel
theorem dX8_dropInto_10 : decode cX8_dropInto 10 = .ok (.ifnonnull 5, 3) := by decide +kernel
theorem dX8_dropInto_13 : decode cX8_dropInto 13 = .ok (.iconst 0, 1) := by decide +kernel
theorem dX8_dropInto_14 : decode cX8_dropInto 14 = .ok (.ireturn, 1) := by decide +kernel
theorem dX8_dropInto_15 : decode cX8_dropInto 15 = .ok (.aload_n 0, 1) := by decide +kernel
theorem dX8_dropInto_16 : decode cX8_dropInto 16 = .ok (.getfield 19, 3) := by decide +kernel
theorem dX8_dropInto_19 : decode cX8_dropInto 19 = .ok (.aload_n 2, 1) := by decide +kernel
theorem dX8_dropInto_20 : decode cX8_dropInto 20 = .ok (.getfield 295, 3) := by decide +kernel
theorem dX8_dropInto_23 : decode cX8_dropInto 23 = .ok (.invokevirtual 175, 3) := by decide +kernel
theorem dX8_dropInto_26 : decode cX8_dropInto 26 = .ok (.istore_n 3, 1) := by decide +kernel
theorem dX8_dropInto_27 : decode cX8_dropInto 27 = .ok (.aload_n 0, 1) := by decide +kernel
theorem dX8_dropInto_28 : decode cX8_dropInto 28 = .ok (.getfield 26, 3) := by decide +kernel
theorem dX8_dropInto_31 : decode cX8_dropInto 31 = .ok (.iload_n 1, 1) := by decide +kernel
theorem dX8_dropInto_32 : decode cX8_dropInto 32 = .ok (.aload_n 0, 1) := by decide +kernel
theorem dX8_dropInto_33 : decode cX8_dropInto 33 = .ok (.getfield 10, 3) := by decide +kernel
theorem dX8_dropInto_36 : decode cX8_dropInto 36 = .ok (.iload_n 3, 1) := by decide +kernel
theorem dX8_dropInto_37 : decode cX8_dropInto 37 = .ok (.invokevirtual 298, 3) := by decide +kernel
theorem dX8_dropInto_40 : decode cX8_dropInto 40 = .ok (.aload_n 2, 1) := by decide +kernel
theorem dX8_dropInto_41 : decode cX8_dropInto 41 = .ok (.getfield 108, 3) := by decide +kernel
theorem dX8_dropInto_44 : decode cX8_dropInto 44 = .ok (.getfield 113, 3) := by decide +kernel
theorem dX8_dropInto_47 : decode cX8_dropInto 47 = .ok (.invokevirtual 301, 3) := by decide +kernel
theorem dX8_dropInto_50 : decode cX8_dropInto 50 = .ok (.ifCond .ne 5, 3) := by decide +kernel
theorem dX8_dropInto_53 : decode cX8_dropInto 53 = .ok (.iconst 0, 1) := by decide +kernel
theorem dX8_dropInto_54 : decode cX8_dropInto 54 = .ok (.ireturn, 1) := by decide +kernel
theorem dX8_dropInto_55 : decode cX8_dropInto 55 = .ok (.aload_n 0, 1) := by decide +kernel
theorem dX8_dropInto_56 : decode cX8_dropInto 56 = .ok (.getfield 10, 3) := by decide +kernel
theorem dX8_dropInto_59 : decode cX8_dropInto 59 = .ok (.iload_n 3, 1) := by decide +kernel
theorem dX8_dropInto_60 : decode cX8_dropInto 60 = .ok (.bipush 99, 2) := by decide +kernel
theorem dX8_dropInto_62 : decode cX8_dropInto 62 = .ok (.aload_n 0, 1) := by decide +kernel
theorem dX8_dropInto_63 : decode cX8_dropInto 63 = .ok (.getfield 19, 3) := by decide +kernel
theorem dX8_dropInto_66 : decode cX8_dropInto 66 = .ok (.aload_n 2, 1) := by decide +kernel
theorem dX8_dropInto_67 : decode cX8_dropInto 67 = .ok (.getfield 295, 3) := by decide +kernel
theorem dX8_dropInto_70 : decode cX8_dropInto 70 = .ok (.invokevirtual 169, 3) := by decide +kernel
theorem dX8_dropInto_73 : decode cX8_dropInto 73 = .ok (.invokevirtual 304, 3) := by decide +kernel
theorem dX8_dropInto_76 : decode cX8_dropInto 76 = .ok (.aload_n 0, 1) := by decide +kernel
theorem dX8_dropInto_77 : decode cX8_dropInto 77 = .ok (.getfield 19, 3) := by decide +kernel
theorem dX8_dropInto_80 : decode cX8_dropInto 80 = .ok (.aload_n 2, 1) := by decide +kernel
theorem dX8_dropInto_81 : decode cX8_dropInto 81 = .ok (.getfield 295, 3) := by decide +kernel
theorem dX8_dropInto_84 : decode cX8_dropInto 84 = .ok (.invokevirtual 308, 3) := by decide +kernel
theorem dX8_dropInto_87 : decode cX8_dropInto 87 = .ok (.aload_n 2, 1) := by decide +kernel
theorem dX8_dropInto_88 : decode cX8_dropInto 88 = .ok (.iload_n 3, 1) := by decide +kernel
theorem dX8_dropInto_89 : decode cX8_dropInto 89 = .ok (.invokevirtual 311, 3) := by decide +kernel
theorem dX8_dropInto_92 : decode cX8_dropInto 92 = .ok (.iconst 1, 1) := by decide +kernel
theorem dX8_dropInto_93 : decode cX8_dropInto 93 = .ok (.ireturn, 1) := by decide +kernel
theorem dX8_dropIntoOverflow_0 : decode cX8_dropIntoOverflow 0 = .ok (.aload_n 0, 1) := by decide +kernel
theorem dX8_dropIntoOverflow_1 : decode cX8_dropIntoOverflow 1 = .ok (.getfield 19, 3) := by decide +kernel
theorem dX8_dropIntoOverflow_4 : decode cX8_dropIntoOverflow 4 = .ok (.aload_n 0, 1) := by decide +kernel
theorem dX8_dropIntoOverflow_5 : decode cX8_dropIntoOverflow 5 = .ok (.getfield 26, 3) := by decide +kernel
theorem dX8_dropIntoOverflow_8 : decode cX8_dropIntoOverflow 8 = .ok (.getfield 87, 3) := by decide +kernel
theorem dX8_dropIntoOverflow_11 : decode cX8_dropIntoOverflow 11 = .ok (.invokevirtual 175, 3) := by decide +kernel
theorem dX8_dropIntoOverflow_14 : decode cX8_dropIntoOverflow 14 = .ok (.istore_n 1, 1) := by decide +kernel
theorem dX8_dropIntoOverflow_15 : decode cX8_dropIntoOverflow 15 = .ok (.aload_n 0, 1) := by decide +kernel
theorem dX8_dropIntoOverflow_16 : decode cX8_dropIntoOverflow 16 = .ok (.getfield 19, 3) := by decide +kernel
theorem dX8_dropIntoOverflow_19 : decode cX8_dropIntoOverflow 19 = .ok (.aload_n 0, 1) := by decide +kernel
theorem dX8_dropIntoOverflow_20 : decode cX8_dropIntoOverflow 20 = .ok (.getfield 26, 3) := by decide +kernel
theorem dX8_dropIntoOverflow_23 : decode cX8_dropIntoOverflow 23 = .ok (.getfield 87, 3) := by decide +kernel
theorem dX8_dropIntoOverflow_26 : decode cX8_dropIntoOverflow 26 = .ok (.invokevirtual 169, 3) := by decide +kernel
theorem dX8_dropIntoOverflow_29 : decode cX8_dropIntoOverflow 29 = .ok (.istore_n 2, 1) := by decide +kernel
theorem dX8_dropIntoOverflow_30 : decode cX8_dropIntoOverflow 30 = .ok (.aload_n 0, 1) := by decide +kernel
theorem dX8_dropIntoOverflow_31 : decode cX8_dropIntoOverflow 31 = .ok (.getfield 26, 3) := by decide +kernel
theorem dX8_dropIntoOverflow_34 : decode cX8_dropIntoOverflow 34 = .ok (.iload_n 1, 1) := by decide +kernel
theorem dX8_dropIntoOverflow_35 : decode cX8_dropIntoOverflow 35 = .ok (.iload_n 2, 1) := by decide +kernel
theorem dX8_dropIntoOverflow_36 : decode cX8_dropIntoOverflow 36 = .ok (.invokevirtual 314, 3) := by decide +kernel
theorem dX8_dropIntoOverflow_39 : decode cX8_dropIntoOverflow 39 = .ok (.ifCond .ne 5, 3) := by decide +kernel
theorem dX8_dropIntoOverflow_42 : decode cX8_dropIntoOverflow 42 = .ok (.iconst 0, 1) := by decide +kernel
theorem dX8_dropIntoOverflow_43 : decode cX8_dropIntoOverflow 43 = .ok (.ireturn, 1) := by decide +kernel
theorem dX8_dropIntoOverflow_44 : decode cX8_dropIntoOverflow 44 = .ok (.aload_n 0, 1) := by decide +kernel
theorem dX8_dropIntoOverflow_45 : decode cX8_dropIntoOverflow 45 = .ok (.getfield 10, 3) := by decide +kernel
theorem dX8_dropIntoOverflow_48 : decode cX8_dropIntoOverflow 48 = .ok (.iload_n 1, 1) := by decide +kernel
theorem dX8_dropIntoOverflow_49 : decode cX8_dropIntoOverflow 49 = .ok (.bipush 111, 2) := by decide +kernel
theorem dX8_dropIntoOverflow_51 : decode cX8_dropIntoOverflow 51 = .ok (.iload_n 2, 1) := by decide +kernel
theorem dX8_dropIntoOverflow_52 : decode cX8_dropIntoOverflow 52 = .ok (.invokevirtual 304, 3) := by decide +kernel
theorem dX8_dropIntoOverflow_55 : decode cX8_dropIntoOverflow 55 = .ok (.aload_n 0, 1) := by decide +kernel
theorem dX8_dropIntoOverflow_56 : decode cX8_dropIntoOverflow 56 = .ok (.getfield 19, 3) := by decide +kernel
theorem dX8_dropIntoOverflow_59 : decode cX8_dropIntoOverflow 59 = .ok (.aload_n 0, 1) := by decide +kernel
theorem dX8_dropIntoOverflow_60 : decode cX8_dropIntoOverflow 60 = .ok (.getfield 26, 3) := by decide +kernel
theorem dX8_dropIntoOverflow_63 : decode cX8_dropIntoOverflow 63 = .ok (.getfield 87, 3) := by decide +kernel
theorem dX8_dropIntoOverflow_66 : decode cX8_dropIntoOverflow 66 = .ok (.invokevirtual 308, 3) := by decide +kernel
theorem dX8_dropIntoOverflow_69 : decode cX8_dropIntoOverflow 69 = .ok (.aload_n 0, 1) := by decide +kernel
theorem dX8_dropIntoOverflow_70 : decode cX8_dropIntoOverflow 70 = .ok (.getfield 53, 3) := by decide +kernel
theorem dX8_dropIntoOverflow_73 : decode cX8_dropIntoOverflow 73 = .ok (.iload_n 1, 1) := by decide +kernel
theorem dX8_dropIntoOverflow_74 : decode cX8_dropIntoOverflow 74 = .ok (.invokevirtual 318, 3) := by decide +kernel
theorem dX8_dropIntoOverflow_77 : decode cX8_dropIntoOverflow 77 = .ok (.iconst 1, 1) := by decide +kernel
theorem dX8_dropIntoOverflow_78 : decode cX8_dropIntoOverflow 78 = .ok (.ireturn, 1) := by decide +kernel
theorem dX8_eachParcelIsOnce_0 : decode cX8_eachParcelIsOnce 0 = .ok (.iconst 0, 1) := by decide +kernel
theorem dX8_eachParcelIsOnce_1 : decode cX8_eachParcelIsOnce 1 = .ok (.istore_n 1, 1) := by decide +kernel
theorem dX8_eachParcelIsOnce_2 : decode cX8_eachParcelIsOnce 2 = .ok (.iload_n 1, 1) := by decide +kernel
theorem dX8_eachParcelIsOnce_3 : decode cX8_eachParcelIsOnce 3 = .ok (.aload_n 0, 1) := by decide +kernel
theorem dX8_eachParcelIsOnce_4 : decode cX8_eachParcelIsOnce 4 = .ok (.getfield 64, 3) := by decide +kernel
theorem dX8_eachParcelIsOnce_7 : decode cX8_eachParcelIsOnce 7 = .ok (.arraylength, 1) := by decide +kernel
theorem dX8_eachParcelIsOnce_8 : decode cX8_eachParcelIsOnce 8 = .ok (.if_icmp .ge 16, 3) := by decide +kernel
theorem dX8_eachParcelIsOnce_11 : decode cX8_eachParcelIsOnce 11 = .ok (.aload_n 0, 1) := by decide +kernel
theorem dX8_eachParcelIsOnce_12 : decode cX8_eachParcelIsOnce 12 = .ok (.getfield 64, 3) := by decide +kernel
theorem dX8_eachParcelIsOnce_15 : decode cX8_eachParcelIsOnce 15 = .ok (.iload_n 1, 1) := by decide +kernel
theorem dX8_eachParcelIsOnce_16 : decode cX8_eachParcelIsOnce 16 = .ok (.iconst 0, 1) := by decide +kernel
theorem dX8_eachParcelIsOnce_17 : decode cX8_eachParcelIsOnce 17 = .ok (.iastore, 1) := by decide +kernel
theorem dX8_eachParcelIsOnce_18 : decode cX8_eachParcelIsOnce 18 = .ok (.iinc 1 1, 3) := by decide +kernel
theorem dX8_eachParcelIsOnce_21 : decode cX8_eachParcelIsOnce 21 = .ok (.goto (-19), 3) := by decide +kernel
theorem dX8_eachParcelIsOnce_24 : decode cX8_eachParcelIsOnce 24 = .ok (.aload_n 0, 1) := by decide +kernel
theorem dX8_eachParcelIsOnce_25 : decode cX8_eachParcelIsOnce 25 = .ok (.getfield 10, 3) := by decide +kernel
theorem dX8_eachParcelIsOnce_28 : decode cX8_eachParcelIsOnce 28 = .ok (.getfield 181, 3) := by decide +kernel
theorem dX8_eachParcelIsOnce_31 : decode cX8_eachParcelIsOnce 31 = .ok (.istore_n 1, 1) := by decide +kernel
theorem dX8_eachParcelIsOnce_32 : decode cX8_eachParcelIsOnce 32 = .ok (.iload_n 1, 1) := by decide +kernel
theorem dX8_eachParcelIsOnce_33 : decode cX8_eachParcelIsOnce 33 = .ok (.aload_n 0, 1) := by decide +kernel
theorem dX8_eachParcelIsOnce_34 : decode cX8_eachParcelIsOnce 34 = .ok (.getfield 10, 3) := by decide +kernel
theorem dX8_eachParcelIsOnce_37 : decode cX8_eachParcelIsOnce 37 = .ok (.getfield 75, 3) := by decide +kernel
theorem dX8_eachParcelIsOnce_40 : decode cX8_eachParcelIsOnce 40 = .ok (.if_icmp .ge 14, 3) := by decide +kernel
theorem dX8_eachParcelIsOnce_43 : decode cX8_eachParcelIsOnce 43 = .ok (.aload_n 0, 1) := by decide +kernel
theorem dX8_eachParcelIsOnce_44 : decode cX8_eachParcelIsOnce 44 = .ok (.iload_n 1, 1) := by decide +kernel
theorem dX8_eachParcelIsOnce_45 : decode cX8_eachParcelIsOnce 45 = .ok (.invokevirtual 320, 3) := by decide +kernel
theorem dX8_eachParcelIsOnce_48 : decode cX8_eachParcelIsOnce 48 = .ok (.iinc 1 1, 3) := by decide +kernel
theorem dX8_eachParcelIsOnce_51 : decode cX8_eachParcelIsOnce 51 = .ok (.goto (-19), 3) := by decide +kernel
theorem dX8_eachParcelIsOnce_54 : decode cX8_eachParcelIsOnce 54 = .ok (.iconst 0, 1) := by decide +kernel
theorem dX8_eachParcelIsOnce_55 : decode cX8_eachParcelIsOnce 55 = .ok (.istore_n 1, 1) := by decide +kernel
theorem dX8_eachParcelIsOnce_56 : decode cX8_eachParcelIsOnce 56 = .ok (.iload_n 1, 1) := by decide +kernel
theorem dX8_eachParcelIsOnce_57 : decode cX8_eachParcelIsOnce 57 = .ok (.aload_n 0, 1) := by decide +kernel
theorem dX8_eachParcelIsOnce_58 : decode cX8_eachParcelIsOnce 58 = .ok (.getfield 19, 3) := by decide +kernel
theorem dX8_eachParcelIsOnce_61 : decode cX8_eachParcelIsOnce 61 = .ok (.getfield 81, 3) := by decide +kernel
theorem dX8_eachParcelIsOnce_64 : decode cX8_eachParcelIsOnce 64 = .ok (.if_icmp .ge 21, 3) := by decide +kernel
theorem dX8_eachParcelIsOnce_67 : decode cX8_eachParcelIsOnce 67 = .ok (.aload_n 0, 1) := by decide +kernel
theorem dX8_eachParcelIsOnce_68 : decode cX8_eachParcelIsOnce 68 = .ok (.aload_n 0, 1) := by decide +kernel
theorem dX8_eachParcelIsOnce_69 : decode cX8_eachParcelIsOnce 69 = .ok (.getfield 19, 3) := by decide +kernel
theorem dX8_eachParcelIsOnce_72 : decode cX8_eachParcelIsOnce 72 = .ok (.iload_n 1, 1) := by decide +kernel
theorem dX8_eachParcelIsOnce_73 : decode cX8_eachParcelIsOnce 73 = .ok (.invokevirtual 175, 3) := by decide +kernel
theorem dX8_eachParcelIsOnce_76 : decode cX8_eachParcelIsOnce 76 = .ok (.invokevirtual 320, 3) := by decide +kernel
theorem dX8_eachParcelIsOnce_79 : decode cX8_eachParcelIsOnce 79 = .ok (.iinc 1 1, 3) := by decide +kernel
theorem dX8_eachParcelIsOnce_82 : decode cX8_eachParcelIsOnce 82 = .ok (.goto (-26), 3) := by decide +kernel
theorem dX8_eachParcelIsOnce_85 : decode cX8_eachParcelIsOnce 85 = .ok (.iconst 0, 1) := by decide +kernel
theorem dX8_eachParcelIsOnce_86 : decode cX8_eachParcelIsOnce 86 = .ok (.istore_n 1, 1) := by decide +kernel
theorem dX8_eachParcelIsOnce_87 : decode cX8_eachParcelIsOnce 87 = .ok (.iload_n 1, 1) := by decide +kernel
theorem dX8_eachParcelIsOnce_88 : decode cX8_eachParcelIsOnce 88 = .ok (.aload_n 0, 1) := by decide +kernel
theorem dX8_eachParcelIsOnce_89 : decode cX8_eachParcelIsOnce 89 = .ok (.getfield 26, 3) := by decide +kernel
theorem dX8_eachParcelIsOnce_92 : decode cX8_eachParcelIsOnce 92 = .ok (.getfield 71, 3) := by decide +kernel
theorem dX8_eachParcelIsOnce_95 : decode cX8_eachParcelIsOnce 95 = .ok (.if_icmp .ge 30, 3) := by decide +kernel
theorem dX8_eachParcelIsOnce_98 : decode cX8_eachParcelIsOnce 98 = .ok (.aload_n 0, 1) := by decide +kernel
theorem dX8_eachParcelIsOnce_99 : decode cX8_eachParcelIsOnce 99 = .ok (.getfield 26, 3) := by decide +kernel
theorem dX8_eachParcelIsOnce_102 : decode cX8_eachParcelIsOnce 102 = .ok (.iload_n 1, 1) := by decide +kernel
theorem dX8_eachParcelIsOnce_103 : decode cX8_eachParcelIsOnce 103 = .ok (.invokevirtual 266, 3) := by decide +kernel
theorem dX8_eachParcelIsOnce_106 : decode cX8_eachParcelIsOnce 106 = .ok (.astore_n 2, 1) := by decide +kernel
theorem dX8_eachParcelIsOnce_107 : decode cX8_eachParcelIsOnce 107 = .ok (.aload_n 2, 1) := by decide +kernel
theorem dX8_eachParcelIsOnce_108 : decode cX8_eachParcelIsOnce 108 = .ok (.ifnull 11, 3) := by decide +kernel
theorem dX8_eachParcelIsOnce_111 : decode cX8_eachParcelIsOnce 111 = .ok (.aload_n 0, 1) := by decide +kernel
theorem dX8_eachParcelIsOnce_112 : decode cX8_eachParcelIsOnce 112 = .ok (.aload_n 2, 1) := by decide +kernel
theorem dX8_eachParcelIsOnce_113 : decode cX8_eachParcelIsOnce 113 = .ok (.getfield 108, 3) := by decide +kernel
theorem dX8_eachParcelIsOnce_116 : decode cX8_eachParcelIsOnce 116 = .ok (.invokevirtual 323, 3) := by decide +kernel
theorem dX8_eachParcelIsOnce_119 : decode cX8_eachParcelIsOnce 119 = .ok (.iinc 1 1, 3) := by decide +kernel
theorem dX8_eachParcelIsOnce_122 : decode cX8_eachParcelIsOnce 122 = .ok (.goto (-35), 3) := by decide +kernel
theorem dX8_eachParcelIsOnce_125 : decode cX8_eachParcelIsOnce 125 = .ok (.aload_n 0, 1) := by decide +kernel
theorem dX8_eachParcelIsOnce_126 : decode cX8_eachParcelIsOnce 126 = .ok (.aload_n 0, 1) := by decide +kernel
theorem dX8_eachParcelIsOnce_127 : decode cX8_eachParcelIsOnce 127 = .ok (.getfield 60, 3) := by decide +kernel
theorem dX8_eachParcelIsOnce_130 : decode cX8_eachParcelIsOnce 130 = .ok (.getfield 327, 3) := by decide +kernel
theorem dX8_eachParcelIsOnce_133 : decode cX8_eachParcelIsOnce 133 = .ok (.invokevirtual 323, 3) := by decide +kernel
theorem dX8_eachParcelIsOnce_136 : decode cX8_eachParcelIsOnce 136 = .ok (.aload_n 0, 1) := by decide +kernel
theorem dX8_eachParcelIsOnce_137 : decode cX8_eachParcelIsOnce 137 = .ok (.aload_n 0, 1) := by decide +kernel
theorem dX8_eachParcelIsOnce_138 : decode cX8_eachParcelIsOnce 138 = .ok (.getfield 53, 3) := by decide +kernel
theorem dX8_eachParcelIsOnce_141 : decode cX8_eachParcelIsOnce 141 = .ok (.invokevirtual 323, 3) := by decide +kernel
theorem dX8_eachParcelIsOnce_144 : decode cX8_eachParcelIsOnce 144 = .ok (.iconst 0, 1) := by decide +kernel
theorem dX8_eachParcelIsOnce_145 : decode cX8_eachParcelIsOnce 145 = .ok (.istore_n 1, 1) := by decide +kernel
theorem dX8_eachParcelIsOnce_146 : decode cX8_eachParcelIsOnce 146 = .ok (.iload_n 1, 1) := by decide +kernel
theorem dX8_eachParcelIsOnce_147 : decode cX8_eachParcelIsOnce 147 = .ok (.aload_n 0, 1) := by decide +kernel
theorem dX8_eachParcelIsOnce_148 : decode cX8_eachParcelIsOnce 148 = .ok (.getfield 64, 3) := by decide +kernel
theorem dX8_eachParcelIsOnce_151 : decode cX8_eachParcelIsOnce 151 = .ok (.arraylength, 1) := by decide +kernel
theorem dX8_eachParcelIsOnce_152 : decode cX8_eachParcelIsOnce 152 = .ok (.if_icmp .ge 36, 3) := by decide +kernel
theorem dX8_eachParcelIsOnce_155 : decode cX8_eachParcelIsOnce 155 = .ok (.aload_n 0, 1) := by decide +kernel
theorem dX8_eachParcelIsOnce_156 : decode cX8_eachParcelIsOnce 156 = .ok (.getfield 64, 3) := by decide +kernel
theorem dX8_eachParcelIsOnce_159 : decode cX8_eachParcelIsOnce 159 = .ok (.iload_n 1, 1) := by decide +kernel
theorem dX8_eachParcelIsOnce_160 : decode cX8_eachParcelIsOnce 160 = .ok (.iaload, 1) := by decide +kernel
theorem dX8_eachParcelIsOnce_161 : decode cX8_eachParcelIsOnce 161 = .ok (.aload_n 0, 1) := by decide +kernel
theorem dX8_eachParcelIsOnce_162 : decode cX8_eachParcelIsOnce 162 = .ok (.getfield 10, 3) := by decide +kernel
theorem dX8_eachParcelIsOnce_165 : decode cX8_eachParcelIsOnce 165 = .ok (.iload_n 1, 1) := by decide +kernel
theorem dX8_eachParcelIsOnce_166 : decode cX8_eachParcelIsOnce 166 = .ok (.invokevirtual 265, 3) := by decide +kernel
theorem dX8_eachParcelIsOnce_169 : decode cX8_eachParcelIsOnce 169 = .ok (.ifCond .eq 7, 3) := by decide +kernel
theorem dX8_eachParcelIsOnce_172 : decode cX8_eachParcelIsOnce 172 = .ok (.iconst 1, 1) := by decide +kernel
theorem dX8_eachParcelIsOnce_173 : decode cX8_eachParcelIsOnce 173 = .ok (.goto 4, 3) := by decide +kernel
theorem dX8_eachParcelIsOnce_176 : decode cX8_eachParcelIsOnce 176 = .ok (.iconst 0, 1) := by decide +kernel
theorem dX8_eachParcelIsOnce_177 : decode cX8_eachParcelIsOnce 177 = .ok (.if_icmp .eq 5, 3) := by decide +kernel
theorem dX8_eachParcelIsOnce_180 : decode cX8_eachParcelIsOnce 180 = .ok (.iconst 0, 1) := by decide +kernel
theorem dX8_eachParcelIsOnce_181 : decode cX8_eachParcelIsOnce 181 = .ok (.ireturn, 1) := by decide +kernel
theorem dX8_eachParcelIsOnce_182 : decode cX8_eachParcelIsOnce 182 = .ok (.iinc 1 1, 3) := by decide +kernel
theorem dX8_eachParcelIsOnce_185 : decode cX8_eachParcelIsOnce 185 = .ok (.goto (-39), 3) := by decide +kernel
theorem dX8_eachParcelIsOnce_188 : decode cX8_eachParcelIsOnce 188 = .ok (.iconst 1, 1) := by decide +kernel
theorem dX8_eachParcelIsOnce_189 : decode cX8_eachParcelIsOnce 189 = .ok (.ireturn, 1) := by decide +kernel
theorem dX8_seeAll_0 : decode cX8_seeAll 0 = .ok (.iconst 0, 1) := by decide +kernel
theorem dX8_seeAll_1 : decode cX8_seeAll 1 = .ok (.istore_n 2, 1) := by decide +kernel
theorem dX8_seeAll_2 : decode cX8_seeAll 2 = .ok (.iload_n 2, 1) := by decide +kernel
theorem dX8_seeAll_3 : decode cX8_seeAll 3 = .ok (.aload_n 1, 1) := by decide +kernel
theorem dX8_seeAll_4 : decode cX8_seeAll 4 = .ok (.getfield 113, 3) := by decide +kernel
theorem dX8_seeAll_7 : decode cX8_seeAll 7 = .ok (.if_icmp .ge 18, 3) := by decide +kernel
theorem dX8_seeAll_10 : decode cX8_seeAll 10 = .ok (.aload_n 0, 1) := by decide +kernel
theorem dX8_seeAll_11 : decode cX8_seeAll 11 = .ok (.aload_n 1, 1) := by decide +kernel
theorem dX8_seeAll_12 : decode cX8_seeAll 12 = .ok (.iload_n 2, 1) := by decide +kernel
theorem dX8_seeAll_13 : decode cX8_seeAll 13 = .ok (.invokevirtual 223, 3) := by decide +kernel
theorem dX8_seeAll_16 : decode cX8_seeAll 16 = .ok (.invokevirtual 320, 3) := by decide +kernel
theorem dX8_seeAll_19 : decode cX8_seeAll 19 = .ok (.iinc 2 1, 3) := by decide +kernel
theorem dX8_seeAll_22 : decode cX8_seeAll 22 = .ok (.goto (-20), 3) := by decide +kernel
theorem dX8_seeAll_25 : decode cX8_seeAll 25 = .ok (.return_, 1) := by decide +kernel
theorem dX8_see_0 : decode cX8_see 0 = .ok (.iload_n 1, 1) := by decide +kernel
theorem dX8_see_1 : decode cX8_see 1 = .ok (.ifCond .lt 22, 3) := by decide +kernel
theorem dX8_see_4 : decode cX8_see 4 = .ok (.iload_n 1, 1) := by decide +kernel
theorem dX8_see_5 : decode cX8_see 5 = .ok (.aload_n 0, 1) := by decide +kernel
theorem dX8_see_6 : decode cX8_see 6 = .ok (.getfield 64, 3) := by decide +kernel
theorem dX8_see_9 : decode cX8_see 9 = .ok (.arraylength, 1) := by decide +kernel
theorem dX8_see_10 : decode cX8_see 10 = .ok (.if_icmp .ge 13, 3) := by decide +kernel
theorem dX8_see_13 : decode cX8_see 13 = .ok (.aload_n 0, 1) := by decide +kernel
theorem dX8_see_14 : decode cX8_see 14 = .ok (.getfield 64, 3) := by decide +kernel
theorem dX8_see_17 : decode cX8_see 17 = .ok (.iload_n 1, 1) := by decide +kernel
theorem dX8_see_18 : decode cX8_see 18 = .ok (.dup2, 1) := by decide +kernel
theorem dX8_see_19 : decode cX8_see 19 = .ok (.iaload, 1) := by decide +kernel
theorem dX8_see_20 : decode cX8_see 20 = .ok (.iconst 1, 1) := by decide +kernel
theorem dX8_see_21 : decode cX8_see 21 = .ok (.iadd, 1) := by decide +kernel
theorem dX8_see_22 : decode cX8_see 22 = .ok (.iastore, 1) := by decide +kernel
theorem dX8_see_23 : decode cX8_see 23 = .ok (.return_, 1) := by decide +kernel
theorem dX9_init_0 : decode cX9_init 0 = .ok (.aload_n 0, 1) := by decide +kernel
theorem dX9_init_1 : decode cX9_init 1 = .ok (.invokespecial 1, 3) := by decide +kernel
theorem dX9_init_4 : decode cX9_init 4 = .ok (.aload_n 0, 1) := by decide +kernel
theorem dX9_init_5 : decode cX9_init 5 = .ok (.bipush 20, 2) := by decide +kernel
theorem dX9_init_7 : decode cX9_init 7 = .ok (.newarray .int, 2) := by decide +kernel
theorem dX9_init_9 : decode cX9_init 9 = .ok (.putfield 7, 3) := by decide +kernel
theorem dX9_init_12 : decode cX9_init 12 = .ok (.aload_n 0, 1) := by decide +kernel
theorem dX9_init_13 : decode cX9_init 13 = .ok (.bipush 20, 2) := by decide +kernel
theorem dX9_init_15 : decode cX9_init 15 = .ok (.newarray .int, 2) := by decide +kernel
theorem dX9_init_17 : decode cX9_init 17 = .ok (.putfield 13, 3) := by decide +kernel
theorem dX9_init_20 : decode cX9_init 20 = .ok (.aload_n 0, 1) := by decide +kernel
theorem dX9_init_21 : decode cX9_init 21 = .ok (.bipush 20, 2) := by decide +kernel
theorem dX9_init_23 : decode cX9_init 23 = .ok (.newarray .boolean, 2) := by decide +kernel
theorem dX9_init_25 : decode cX9_init 25 = .ok (.putfield 16, 3) := by decide +kernel
theorem dX9_init_28 : decode cX9_init 28 = .ok (.aload_n 0, 1) := by decide +kernel
theorem dX9_init_29 : decode cX9_init 29 = .ok (.bipush 6, 2) := by decide +kernel
theorem dX9_init_31 : decode cX9_init 31 = .ok (.newarray .int, 2) := by decide +kernel
theorem dX9_init_33 : decode cX9_init 33 = .ok (.putfield 20, 3) := by decide +kernel
theorem dX9_init_36 : decode cX9_init 36 = .ok (.aload_n 0, 1) := by decide +kernel
theorem dX9_init_37 : decode cX9_init 37 = .ok (.bipush 6, 2) := by decide +kernel
theorem dX9_init_39 : decode cX9_init 39 = .ok (.bipush 30, 2) := by decide +kernel
theorem dX9_init_41 : decode cX9_init 41 = .ok (.multianewarray 23 2, 4) := by decide +kernel
theorem dX9_init_45 : decode cX9_init 45 = .ok (.putfield 25, 3) := by decide +kernel
theorem dX9_init_48 : decode cX9_init 48 = .ok (.aload_n 0, 1) := by decide +kernel
theorem dX9_init_49 : decode cX9_init 49 = .ok (.bipush 6, 2) := by decide +kernel
theorem dX9_init_51 : decode cX9_init 51 = .ok (.newarray .int, 2) := by decide +kernel
theorem dX9_init_53 : decode cX9_init 53 = .ok (.putfield 28, 3) := by decide +kernel
theorem dX9_init_56 : decode cX9_init 56 = .ok (.aload_n 0, 1) := by decide +kernel
theorem dX9_init_57 : decode cX9_init 57 = .ok (.bipush 8, 2) := by decide +kernel
theorem dX9_init_59 : decode cX9_init 59 = .ok (.newarray .int, 2) := by decide +kernel
theorem dX9_init_61 : decode cX9_init 61 = .ok (.putfield 31, 3) := by decide +kernel
theorem dX9_init_64 : decode cX9_init 64 = .ok (.aload_n 0, 1) := by decide +kernel
theorem dX9_init_65 : decode cX9_init 65 = .ok (.iconst 2, 1) := by decide +kernel
theorem dX9_init_66 : decode cX9_init 66 = .ok (.putfield 34, 3) := by decide +kernel
theorem dX9_init_69 : decode cX9_init 69 = .ok (.aload_n 0, 1) := by decide +kernel
theorem dX9_init_70 : decode cX9_init 70 = .ok (.bipush 60, 2) := by decide +kernel
theorem dX9_init_72 : decode cX9_init 72 = .ok (.newarray .int, 2) := by decide +kernel
theorem dX9_init_74 : decode cX9_init 74 = .ok (.putfield 38, 3) := by decide +kernel
theorem dX9_init_77 : decode cX9_init 77 = .ok (.aload_n 0, 1) := by decide +kernel
theorem dX9_init_78 : decode cX9_init 78 = .ok (.bipush 60, 2) := by decide +kernel
theorem dX9_init_80 : decode cX9_init 80 = .ok (.newarray .int, 2) := by decide +kernel
theorem dX9_init_82 : decode cX9_init 82 = .ok (.putfield 41, 3) := by decide +kernel
theorem dX9_init_85 : decode cX9_init 85 = .ok (.aload_n 0, 1) := by decide +kernel
theorem dX9_init_86 : decode cX9_init 86 = .ok (.bipush 60, 2) := by decide +kernel
theorem dX9_init_88 : decode cX9_init 88 = .ok (.newarray .int, 2) := by decide +kernel
theorem dX9_init_90 : decode cX9_init 90 = .ok (.putfield 44, 3) := by decide +kernel
theorem dX9_init_93 : decode cX9_init 93 = .ok (.aload_n 0, 1) := by decide +kernel
theorem dX9_init_94 : decode cX9_init 94 = .ok (.bipush 60, 2) := by decide +kernel
theorem dX9_init_96 : decode cX9_init 96 = .ok (.newarray .char, 2) := by decide +kernel
theorem dX9_init_98 : decode cX9_init 98 = .ok (.putfield 47, 3) := by decide +kernel
theorem dX9_init_101 : decode cX9_init 101 = .ok (.aload_n 0, 1) := by decide +kernel
theorem dX9_init_102 : decode cX9_init 102 = .ok (.bipush 60, 2) := by decide +kernel
theorem dX9_init_104 : decode cX9_init 104 = .ok (.newarray .int, 2) := by decide +kernel
theorem dX9_init_106 : decode cX9_init 106 = .ok (.putfield 51, 3) := by decide +kernel
theorem dX9_init_109 : decode cX9_init 109 = .ok (.aload_n 0, 1) := by decide +kernel
theorem dX9_init_110 : decode cX9_init 110 = .ok (.iload_n 1, 1) := by decide +kernel
theorem dX9_init_111 : decode cX9_init 111 = .ok (.putfield 54, 3) := by decide +kernel
theorem dX9_init_114 : decode cX9_init 114 = .ok (.iconst 0, 1) := by decide +kernel
theorem dX9_init_115 : decode cX9_init 115 = .ok (.istore_n 2, 1) := by decide +kernel
theorem dX9_init_116 : decode cX9_init 116 = .ok (.iload_n 2, 1) := by decide +kernel
theorem dX9_init_117 : decode cX9_init 117 = .ok (.bipush 20, 2) := by decide +kernel
theorem dX9_init_119 : decode cX9_init 119 = .ok (.if_icmp .ge 23, 3) := by decide +kernel
theorem dX9_init_122 : decode cX9_init 122 = .ok (.aload_n 0, 1) := by decide +kernel
theorem dX9_init_123 : decode cX9_init 123 = .ok (.getfield 7, 3) := by decide +kernel
theorem dX9_init_126 : decode cX9_init 126 = .ok (.iload_n 2, 1) := by decide +kernel
theorem dX9_init_127 : decode cX9_init 127 = .ok (.iconst (-1), 1) := by decide +kernel
theorem dX9_init_128 : decode cX9_init 128 = .ok (.iastore, 1) := by decide +kernel
theorem dX9_init_129 : decode cX9_init 129 = .ok (.aload_n 0, 1) := by decide +kernel
theorem dX9_init_130 : decode cX9_init 130 = .ok (.getfield 13, 3) := by decide +kernel
theorem dX9_init_133 : decode cX9_init 133 = .ok (.iload_n 2, 1) := by decide +kernel
theorem dX9_init_134 : decode cX9_init 134 = .ok (.iconst (-1), 1) := by decide +kernel
theorem dX9_init_135 : decode cX9_init 135 = .ok (.iastore, 1) := by decide +kernel
theorem dX9_init_136 : decode cX9_init 136 = .ok (.iinc 2 1, 3) := by decide +kernel
theorem dX9_init_139 : decode cX9_init 139 = .ok (.goto (-23), 3) := by decide +kernel
theorem dX9_init_142 : decode cX9_init 142 = .ok (.iconst 0, 1) := by decide +kernel
theorem dX9_init_143 : decode cX9_init 143 = .ok (.istore_n 2, 1) := by decide +kernel
theorem dX9_init_144 : decode cX9_init 144 = .ok (.iload_n 2, 1) := by decide +kernel
theorem dX9_init_145 : decode cX9_init 145 = .ok (.bipush 8, 2) := by decide +kernel
theorem dX9_init_147 : decode cX9_init 147 = .ok (.if_icmp .ge 16, 3) := by decide +kernel
theorem dX9_init_150 : decode cX9_init 150 = .ok (.aload_n 0, 1) := by decide +kernel
theorem dX9_init_151 : decode cX9_init 151 = .ok (.getfield 31, 3) := by decide +kernel
theorem dX9_init_154 : decode cX9_init 154 = .ok (.iload_n 2, 1) := by decide +kernel
theorem dX9_init_155 : decode cX9_init 155 = .ok (.iconst (-1), 1) := by decide +kernel
theorem dX9_init_156 : decode cX9_init 156 = .ok (.iastore, 1) := by decide +kernel
theorem dX9_init_157 : decode cX9_init 157 = .ok (.iinc 2 1, 3) := by decide +kernel
theorem dX9_init_160 : decode cX9_init 160 = .ok (.goto (-16), 3) := by decide +kernel
theorem dX9_init_163 : decode cX9_init 163 = .ok (.return_, 1) := by decide +kernel
theorem dX9_trayAt_0 : decode cX9_trayAt 0 = .ok (.iload_n 1, 1) := by decide +kernel
theorem dX9_trayAt_1 : decode cX9_trayAt 1 = .ok (.aload_n 0, 1) := by decide +kernel
theorem dX9_trayAt_2 : decode cX9_trayAt 2 = .ok (.getfield 57, 3) := by decide +kernel
theorem dX9_trayAt_5 : decode cX9_trayAt 5 = .ok (.aload_n 0, 1) := by decide +kernel
theorem dX9_trayAt_6 : decode cX9_trayAt 6 = .ok (.getfield 54, 3) := by decide +kernel
theorem dX9_trayAt_9 : decode cX9_trayAt 9 = .ok (.irem, 1) := by decide +kernel
theorem dX9_trayAt_10 : decode cX9_trayAt 10 = .ok (.isub, 1) := by decide +kernel
theorem dX9_trayAt_11 : decode cX9_trayAt 11 = .ok (.aload_n 0, 1) := by decide +kernel
theorem dX9_trayAt_12 : decode cX9_trayAt 12 = .ok (.getfield 54, 3) := by decide +kernel
theorem dX9_trayAt_15 : decode cX9_trayAt 15 = .ok (.iadd, 1) := by decide +kernel
theorem dX9_trayAt_16 : decode cX9_trayAt 16 = .ok (.aload_n 0, 1) := by decide +kernel
theorem dX9_trayAt_17 : decode cX9_trayAt 17 = .ok (.getfield 54, 3) := by decide +kernel
theorem dX9_trayAt_20 : decode cX9_trayAt 20 = .ok (.irem, 1) := by decide +kernel
theorem dX9_trayAt_21 : decode cX9_trayAt 21 = .ok (.ireturn, 1) := by decide +kernel
theorem dX9_leave_0 : decode cX9_leave 0 = .ok (.aload_n 0, 1) := by decide +kernel
theorem dX9_leave_1 : decode cX9_leave 1 = .ok (.getfield 47, 3) := by decide +kernel
theorem dX9_leave_4 : decode cX9_leave 4 = .ok (.iload_n 1, 1) := by decide +kernel
theorem dX9_leave_5 : decode cX9_leave 5 = .ok (.iload_n 2, 1) := by decide +kernel
theorem dX9_leave_6 : decode cX9_leave 6 = .ok (.castore, 1) := by decide +kernel
theorem dX9_leave_7 : decode cX9_leave 7 = .ok (.aload_n 0, 1) := by decide +kernel
theorem dX9_leave_8 : decode cX9_leave 8 = .ok (.dup, 1) := by decide +kernel
theorem dX9_leave_9 : decode cX9_leave 9 = .ok (.getfield 60, 3) := by decide +kernel
theorem dX9_leave_12 : decode cX9_leave 12 = .ok (.iconst 1, 1) := by decide +kernel
theorem dX9_leave_13 : decode cX9_leave 13 = .ok (.iadd, 1) := by decide +kernel
theorem dX9_leave_14 : decode cX9_leave 14 = .ok (.putfield 60, 3) := by decide +kernel
theorem dX9_leave_17 : decode cX9_leave 17 = .ok (.aload_n 0, 1) := by decide +kernel
theorem dX9_leave_18 : decode cX9_leave 18 = .ok (.dup, 1) := by decide +kernel
theorem dX9_leave_19 : decode cX9_leave 19 = .ok (.getfield 63, 3) := by decide +kernel
theorem dX9_leave_22 : decode cX9_leave 22 = .ok (.aload_n 0, 1) := by decide +kernel
theorem dX9_leave_23 : decode cX9_leave 23 = .ok (.getfield 44, 3) := by decide +kernel
theorem dX9_leave_26 : decode cX9_leave 26 = .ok (.iload_n 1, 1) := by decide +kernel
theorem dX9_leave_27 : decode cX9_leave 27 = .ok (.iaload, 1) := by decide +kernel
theorem dX9_leave_28 : decode cX9_leave 28 = .ok (.iadd, 1) := by decide +kernel
theorem dX9_leave_29 : decode cX9_leave 29 = .ok (.putfield 63, 3) := by decide +kernel
theorem dX9_leave_32 : decode cX9_leave 32 = .ok (.return_, 1) := by decide +kernel
theorem dX9_serve_0 : decode cX9_serve 0 = .ok (.aload_n 0, 1) := by decide +kernel
theorem dX9_serve_1 : decode cX9_serve 1 = .ok (.iload_n 1, 1) := by decide +kernel
theorem dX9_serve_2 : decode cX9_serve 2 = .ok (.invokevirtual 66, 3) := by decide +kernel
theorem dX9_serve_5 : decode cX9_serve 5 = .ok (.istore_n 2, 1) := by decide +kernel
theorem dX9_serve_6 : decode cX9_serve 6 = .ok (.aload_n 0, 1) := by decide +kernel
theorem dX9_serve_7 : decode cX9_serve 7 = .ok (.getfield 7, 3) := by decide +kernel
