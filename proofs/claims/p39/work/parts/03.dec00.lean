theorem dX0_init_0 : decode cX0_init 0 = .ok (.aload_n 0, 1) := by decide +kernel
theorem dX0_init_1 : decode cX0_init 1 = .ok (.invokespecial 3, 3) := by decide +kernel
theorem dX0_init_4 : decode cX0_init 4 = .ok (.aload_n 0, 1) := by decide +kernel
theorem dX0_init_5 : decode cX0_init 5 = .ok (.bipush 20, 2) := by decide +kernel
theorem dX0_init_7 : decode cX0_init 7 = .ok (.newarray .int, 2) := by decide +kernel
theorem dX0_init_9 : decode cX0_init 9 = .ok (.putfield 9, 3) := by decide +kernel
theorem dX0_init_12 : decode cX0_init 12 = .ok (.aload_n 0, 1) := by decide +kernel
theorem dX0_init_13 : decode cX0_init 13 = .ok (.bipush 20, 2) := by decide +kernel
theorem dX0_init_15 : decode cX0_init 15 = .ok (.newarray .int, 2) := by decide +kernel
theorem dX0_init_17 : decode cX0_init 17 = .ok (.putfield 15, 3) := by decide +kernel
theorem dX0_init_20 : decode cX0_init 20 = .ok (.aload_n 0, 1) := by decide +kernel
theorem dX0_init_21 : decode cX0_init 21 = .ok (.bipush 12, 2) := by decide +kernel
theorem dX0_init_23 : decode cX0_init 23 = .ok (.invokevirtual 18, 3) := by decide +kernel
theorem dX0_init_26 : decode cX0_init 26 = .ok (.return_, 1) := by decide +kernel
theorem dX0_makeEmpty_0 : decode cX0_makeEmpty 0 = .ok (.aload_n 0, 1) := by decide +kernel
theorem dX0_makeEmpty_1 : decode cX0_makeEmpty 1 = .ok (.iconst 1, 1) := by decide +kernel
theorem dX0_makeEmpty_2 : decode cX0_makeEmpty 2 = .ok (.iload_n 1, 1) := by decide +kernel
theorem dX0_makeEmpty_3 : decode cX0_makeEmpty 3 = .ok (.bipush 20, 2) := by decide +kernel
theorem dX0_makeEmpty_5 : decode cX0_makeEmpty 5 = .ok (.invokestatic 22, 3) := by decide +kernel
theorem dX0_makeEmpty_8 : decode cX0_makeEmpty 8 = .ok (.invokestatic 28, 3) := by decide +kernel
theorem dX0_makeEmpty_11 : decode cX0_makeEmpty 11 = .ok (.putfield 31, 3) := by decide +kernel
theorem dX0_makeEmpty_14 : decode cX0_makeEmpty 14 = .ok (.aload_n 0, 1) := by decide +kernel
theorem dX0_makeEmpty_15 : decode cX0_makeEmpty 15 = .ok (.iconst 0, 1) := by decide +kernel
theorem dX0_makeEmpty_16 : decode cX0_makeEmpty 16 = .ok (.putfield 35, 3) := by decide +kernel
theorem dX0_makeEmpty_19 : decode cX0_makeEmpty 19 = .ok (.iconst 0, 1) := by decide +kernel
theorem dX0_makeEmpty_20 : decode cX0_makeEmpty 20 = .ok (.istore_n 2, 1) := by decide +kernel
theorem dX0_makeEmpty_21 : decode cX0_makeEmpty 21 = .ok (.iload_n 2, 1) := by decide +kernel
theorem dX0_makeEmpty_22 : decode cX0_makeEmpty 22 = .ok (.bipush 20, 2) := by decide +kernel
theorem dX0_makeEmpty_24 : decode cX0_makeEmpty 24 = .ok (.if_icmp .ge 23, 3) := by decide +kernel
theorem dX0_makeEmpty_27 : decode cX0_makeEmpty 27 = .ok (.aload_n 0, 1) := by decide +kernel
theorem dX0_makeEmpty_28 : decode cX0_makeEmpty 28 = .ok (.getfield 9, 3) := by decide +kernel
theorem dX0_makeEmpty_31 : decode cX0_makeEmpty 31 = .ok (.iload_n 2, 1) := by decide +kernel
theorem dX0_makeEmpty_32 : decode cX0_makeEmpty 32 = .ok (.iconst (-1), 1) := by decide +kernel
theorem dX0_makeEmpty_33 : decode cX0_makeEmpty 33 = .ok (.iastore, 1) := by decide +kernel
theorem dX0_makeEmpty_34 : decode cX0_makeEmpty 34 = .ok (.aload_n 0, 1) := by decide +kernel
theorem dX0_makeEmpty_35 : decode cX0_makeEmpty 35 = .ok (.getfield 15, 3) := by decide +kernel
theorem dX0_makeEmpty_38 : decode cX0_makeEmpty 38 = .ok (.iload_n 2, 1) := by decide +kernel
theorem dX0_makeEmpty_39 : decode cX0_makeEmpty 39 = .ok (.iconst 0, 1) := by decide +kernel
theorem dX0_makeEmpty_40 : decode cX0_makeEmpty 40 = .ok (.iastore, 1) := by decide +kernel
theorem dX0_makeEmpty_41 : decode cX0_makeEmpty 41 = .ok (.iinc 2 1, 3) := by decide +kernel
theorem dX0_makeEmpty_44 : decode cX0_makeEmpty 44 = .ok (.goto (-23), 3) := by decide +kernel
theorem dX0_makeEmpty_47 : decode cX0_makeEmpty 47 = .ok (.return_, 1) := by decide +kernel
theorem dX0_copyFrom_0 : decode cX0_copyFrom 0 = .ok (.aload_n 0, 1) := by decide +kernel
theorem dX0_copyFrom_1 : decode cX0_copyFrom 1 = .ok (.aload_n 1, 1) := by decide +kernel
theorem dX0_copyFrom_2 : decode cX0_copyFrom 2 = .ok (.getfield 31, 3) := by decide +kernel
theorem dX0_copyFrom_5 : decode cX0_copyFrom 5 = .ok (.putfield 31, 3) := by decide +kernel
theorem dX0_copyFrom_8 : decode cX0_copyFrom 8 = .ok (.aload_n 0, 1) := by decide +kernel
theorem dX0_copyFrom_9 : decode cX0_copyFrom 9 = .ok (.aload_n 1, 1) := by decide +kernel
theorem dX0_copyFrom_10 : decode cX0_copyFrom 10 = .ok (.getfield 35, 3) := by decide +kernel
theorem dX0_copyFrom_13 : decode cX0_copyFrom 13 = .ok (.putfield 35, 3) := by decide +kernel
theorem dX0_copyFrom_16 : decode cX0_copyFrom 16 = .ok (.iconst 0, 1) := by decide +kernel
theorem dX0_copyFrom_17 : decode cX0_copyFrom 17 = .ok (.istore_n 2, 1) := by decide +kernel
theorem dX0_copyFrom_18 : decode cX0_copyFrom 18 = .ok (.iload_n 2, 1) := by decide +kernel
theorem dX0_copyFrom_19 : decode cX0_copyFrom 19 = .ok (.bipush 20, 2) := by decide +kernel
theorem dX0_copyFrom_21 : decode cX0_copyFrom 21 = .ok (.if_icmp .ge 33, 3) := by decide +kernel
theorem dX0_copyFrom_24 : decode cX0_copyFrom 24 = .ok (.aload_n 0, 1) := by decide +kernel
theorem dX0_copyFrom_25 : decode cX0_copyFrom 25 = .ok (.getfield 9, 3) := by decide +kernel
theorem dX0_copyFrom_28 : decode cX0_copyFrom 28 = .ok (.iload_n 2, 1) := by decide +kernel
theorem dX0_copyFrom_29 : decode cX0_copyFrom 29 = .ok (.aload_n 1, 1) := by decide +kernel
theorem dX0_copyFrom_30 : decode cX0_copyFrom 30 = .ok (.getfield 9, 3) := by decide +kernel
theorem dX0_copyFrom_33 : decode cX0_copyFrom 33 = .ok (.iload_n 2, 1) := by decide +kernel
theorem dX0_copyFrom_34 : decode cX0_copyFrom 34 = .ok (.iaload, 1) := by decide +kernel
theorem dX0_copyFrom_35 : decode cX0_copyFrom 35 = .ok (.iastore, 1) := by decide +kernel
theorem dX0_copyFrom_36 : decode cX0_copyFrom 36 = .ok (.aload_n 0, 1) := by decide +kernel
theorem dX0_copyFrom_37 : decode cX0_copyFrom 37 = .ok (.getfield 15, 3) := by decide +kernel
theorem dX0_copyFrom_40 : decode cX0_copyFrom 40 = .ok (.iload_n 2, 1) := by decide +kernel
theorem dX0_copyFrom_41 : decode cX0_copyFrom 41 = .ok (.aload_n 1, 1) := by decide +kernel
theorem dX0_copyFrom_42 : decode cX0_copyFrom 42 = .ok (.getfield 15, 3) := by decide +kernel
theorem dX0_copyFrom_45 : decode cX0_copyFrom 45 = .ok (.iload_n 2, 1) := by decide +kernel
theorem dX0_copyFrom_46 : decode cX0_copyFrom 46 = .ok (.iaload, 1) := by decide +kernel
theorem dX0_copyFrom_47 : decode cX0_copyFrom 47 = .ok (.iastore, 1) := by decide +kernel
theorem dX0_copyFrom_48 : decode cX0_copyFrom 48 = .ok (.iinc 2 1, 3) := by decide +kernel
theorem dX0_copyFrom_51 : decode cX0_copyFrom 51 = .ok (.goto (-33), 3) := by decide +kernel
theorem dX0_copyFrom_54 : decode cX0_copyFrom 54 = .ok (.return_, 1) := by decide +kernel
theorem dX0_has_0 : decode cX0_has 0 = .ok (.iload_n 1, 1) := by decide +kernel
theorem dX0_has_1 : decode cX0_has 1 = .ok (.ifCond .lt 15, 3) := by decide +kernel
theorem dX0_has_4 : decode cX0_has 4 = .ok (.iload_n 1, 1) := by decide +kernel
theorem dX0_has_5 : decode cX0_has 5 = .ok (.aload_n 0, 1) := by decide +kernel
theorem dX0_has_6 : decode cX0_has 6 = .ok (.getfield 31, 3) := by decide +kernel
theorem dX0_has_9 : decode cX0_has 9 = .ok (.if_icmp .ge 7, 3) := by decide +kernel
theorem dX0_has_12 : decode cX0_has 12 = .ok (.iconst 1, 1) := by decide +kernel
theorem dX0_has_13 : decode cX0_has 13 = .ok (.goto 4, 3) := by decide +kernel
theorem dX0_has_16 : decode cX0_has 16 = .ok (.iconst 0, 1) := by decide +kernel
theorem dX0_has_17 : decode cX0_has 17 = .ok (.ireturn, 1) := by decide +kernel
theorem dX0_slotOf_0 : decode cX0_slotOf 0 = .ok (.aload_n 0, 1) := by decide +kernel
theorem dX0_slotOf_1 : decode cX0_slotOf 1 = .ok (.iload_n 1, 1) := by decide +kernel
theorem dX0_slotOf_2 : decode cX0_slotOf 2 = .ok (.invokevirtual 38, 3) := by decide +kernel
theorem dX0_slotOf_5 : decode cX0_slotOf 5 = .ok (.ifCond .ne 5, 3) := by decide +kernel
theorem dX0_slotOf_8 : decode cX0_slotOf 8 = .ok (.iconst (-1), 1) := by decide +kernel
theorem dX0_slotOf_9 : decode cX0_slotOf 9 = .ok (.ireturn, 1) := by decide +kernel
theorem dX0_slotOf_10 : decode cX0_slotOf 10 = .ok (.aload_n 0, 1) := by decide +kernel
theorem dX0_slotOf_11 : decode cX0_slotOf 11 = .ok (.getfield 35, 3) := by decide +kernel
theorem dX0_slotOf_14 : decode cX0_slotOf 14 = .ok (.iload_n 1, 1) := by decide +kernel
theorem dX0_slotOf_15 : decode cX0_slotOf 15 = .ok (.iadd, 1) := by decide +kernel
theorem dX0_slotOf_16 : decode cX0_slotOf 16 = .ok (.istore_n 2, 1) := by decide +kernel
theorem dX0_slotOf_17 : decode cX0_slotOf 17 = .ok (.iload_n 2, 1) := by decide +kernel
theorem dX0_slotOf_18 : decode cX0_slotOf 18 = .ok (.aload_n 0, 1) := by decide +kernel
theorem dX0_slotOf_19 : decode cX0_slotOf 19 = .ok (.getfield 31, 3) := by decide +kernel
theorem dX0_slotOf_22 : decode cX0_slotOf 22 = .ok (.if_icmp .lt 10, 3) := by decide +kernel
theorem dX0_slotOf_25 : decode cX0_slotOf 25 = .ok (.iload_n 2, 1) := by decide +kernel
theorem dX0_slotOf_26 : decode cX0_slotOf 26 = .ok (.aload_n 0, 1) := by decide +kernel
theorem dX0_slotOf_27 : decode cX0_slotOf 27 = .ok (.getfield 31, 3) := by decide +kernel
theorem dX0_slotOf_30 : decode cX0_slotOf 30 = .ok (.isub, 1) := by decide +kernel
theorem dX0_slotOf_31 : decode cX0_slotOf 31 = .ok (.istore_n 2, 1) := by decide +kernel
theorem dX0_slotOf_32 : decode cX0_slotOf 32 = .ok (.iload_n 2, 1) := by decide +kernel
theorem dX0_slotOf_33 : decode cX0_slotOf 33 = .ok (.bipush 20, 2) := by decide +kernel
theorem dX0_slotOf_35 : decode cX0_slotOf 35 = .ok (.if_icmp .ge 7, 3) := by decide +kernel
theorem dX0_slotOf_38 : decode cX0_slotOf 38 = .ok (.iload_n 2, 1) := by decide +kernel
theorem dX0_slotOf_39 : decode cX0_slotOf 39 = .ok (.goto 4, 3) := by decide +kernel
theorem dX0_slotOf_42 : decode cX0_slotOf 42 = .ok (.iconst (-1), 1) := by decide +kernel
theorem dX0_slotOf_43 : decode cX0_slotOf 43 = .ok (.ireturn, 1) := by decide +kernel
theorem dX0_move_0 : decode cX0_move 0 = .ok (.aload_n 0, 1) := by decide +kernel
theorem dX0_move_1 : decode cX0_move 1 = .ok (.aload_n 0, 1) := by decide +kernel
theorem dX0_move_2 : decode cX0_move 2 = .ok (.getfield 35, 3) := by decide +kernel
theorem dX0_move_5 : decode cX0_move 5 = .ok (.ifCond .le 12, 3) := by decide +kernel
theorem dX0_move_8 : decode cX0_move 8 = .ok (.aload_n 0, 1) := by decide +kernel
theorem dX0_move_9 : decode cX0_move 9 = .ok (.getfield 35, 3) := by decide +kernel
theorem dX0_move_12 : decode cX0_move 12 = .ok (.iconst 1, 1) := by decide +kernel
theorem dX0_move_13 : decode cX0_move 13 = .ok (.isub, 1) := by decide +kernel
theorem dX0_move_14 : decode cX0_move 14 = .ok (.goto 9, 3) := by decide +kernel
theorem dX0_move_17 : decode cX0_move 17 = .ok (.aload_n 0, 1) := by decide +kernel
theorem dX0_move_18 : decode cX0_move 18 = .ok (.getfield 31, 3) := by decide +kernel
theorem dX0_move_21 : decode cX0_move 21 = .ok (.iconst 1, 1) := by decide +kernel
theorem dX0_move_22 : decode cX0_move 22 = .ok (.isub, 1) := by decide +kernel
theorem dX0_move_23 : decode cX0_move 23 = .ok (.putfield 35, 3) := by decide +kernel
theorem dX0_move_26 : decode cX0_move 26 = .ok (.aload_n 0, 1) := by decide +kernel
theorem dX0_move_27 : decode cX0_move 27 = .ok (.iconst 0, 1) := by decide +kernel
theorem dX0_move_28 : decode cX0_move 28 = .ok (.invokevirtual 42, 3) := by decide +kernel
theorem dX0_move_31 : decode cX0_move 31 = .ok (.istore_n 1, 1) := by decide +kernel
theorem dX0_move_32 : decode cX0_move 32 = .ok (.iload_n 1, 1) := by decide +kernel
theorem dX0_move_33 : decode cX0_move 33 = .ok (.ifCond .lt 23, 3) := by decide +kernel
theorem dX0_move_36 : decode cX0_move 36 = .ok (.aload_n 0, 1) := by decide +kernel
theorem dX0_move_37 : decode cX0_move 37 = .ok (.getfield 9, 3) := by decide +kernel
theorem dX0_move_40 : decode cX0_move 40 = .ok (.iload_n 1, 1) := by decide +kernel
theorem dX0_move_41 : decode cX0_move 41 = .ok (.iaload, 1) := by decide +kernel
theorem dX0_move_42 : decode cX0_move 42 = .ok (.iconst (-1), 1) := by decide +kernel
theorem dX0_move_43 : decode cX0_move 43 = .ok (.if_icmp .eq 13, 3) := by decide +kernel
theorem dX0_move_46 : decode cX0_move 46 = .ok (.aload_n 0, 1) := by decide +kernel
theorem dX0_move_47 : decode cX0_move 47 = .ok (.getfield 15, 3) := by decide +kernel
theorem dX0_move_50 : decode cX0_move 50 = .ok (.iload_n 1, 1) := by decide +kernel
theorem dX0_move_51 : decode cX0_move 51 = .ok (.dup2, 1) := by decide +kernel
theorem dX0_move_52 : decode cX0_move 52 = .ok (.iaload, 1) := by decide +kernel
theorem dX0_move_53 : decode cX0_move 53 = .ok (.iconst 1, 1) := by decide +kernel
theorem dX0_move_54 : decode cX0_move 54 = .ok (.iadd, 1) := by decide +kernel
theorem dX0_move_55 : decode cX0_move 55 = .ok (.iastore, 1) := by decide +kernel
theorem dX0_move_56 : decode cX0_move 56 = .ok (.return_, 1) := by decide +kernel
theorem dX0_parcelAt_0 : decode cX0_parcelAt 0 = .ok (.aload_n 0, 1) := by decide +kernel
theorem dX0_parcelAt_1 : decode cX0_parcelAt 1 = .ok (.iload_n 1, 1) := by decide +kernel
theorem dX0_parcelAt_2 : decode cX0_parcelAt 2 = .ok (.invokevirtual 42, 3) := by decide +kernel
theorem dX0_parcelAt_5 : decode cX0_parcelAt 5 = .ok (.istore_n 2, 1) := by decide +kernel
theorem dX0_parcelAt_6 : decode cX0_parcelAt 6 = .ok (.iload_n 2, 1) := by decide +kernel
theorem dX0_parcelAt_7 : decode cX0_parcelAt 7 = .ok (.ifCond .lt 12, 3) := by decide +kernel
theorem dX0_parcelAt_10 : decode cX0_parcelAt 10 = .ok (.aload_n 0, 1) := by decide +kernel
theorem dX0_parcelAt_11 : decode cX0_parcelAt 11 = .ok (.getfield 9, 3) := by decide +kernel
theorem dX0_parcelAt_14 : decode cX0_parcelAt 14 = .ok (.iload_n 2, 1) := by decide +kernel
theorem dX0_parcelAt_15 : decode cX0_parcelAt 15 = .ok (.iaload, 1) := by decide +kernel
theorem dX0_parcelAt_16 : decode cX0_parcelAt 16 = .ok (.goto 4, 3) := by decide +kernel
theorem dX0_parcelAt_19 : decode cX0_parcelAt 19 = .ok (.iconst (-1), 1) := by decide +kernel
theorem dX0_parcelAt_20 : decode cX0_parcelAt 20 = .ok (.ireturn, 1) := by decide +kernel
theorem dX0_roundsAt_0 : decode cX0_roundsAt 0 = .ok (.aload_n 0, 1) := by decide +kernel
theorem dX0_roundsAt_1 : decode cX0_roundsAt 1 = .ok (.iload_n 1, 1) := by decide +kernel
theorem dX0_roundsAt_2 : decode cX0_roundsAt 2 = .ok (.invokevirtual 42, 3) := by decide +kernel
theorem dX0_roundsAt_5 : decode cX0_roundsAt 5 = .ok (.istore_n 2, 1) := by decide +kernel
theorem dX0_roundsAt_6 : decode cX0_roundsAt 6 = .ok (.iload_n 2, 1) := by decide +kernel
theorem dX0_roundsAt_7 : decode cX0_roundsAt 7 = .ok (.ifCond .lt 12, 3) := by decide +kernel
theorem dX0_roundsAt_10 : decode cX0_roundsAt 10 = .ok (.aload_n 0, 1) := by decide +kernel
theorem dX0_roundsAt_11 : decode cX0_roundsAt 11 = .ok (.getfield 15, 3) := by decide +kernel
theorem dX0_roundsAt_14 : decode cX0_roundsAt 14 = .ok (.iload_n 2, 1) := by decide +kernel
theorem dX0_roundsAt_15 : decode cX0_roundsAt 15 = .ok (.iaload, 1) := by decide +kernel
theorem dX0_roundsAt_16 : decode cX0_roundsAt 16 = .ok (.goto 4, 3) := by decide +kernel
theorem dX0_roundsAt_19 : decode cX0_roundsAt 19 = .ok (.iconst 0, 1) := by decide +kernel
theorem dX0_roundsAt_20 : decode cX0_roundsAt 20 = .ok (.ireturn, 1) := by decide +kernel
theorem dX0_positionWith_0 : decode cX0_positionWith 0 = .ok (.iconst 0, 1) := by decide +kernel
theorem dX0_positionWith_1 : decode cX0_positionWith 1 = .ok (.istore_n 2, 1) := by decide +kernel
theorem dX0_positionWith_2 : decode cX0_positionWith 2 = .ok (.iload_n 2, 1) := by decide +kernel
theorem dX0_positionWith_3 : decode cX0_positionWith 3 = .ok (.aload_n 0, 1) := by decide +kernel
theorem dX0_positionWith_4 : decode cX0_positionWith 4 = .ok (.getfield 31, 3) := by decide +kernel
theorem dX0_positionWith_7 : decode cX0_positionWith 7 = .ok (.if_icmp .ge 20, 3) := by decide +kernel
theorem dX0_positionWith_10 : decode cX0_positionWith 10 = .ok (.aload_n 0, 1) := by decide +kernel
theorem dX0_positionWith_11 : decode cX0_positionWith 11 = .ok (.iload_n 2, 1) := by decide +kernel
theorem dX0_positionWith_12 : decode cX0_positionWith 12 = .ok (.invokevirtual 46, 3) := by decide +kernel
theorem dX0_positionWith_15 : decode cX0_positionWith 15 = .ok (.iload_n 1, 1) := by decide +kernel
theorem dX0_positionWith_16 : decode cX0_positionWith 16 = .ok (.if_icmp .ne 5, 3) := by decide +kernel
theorem dX0_positionWith_19 : decode cX0_positionWith 19 = .ok (.iload_n 2, 1) := by decide +kernel
theorem dX0_positionWith_20 : decode cX0_positionWith 20 = .ok (.ireturn, 1) := by decide +kernel
theorem dX0_positionWith_21 : decode cX0_positionWith 21 = .ok (.iinc 2 1, 3) := by decide +kernel
theorem dX0_positionWith_24 : decode cX0_positionWith 24 = .ok (.goto (-22), 3) := by decide +kernel
theorem dX0_positionWith_27 : decode cX0_positionWith 27 = .ok (.iconst (-1), 1) := by decide +kernel
theorem dX0_positionWith_28 : decode cX0_positionWith 28 = .ok (.ireturn, 1) := by decide +kernel
theorem dX0_put_0 : decode cX0_put 0 = .ok (.aload_n 0, 1) := by decide +kernel
theorem dX0_put_1 : decode cX0_put 1 = .ok (.iload_n 1, 1) := by decide +kernel
theorem dX0_put_2 : decode cX0_put 2 = .ok (.invokevirtual 42, 3) := by decide +kernel
theorem dX0_put_5 : decode cX0_put 5 = .ok (.istore_n 3, 1) := by decide +kernel
theorem dX0_put_6 : decode cX0_put 6 = .ok (.iload_n 3, 1) := by decide +kernel
theorem dX0_put_7 : decode cX0_put 7 = .ok (.ifCond .lt 17, 3) := by decide +kernel
theorem dX0_put_10 : decode cX0_put 10 = .ok (.aload_n 0, 1) := by decide +kernel
theorem dX0_put_11 : decode cX0_put 11 = .ok (.getfield 9, 3) := by decide +kernel
theorem dX0_put_14 : decode cX0_put 14 = .ok (.iload_n 3, 1) := by decide +kernel
theorem dX0_put_15 : decode cX0_put 15 = .ok (.iload_n 2, 1) := by decide +kernel
theorem dX0_put_16 : decode cX0_put 16 = .ok (.iastore, 1) := by decide +kernel
theorem dX0_put_17 : decode cX0_put 17 = .ok (.aload_n 0, 1) := by decide +kernel
theorem dX0_put_18 : decode cX0_put 18 = .ok (.getfield 15, 3) := by decide +kernel
theorem dX0_put_21 : decode cX0_put 21 = .ok (.iload_n 3, 1) := by decide +kernel
theorem dX0_put_22 : decode cX0_put 22 = .ok (.iconst 0, 1) := by decide +kernel
theorem dX0_put_23 : decode cX0_put 23 = .ok (.iastore, 1) := by decide +kernel
theorem dX0_put_24 : decode cX0_put 24 = .ok (.return_, 1) := by decide +kernel
theorem dX0_takeFrom_0 : decode cX0_takeFrom 0 = .ok (.aload_n 0, 1) := by decide +kernel
theorem dX0_takeFrom_1 : decode cX0_takeFrom 1 = .ok (.iload_n 1, 1) := by decide +kernel
theorem dX0_takeFrom_2 : decode cX0_takeFrom 2 = .ok (.iconst (-1), 1) := by decide +kernel
theorem dX0_takeFrom_3 : decode cX0_takeFrom 3 = .ok (.invokevirtual 49, 3) := by decide +kernel
theorem dX0_takeFrom_6 : decode cX0_takeFrom 6 = .ok (.return_, 1) := by decide +kernel
theorem dX1_init_0 : decode cX1_init 0 = .ok (.aload_n 0, 1) := by decide +kernel
theorem dX1_init_1 : decode cX1_init 1 = .ok (.invokespecial 3, 3) := by decide +kernel
theorem dX1_init_4 : decode cX1_init 4 = .ok (.aload_n 0, 1) := by decide +kernel
theorem dX1_init_5 : decode cX1_init 5 = .ok (.iload_n 1, 1) := by decide +kernel
theorem dX1_init_6 : decode cX1_init 6 = .ok (.putfield 9, 3) := by decide +kernel
theorem dX1_init_9 : decode cX1_init 9 = .ok (.aload_n 0, 1) := by decide +kernel
theorem dX1_init_10 : decode cX1_init 10 = .ok (.iload_n 2, 1) := by decide +kernel
theorem dX1_init_11 : decode cX1_init 11 = .ok (.putfield 15, 3) := by decide +kernel
theorem dX1_init_14 : decode cX1_init 14 = .ok (.aload_n 0, 1) := by decide +kernel
theorem dX1_init_15 : decode cX1_init 15 = .ok (.new 18, 3) := by decide +kernel
theorem dX1_init_18 : decode cX1_init 18 = .ok (.dup, 1) := by decide +kernel
theorem dX1_init_19 : decode cX1_init 19 = .ok (.bipush 30, 2) := by decide +kernel
theorem dX1_init_21 : decode cX1_init 21 = .ok (.invokespecial 20, 3) := by decide +kernel
theorem dX1_init_24 : decode cX1_init 24 = .ok (.putfield 23, 3) := by decide +kernel
theorem dX1_init_27 : decode cX1_init 27 = .ok (.return_, 1) := by decide +kernel
theorem dX1_drop_0 : decode cX1_drop 0 = .ok (.aload_n 0, 1) := by decide +kernel
theorem dX1_drop_1 : decode cX1_drop 1 = .ok (.getfield 23, 3) := by decide +kernel
theorem dX1_drop_4 : decode cX1_drop 4 = .ok (.iload_n 1, 1) := by decide +kernel
theorem dX1_drop_5 : decode cX1_drop 5 = .ok (.invokevirtual 27, 3) := by decide +kernel
theorem dX1_drop_8 : decode cX1_drop 8 = .ok (.aload_n 0, 1) := by decide +kernel
theorem dX1_drop_9 : decode cX1_drop 9 = .ok (.aload_n 0, 1) := by decide +kernel
theorem dX1_drop_10 : decode cX1_drop 10 = .ok (.getfield 30, 3) := by decide +kernel
theorem dX1_drop_13 : decode cX1_drop 13 = .ok (.iload_n 1, 1) := by decide +kernel
theorem dX1_drop_14 : decode cX1_drop 14 = .ok (.iadd, 1) := by decide +kernel
theorem dX1_drop_15 : decode cX1_drop 15 = .ok (.iconst 1, 1) := by decide +kernel
theorem dX1_drop_16 : decode cX1_drop 16 = .ok (.iadd, 1) := by decide +kernel
theorem dX1_drop_17 : decode cX1_drop 17 = .ok (.sipush 9973, 3) := by decide +kernel
theorem dX1_drop_20 : decode cX1_drop 20 = .ok (.irem, 1) := by decide +kernel
theorem dX1_drop_21 : decode cX1_drop 21 = .ok (.putfield 30, 3) := by decide +kernel
theorem dX1_drop_24 : decode cX1_drop 24 = .ok (.aload_n 0, 1) := by decide +kernel
theorem dX1_drop_25 : decode cX1_drop 25 = .ok (.aload_n 0, 1) := by decide +kernel
theorem dX1_drop_26 : decode cX1_drop 26 = .ok (.getfield 33, 3) := by decide +kernel
theorem dX1_drop_29 : decode cX1_drop 29 = .ok (.aload_n 0, 1) := by decide +kernel
theorem dX1_drop_30 : decode cX1_drop 30 = .ok (.getfield 30, 3) := by decide +kernel
theorem dX1_drop_33 : decode cX1_drop 33 = .ok (.iadd, 1) := by decide +kernel
theorem dX1_drop_34 : decode cX1_drop 34 = .ok (.sipush 9973, 3) := by decide +kernel
theorem dX1_drop_37 : decode cX1_drop 37 = .ok (.irem, 1) := by decide +kernel
theorem dX1_drop_38 : decode cX1_drop 38 = .ok (.putfield 33, 3) := by decide +kernel
theorem dX1_drop_41 : decode cX1_drop 41 = .ok (.return_, 1) := by decide +kernel
theorem dX1_clear_0 : decode cX1_clear 0 = .ok (.aload_n 0, 1) := by decide +kernel
theorem dX1_clear_1 : decode cX1_clear 1 = .ok (.getfield 23, 3) := by decide +kernel
theorem dX1_clear_4 : decode cX1_clear 4 = .ok (.iconst 0, 1) := by decide +kernel
theorem dX1_clear_5 : decode cX1_clear 5 = .ok (.putfield 36, 3) := by decide +kernel
theorem dX1_clear_8 : decode cX1_clear 8 = .ok (.aload_n 0, 1) := by decide +kernel
theorem dX1_clear_9 : decode cX1_clear 9 = .ok (.iconst 0, 1) := by decide +kernel
theorem dX1_clear_10 : decode cX1_clear 10 = .ok (.putfield 30, 3) := by decide +kernel
theorem dX1_clear_13 : decode cX1_clear 13 = .ok (.aload_n 0, 1) := by decide +kernel
theorem dX1_clear_14 : decode cX1_clear 14 = .ok (.iconst 0, 1) := by decide +kernel
theorem dX1_clear_15 : decode cX1_clear 15 = .ok (.putfield 33, 3) := by decide +kernel
theorem dX1_clear_18 : decode cX1_clear 18 = .ok (.return_, 1) := by decide +kernel
theorem dX1_keptSeal_0 : decode cX1_keptSeal 0 = .ok (.sipush 10000, 3) := by decide +kernel
theorem dX1_keptSeal_3 : decode cX1_keptSeal 3 = .ok (.aload_n 0, 1) := by decide +kernel
theorem dX1_keptSeal_4 : decode cX1_keptSeal 4 = .ok (.getfield 33, 3) := by decide +kernel
theorem dX1_keptSeal_7 : decode cX1_keptSeal 7 = .ok (.imul, 1) := by decide +kernel
theorem dX1_keptSeal_8 : decode cX1_keptSeal 8 = .ok (.aload_n 0, 1) := by decide +kernel
theorem dX1_keptSeal_9 : decode cX1_keptSeal 9 = .ok (.getfield 30, 3) := by decide +kernel
theorem dX1_keptSeal_12 : decode cX1_keptSeal 12 = .ok (.iadd, 1) := by decide +kernel
theorem dX1_keptSeal_13 : decode cX1_keptSeal 13 = .ok (.ireturn, 1) := by decide +kernel
theorem dX1_sealOfContent_0 : decode cX1_sealOfContent 0 = .ok (.aload_n 0, 1) := by decide +kernel
theorem dX1_sealOfContent_1 : decode cX1_sealOfContent 1 = .ok (.getfield 23, 3) := by decide +kernel
theorem dX1_sealOfContent_4 : decode cX1_sealOfContent 4 = .ok (.iconst 0, 1) := by decide +kernel
theorem dX1_sealOfContent_5 : decode cX1_sealOfContent 5 = .ok (.aload_n 0, 1) := by decide +kernel
theorem dX1_sealOfContent_6 : decode cX1_sealOfContent 6 = .ok (.getfield 23, 3) := by decide +kernel
theorem dX1_sealOfContent_9 : decode cX1_sealOfContent 9 = .ok (.getfield 36, 3) := by decide +kernel
theorem dX1_sealOfContent_12 : decode cX1_sealOfContent 12 = .ok (.invokevirtual 39, 3) := by decide +kernel
theorem dX1_sealOfContent_15 : decode cX1_sealOfContent 15 = .ok (.ireturn, 1) := by decide +kernel
theorem dX2_init_0 : decode cX2_init 0 = .ok (.aload_n 0, 1) := by decide +kernel
theorem dX2_init_1 : decode cX2_init 1 = .ok (.invokespecial 3, 3) := by decide +kernel
theorem dX2_init_4 : decode cX2_init 4 = .ok (.aload_n 0, 1) := by decide +kernel
theorem dX2_init_5 : decode cX2_init 5 = .ok (.new 9, 3) := by decide +kernel
theorem dX2_init_8 : decode cX2_init 8 = .ok (.dup, 1) := by decide +kernel
theorem dX2_init_9 : decode cX2_init 9 = .ok (.sipush 300, 3) := by decide +kernel
theorem dX2_init_12 : decode cX2_init 12 = .ok (.invokespecial 11, 3) := by decide +kernel
theorem dX2_init_15 : decode cX2_init 15 = .ok (.putfield 14, 3) := by decide +kernel
theorem dX2_init_18 : decode cX2_init 18 = .ok (.aload_n 0, 1) := by decide +kernel
theorem dX2_init_19 : decode cX2_init 19 = .ok (.sipush 300, 3) := by decide +kernel
theorem dX2_init_22 : decode cX2_init 22 = .ok (.newarray .int, 2) := by decide +kernel
theorem dX2_init_24 : decode cX2_init 24 = .ok (.putfield 20, 3) := by decide +kernel
theorem dX2_init_27 : decode cX2_init 27 = .ok (.return_, 1) := by decide +kernel
theorem dX2_has_0 : decode cX2_has 0 = .ok (.iload_n 1, 1) := by decide +kernel
theorem dX2_has_1 : decode cX2_has 1 = .ok (.ifCond .lt 22, 3) := by decide +kernel
theorem dX2_has_4 : decode cX2_has 4 = .ok (.iload_n 1, 1) := by decide +kernel
theorem dX2_has_5 : decode cX2_has 5 = .ok (.aload_n 0, 1) := by decide +kernel
theorem dX2_has_6 : decode cX2_has 6 = .ok (.getfield 24, 3) := by decide +kernel
theorem dX2_has_9 : decode cX2_has 9 = .ok (.if_icmp .ge 14, 3) := by decide +kernel
theorem dX2_has_12 : decode cX2_has 12 = .ok (.iload_n 1, 1) := by decide +kernel
theorem dX2_has_13 : decode cX2_has 13 = .ok (.sipush 300, 3) := by decide +kernel
theorem dX2_has_16 : decode cX2_has 16 = .ok (.if_icmp .ge 7, 3) := by decide +kernel
theorem dX2_has_19 : decode cX2_has 19 = .ok (.iconst 1, 1) := by decide +kernel
theorem dX2_has_20 : decode cX2_has 20 = .ok (.goto 4, 3) := by decide +kernel
theorem dX2_has_23 : decode cX2_has 23 = .ok (.iconst 0, 1) := by decide +kernel
theorem dX2_has_24 : decode cX2_has 24 = .ok (.ireturn, 1) := by decide +kernel
theorem dX2_take_0 : decode cX2_take 0 = .ok (.aload_n 0, 1) := by decide +kernel
theorem dX2_take_1 : decode cX2_take 1 = .ok (.getfield 24, 3) := by decide +kernel
theorem dX2_take_4 : decode cX2_take 4 = .ok (.istore_n 2, 1) := by decide +kernel
theorem dX2_take_5 : decode cX2_take 5 = .ok (.iload_n 2, 1) := by decide +kernel
theorem dX2_take_6 : decode cX2_take 6 = .ok (.ifCond .lt 10, 3) := by decide +kernel
theorem dX2_take_9 : decode cX2_take 9 = .ok (.iload_n 2, 1) := by decide +kernel
theorem dX2_take_10 : decode cX2_take 10 = .ok (.sipush 300, 3) := by decide +kernel
theorem dX2_take_13 : decode cX2_take 13 = .ok (.if_icmp .lt 5, 3) := by decide +kernel
theorem dX2_take_16 : decode cX2_take 16 = .ok (.iconst (-1), 1) := by decide +kernel
theorem dX2_take_17 : decode cX2_take 17 = .ok (.ireturn, 1) := by decide +kernel
theorem dX2_take_18 : decode cX2_take 18 = .ok (.aload_n 0, 1) := by decide +kernel
theorem dX2_take_19 : decode cX2_take 19 = .ok (.getfield 20, 3) := by decide +kernel
theorem dX2_take_22 : decode cX2_take 22 = .ok (.iload_n 2, 1) := by decide +kernel
theorem dX2_take_23 : decode cX2_take 23 = .ok (.aload_n 0, 1) := by decide +kernel
theorem dX2_take_24 : decode cX2_take 24 = .ok (.getfield 14, 3) := by decide +kernel
theorem dX2_take_27 : decode cX2_take 27 = .ok (.getfield 28, 3) := by decide +kernel
theorem dX2_take_30 : decode cX2_take 30 = .ok (.iastore, 1) := by decide +kernel
theorem dX2_take_31 : decode cX2_take 31 = .ok (.iconst 0, 1) := by decide +kernel
theorem dX2_take_32 : decode cX2_take 32 = .ok (.istore_n 3, 1) := by decide +kernel
theorem dX2_take_33 : decode cX2_take 33 = .ok (.iload_n 3, 1) := by decide +kernel
theorem dX2_take_34 : decode cX2_take 34 = .ok (.aload_n 1, 1) := by decide +kernel
theorem dX2_take_35 : decode cX2_take 35 = .ok (.getfield 28, 3) := by decide +kernel
theorem dX2_take_38 : decode cX2_take 38 = .ok (.if_icmp .ge 21, 3) := by decide +kernel
theorem dX2_take_41 : decode cX2_take 41 = .ok (.aload_n 0, 1) := by decide +kernel
theorem dX2_take_42 : decode cX2_take 42 = .ok (.getfield 14, 3) := by decide +kernel
theorem dX2_take_45 : decode cX2_take 45 = .ok (.aload_n 1, 1) := by decide +kernel
theorem dX2_take_46 : decode cX2_take 46 = .ok (.iload_n 3, 1) := by decide +kernel
theorem dX2_take_47 : decode cX2_take 47 = .ok (.invokevirtual 29, 3) := by decide +kernel
theorem dX2_take_50 : decode cX2_take 50 = .ok (.invokevirtual 33, 3) := by decide +kernel
theorem dX2_take_53 : decode cX2_take 53 = .ok (.iinc 3 1, 3) := by decide +kernel
theorem dX2_take_56 : decode cX2_take 56 = .ok (.goto (-23), 3) := by decide +kernel
theorem dX2_take_59 : decode cX2_take 59 = .ok (.aload_n 0, 1) := by decide +kernel
theorem dX2_take_60 : decode cX2_take 60 = .ok (.dup, 1) := by decide +kernel
theorem dX2_take_61 : decode cX2_take 61 = .ok (.getfield 24, 3) := by decide +kernel
theorem dX2_take_64 : decode cX2_take 64 = .ok (.iconst 1, 1) := by decide +kernel
theorem dX2_take_65 : decode cX2_take 65 = .ok (.iadd, 1) := by decide +kernel
theorem dX2_take_66 : decode cX2_take 66 = .ok (.putfield 24, 3) := by decide +kernel
theorem dX2_take_69 : decode cX2_take 69 = .ok (.iload_n 2, 1) := by decide +kernel
theorem dX2_take_70 : decode cX2_take 70 = .ok (.ireturn, 1) := by decide +kernel
theorem dX2_startOf_0 : decode cX2_startOf 0 = .ok (.aload_n 0, 1) := by decide +kernel
theorem dX2_startOf_1 : decode cX2_startOf 1 = .ok (.iload_n 1, 1) := by decide +kernel
theorem dX2_startOf_2 : decode cX2_startOf 2 = .ok (.invokevirtual 36, 3) := by decide +kernel
theorem dX2_startOf_5 : decode cX2_startOf 5 = .ok (.ifCond .eq 12, 3) := by decide +kernel
theorem dX2_startOf_8 : decode cX2_startOf 8 = .ok (.aload_n 0, 1) := by decide +kernel
theorem dX2_startOf_9 : decode cX2_startOf 9 = .ok (.getfield 20, 3) := by decide +kernel
theorem dX2_startOf_12 : decode cX2_startOf 12 = .ok (.iload_n 1, 1) := by decide +kernel
theorem dX2_startOf_13 : decode cX2_startOf 13 = .ok (.iaload, 1) := by decide +kernel
theorem dX2_startOf_14 : decode cX2_startOf 14 = .ok (.goto 10, 3) := by decide +kernel
theorem dX2_startOf_17 : decode cX2_startOf 17 = .ok (.aload_n 0, 1) := by decide +kernel
theorem dX2_startOf_18 : decode cX2_startOf 18 = .ok (.getfield 14, 3) := by decide +kernel
theorem dX2_startOf_21 : decode cX2_startOf 21 = .ok (.getfield 28, 3) := by decide +kernel
theorem dX2_startOf_24 : decode cX2_startOf 24 = .ok (.ireturn, 1) := by decide +kernel
theorem dX2_sizeOf_0 : decode cX2_sizeOf 0 = .ok (.aload_n 0, 1) := by decide +kernel
theorem dX2_sizeOf_1 : decode cX2_sizeOf 1 = .ok (.iload_n 1, 1) := by decide +kernel
theorem dX2_sizeOf_2 : decode cX2_sizeOf 2 = .ok (.invokevirtual 36, 3) := by decide +kernel
theorem dX2_sizeOf_5 : decode cX2_sizeOf 5 = .ok (.ifCond .eq 19, 3) := by decide +kernel
theorem dX2_sizeOf_8 : decode cX2_sizeOf 8 = .ok (.aload_n 0, 1) := by decide +kernel
theorem dX2_sizeOf_9 : decode cX2_sizeOf 9 = .ok (.iload_n 1, 1) := by decide +kernel
theorem dX2_sizeOf_10 : decode cX2_sizeOf 10 = .ok (.iconst 1, 1) := by decide +kernel
theorem dX2_sizeOf_11 : decode cX2_sizeOf 11 = .ok (.iadd, 1) := by decide +kernel
theorem dX2_sizeOf_12 : decode cX2_sizeOf 12 = .ok (.invokevirtual 40, 3) := by decide +kernel
theorem dX2_sizeOf_15 : decode cX2_sizeOf 15 = .ok (.aload_n 0, 1) := by decide +kernel
theorem dX2_sizeOf_16 : decode cX2_sizeOf 16 = .ok (.iload_n 1, 1) := by decide +kernel
theorem dX2_sizeOf_17 : decode cX2_sizeOf 17 = .ok (.invokevirtual 40, 3) := by decide +kernel
theorem dX2_sizeOf_20 : decode cX2_sizeOf 20 = .ok (.isub, 1) := by decide +kernel
theorem dX2_sizeOf_21 : decode cX2_sizeOf 21 = .ok (.goto 4, 3) := by decide +kernel
theorem dX2_sizeOf_24 : decode cX2_sizeOf 24 = .ok (.iconst 0, 1) := by decide +kernel
theorem dX2_sizeOf_25 : decode cX2_sizeOf 25 = .ok (.ireturn, 1) := by decide +kernel
theorem dX2_parcelAt_0 : decode cX2_parcelAt 0 = .ok (.aload_n 0, 1) := by decide +kernel
theorem dX2_parcelAt_1 : decode cX2_parcelAt 1 = .ok (.getfield 14, 3) := by decide +kernel
theorem dX2_parcelAt_4 : decode cX2_parcelAt 4 = .ok (.aload_n 0, 1) := by decide +kernel
theorem dX2_parcelAt_5 : decode cX2_parcelAt 5 = .ok (.iload_n 1, 1) := by decide +kernel
theorem dX2_parcelAt_6 : decode cX2_parcelAt 6 = .ok (.invokevirtual 40, 3) := by decide +kernel
theorem dX2_parcelAt_9 : decode cX2_parcelAt 9 = .ok (.iload_n 2, 1) := by decide +kernel
theorem dX2_parcelAt_10 : decode cX2_parcelAt 10 = .ok (.iadd, 1) := by decide +kernel
theorem dX2_parcelAt_11 : decode cX2_parcelAt 11 = .ok (.invokevirtual 29, 3) := by decide +kernel
theorem dX2_parcelAt_14 : decode cX2_parcelAt 14 = .ok (.ireturn, 1) := by decide +kernel
theorem dX2_sealOf_0 : decode cX2_sealOf 0 = .ok (.aload_n 0, 1) := by decide +kernel
theorem dX2_sealOf_1 : decode cX2_sealOf 1 = .ok (.getfield 14, 3) := by decide +kernel
theorem dX2_sealOf_4 : decode cX2_sealOf 4 = .ok (.aload_n 0, 1) := by decide +kernel
theorem dX2_sealOf_5 : decode cX2_sealOf 5 = .ok (.iload_n 1, 1) := by decide +kernel
theorem dX2_sealOf_6 : decode cX2_sealOf 6 = .ok (.invokevirtual 40, 3) := by decide +kernel
theorem dX2_sealOf_9 : decode cX2_sealOf 9 = .ok (.aload_n 0, 1) := by decide +kernel
theorem dX2_sealOf_10 : decode cX2_sealOf 10 = .ok (.iload_n 1, 1) := by decide +kernel
theorem dX2_sealOf_11 : decode cX2_sealOf 11 = .ok (.invokevirtual 40, 3) := by decide +kernel
theorem dX2_sealOf_14 : decode cX2_sealOf 14 = .ok (.aload_n 0, 1) := by decide +kernel
theorem dX2_sealOf_15 : decode cX2_sealOf 15 = .ok (.iload_n 1, 1) := by decide +kernel
theorem dX2_sealOf_16 : decode cX2_sealOf 16 = .ok (.invokevirtual 43, 3) := by decide +kernel
theorem dX2_sealOf_19 : decode cX2_sealOf 19 = .ok (.iadd, 1) := by decide +kernel
theorem dX2_sealOf_20 : decode cX2_sealOf 20 = .ok (.invokevirtual 46, 3) := by decide +kernel
theorem dX2_sealOf_23 : decode cX2_sealOf 23 = .ok (.ireturn, 1) := by decide +kernel
theorem dX3_init_0 : decode cX3_init 0 = .ok (.aload_n 0, 1) := by decide +kernel
theorem dX3_init_1 : decode cX3_init 1 = .ok (.invokespecial 3, 3) := by decide +kernel
theorem dX3_init_4 : decode cX3_init 4 = .ok (.aload_n 0, 1) := by decide +kernel
theorem dX3_init_5 : decode cX3_init 5 = .ok (.new 9, 3) := by decide +kernel
theorem dX3_init_8 : decode cX3_init 8 = .ok (.dup, 1) := by decide +kernel
theorem dX3_init_9 : decode cX3_init 9 = .ok (.invokespecial 11, 3) := by decide +kernel
theorem dX3_init_12 : decode cX3_init 12 = .ok (.putfield 12, 3) := by decide +kernel
theorem dX3_init_15 : decode cX3_init 15 = .ok (.aload_n 0, 1) := by decide +kernel
theorem dX3_init_16 : decode cX3_init 16 = .ok (.bipush 20, 2) := by decide +kernel
theorem dX3_init_18 : decode cX3_init 18 = .ok (.newarray .int, 2) := by decide +kernel
theorem dX3_init_20 : decode cX3_init 20 = .ok (.putfield 18, 3) := by decide +kernel
theorem dX3_init_23 : decode cX3_init 23 = .ok (.aload_n 0, 1) := by decide +kernel
theorem dX3_init_24 : decode cX3_init 24 = .ok (.bipush 20, 2) := by decide +kernel
theorem dX3_init_26 : decode cX3_init 26 = .ok (.newarray .int, 2) := by decide +kernel
theorem dX3_init_28 : decode cX3_init 28 = .ok (.putfield 22, 3) := by decide +kernel
theorem dX3_init_31 : decode cX3_init 31 = .ok (.aload_n 0, 1) := by decide +kernel
theorem dX3_init_32 : decode cX3_init 32 = .ok (.bipush 20, 2) := by decide +kernel
theorem dX3_init_34 : decode cX3_init 34 = .ok (.newarray .int, 2) := by decide +kernel
theorem dX3_init_36 : decode cX3_init 36 = .ok (.putfield 25, 3) := by decide +kernel
theorem dX3_init_39 : decode cX3_init 39 = .ok (.aload_n 0, 1) := by decide +kernel
theorem dX3_init_40 : decode cX3_init 40 = .ok (.bipush 6, 2) := by decide +kernel
theorem dX3_init_42 : decode cX3_init 42 = .ok (.newarray .int, 2) := by decide +kernel
theorem dX3_init_44 : decode cX3_init 44 = .ok (.putfield 28, 3) := by decide +kernel
theorem dX3_init_47 : decode cX3_init 47 = .ok (.aload_n 0, 1) := by decide +kernel
theorem dX3_init_48 : decode cX3_init 48 = .ok (.aload_n 1, 1) := by decide +kernel
theorem dX3_init_49 : decode cX3_init 49 = .ok (.putfield 31, 3) := by decide +kernel
theorem dX3_init_52 : decode cX3_init 52 = .ok (.aload_n 0, 1) := by decide +kernel
theorem dX3_init_53 : decode cX3_init 53 = .ok (.aload_n 2, 1) := by decide +kernel
theorem dX3_init_54 : decode cX3_init 54 = .ok (.putfield 35, 3) := by decide +kernel
theorem dX3_init_57 : decode cX3_init 57 = .ok (.aload_n 0, 1) := by decide +kernel
theorem dX3_init_58 : decode cX3_init 58 = .ok (.aload_n 3, 1) := by decide +kernel
theorem dX3_init_59 : decode cX3_init 59 = .ok (.putfield 39, 3) := by decide +kernel
theorem dX3_init_62 : decode cX3_init 62 = .ok (.return_, 1) := by decide +kernel
theorem dX3_byOrigin_0 : decode cX3_byOrigin 0 = .ok (.aload_n 0, 1) := by decide +kernel
theorem dX3_byOrigin_1 : decode cX3_byOrigin 1 = .ok (.invokevirtual 42, 3) := by decide +kernel
theorem dX3_byOrigin_4 : decode cX3_byOrigin 4 = .ok (.aload_n 0, 1) := by decide +kernel
theorem dX3_byOrigin_5 : decode cX3_byOrigin 5 = .ok (.getfield 12, 3) := by decide +kernel
theorem dX3_byOrigin_8 : decode cX3_byOrigin 8 = .ok (.aload_n 0, 1) := by decide +kernel
theorem dX3_byOrigin_9 : decode cX3_byOrigin 9 = .ok (.getfield 39, 3) := by decide +kernel
theorem dX3_byOrigin_12 : decode cX3_byOrigin 12 = .ok (.invokevirtual 45, 3) := by decide +kernel
theorem dX3_byOrigin_15 : decode cX3_byOrigin 15 = .ok (.iconst 0, 1) := by decide +kernel
theorem dX3_byOrigin_16 : decode cX3_byOrigin 16 = .ok (.istore_n 2, 1) := by decide +kernel
theorem dX3_byOrigin_17 : decode cX3_byOrigin 17 = .ok (.iconst 0, 1) := by decide +kernel
theorem dX3_byOrigin_18 : decode cX3_byOrigin 18 = .ok (.istore_n 3, 1) := by decide +kernel
theorem dX3_byOrigin_19 : decode cX3_byOrigin 19 = .ok (.iload_n 3, 1) := by decide +kernel
theorem dX3_byOrigin_20 : decode cX3_byOrigin 20 = .ok (.iload_n 1, 1) := by decide +kernel
theorem dX3_byOrigin_21 : decode cX3_byOrigin 21 = .ok (.if_icmp .ge 16, 3) := by decide +kernel
theorem dX3_byOrigin_24 : decode cX3_byOrigin 24 = .ok (.iload_n 2, 1) := by decide +kernel
theorem dX3_byOrigin_25 : decode cX3_byOrigin 25 = .ok (.aload_n 0, 1) := by decide +kernel
theorem dX3_byOrigin_26 : decode cX3_byOrigin 26 = .ok (.invokevirtual 49, 3) := by decide +kernel
theorem dX3_byOrigin_29 : decode cX3_byOrigin 29 = .ok (.iadd, 1) := by decide +kernel
theorem dX3_byOrigin_30 : decode cX3_byOrigin 30 = .ok (.istore_n 2, 1) := by decide +kernel
theorem dX3_byOrigin_31 : decode cX3_byOrigin 31 = .ok (.iinc 3 1, 3) := by decide +kernel
theorem dX3_byOrigin_34 : decode cX3_byOrigin 34 = .ok (.goto (-15), 3) := by decide +kernel
theorem dX3_byOrigin_37 : decode cX3_byOrigin 37 = .ok (.iload_n 2, 1) := by decide +kernel
theorem dX3_byOrigin_38 : decode cX3_byOrigin 38 = .ok (.ireturn, 1) := by decide +kernel
theorem dX3_byTrays_0 : decode cX3_byTrays 0 = .ok (.aload_n 0, 1) := by decide +kernel
theorem dX3_byTrays_1 : decode cX3_byTrays 1 = .ok (.invokevirtual 42, 3) := by decide +kernel
theorem dX3_byTrays_4 : decode cX3_byTrays 4 = .ok (.iconst 0, 1) := by decide +kernel
theorem dX3_byTrays_5 : decode cX3_byTrays 5 = .ok (.istore_n 2, 1) := by decide +kernel
theorem dX3_byTrays_6 : decode cX3_byTrays 6 = .ok (.iload_n 2, 1) := by decide +kernel
theorem dX3_byTrays_7 : decode cX3_byTrays 7 = .ok (.bipush 20, 2) := by decide +kernel
theorem dX3_byTrays_9 : decode cX3_byTrays 9 = .ok (.if_icmp .ge 44, 3) := by decide +kernel
theorem dX3_byTrays_12 : decode cX3_byTrays 12 = .ok (.aload_n 0, 1) := by decide +kernel
theorem dX3_byTrays_13 : decode cX3_byTrays 13 = .ok (.getfield 18, 3) := by decide +kernel
theorem dX3_byTrays_16 : decode cX3_byTrays 16 = .ok (.iload_n 2, 1) := by decide +kernel
theorem dX3_byTrays_17 : decode cX3_byTrays 17 = .ok (.iload_n 2, 1) := by decide +kernel
theorem dX3_byTrays_18 : decode cX3_byTrays 18 = .ok (.iastore, 1) := by decide +kernel
theorem dX3_byTrays_19 : decode cX3_byTrays 19 = .ok (.aload_n 0, 1) := by decide +kernel
theorem dX3_byTrays_20 : decode cX3_byTrays 20 = .ok (.getfield 22, 3) := by decide +kernel
theorem dX3_byTrays_23 : decode cX3_byTrays 23 = .ok (.iload_n 2, 1) := by decide +kernel
theorem dX3_byTrays_24 : decode cX3_byTrays 24 = .ok (.aload_n 0, 1) := by decide +kernel
theorem dX3_byTrays_25 : decode cX3_byTrays 25 = .ok (.getfield 39, 3) := by decide +kernel
theorem dX3_byTrays_28 : decode cX3_byTrays 28 = .ok (.iload_n 2, 1) := by decide +kernel
theorem dX3_byTrays_29 : decode cX3_byTrays 29 = .ok (.invokevirtual 53, 3) := by decide +kernel
theorem dX3_byTrays_32 : decode cX3_byTrays 32 = .ok (.iastore, 1) := by decide +kernel
theorem dX3_byTrays_33 : decode cX3_byTrays 33 = .ok (.aload_n 0, 1) := by decide +kernel
theorem dX3_byTrays_34 : decode cX3_byTrays 34 = .ok (.getfield 25, 3) := by decide +kernel
theorem dX3_byTrays_37 : decode cX3_byTrays 37 = .ok (.iload_n 2, 1) := by decide +kernel
theorem dX3_byTrays_38 : decode cX3_byTrays 38 = .ok (.aload_n 0, 1) := by decide +kernel
theorem dX3_byTrays_39 : decode cX3_byTrays 39 = .ok (.getfield 39, 3) := by decide +kernel
theorem dX3_byTrays_42 : decode cX3_byTrays 42 = .ok (.iload_n 2, 1) := by decide +kernel
theorem dX3_byTrays_43 : decode cX3_byTrays 43 = .ok (.invokevirtual 57, 3) := by decide +kernel
theorem dX3_byTrays_46 : decode cX3_byTrays 46 = .ok (.iastore, 1) := by decide +kernel
theorem dX3_byTrays_47 : decode cX3_byTrays 47 = .ok (.iinc 2 1, 3) := by decide +kernel
theorem dX3_byTrays_50 : decode cX3_byTrays 50 = .ok (.goto (-44), 3) := by decide +kernel
theorem dX3_byTrays_53 : decode cX3_byTrays 53 = .ok (.iconst 0, 1) := by decide +kernel
theorem dX3_byTrays_54 : decode cX3_byTrays 54 = .ok (.istore_n 2, 1) := by decide +kernel
theorem dX3_byTrays_55 : decode cX3_byTrays 55 = .ok (.iconst 0, 1) := by decide +kernel
theorem dX3_byTrays_56 : decode cX3_byTrays 56 = .ok (.istore_n 3, 1) := by decide +kernel
theorem dX3_byTrays_57 : decode cX3_byTrays 57 = .ok (.iload_n 3, 1) := by decide +kernel
theorem dX3_byTrays_58 : decode cX3_byTrays 58 = .ok (.iload_n 1, 1) := by decide +kernel
theorem dX3_byTrays_59 : decode cX3_byTrays 59 = .ok (.if_icmp .ge 46, 3) := by decide +kernel
theorem dX3_byTrays_62 : decode cX3_byTrays 62 = .ok (.iconst 0, 1) := by decide +kernel
theorem dX3_byTrays_63 : decode cX3_byTrays 63 = .ok (.istore 4, 2) := by decide +kernel
theorem dX3_byTrays_65 : decode cX3_byTrays 65 = .ok (.iload 4, 2) := by decide +kernel
theorem dX3_byTrays_67 : decode cX3_byTrays 67 = .ok (.aload_n 0, 1) := by decide +kernel
theorem dX3_byTrays_68 : decode cX3_byTrays 68 = .ok (.getfield 31, 3) := by decide +kernel
theorem dX3_byTrays_71 : decode cX3_byTrays 71 = .ok (.getfield 60, 3) := by decide +kernel
theorem dX3_byTrays_74 : decode cX3_byTrays 74 = .ok (.if_icmp .gt 25, 3) := by decide +kernel
theorem dX3_byTrays_77 : decode cX3_byTrays 77 = .ok (.iload 4, 2) := by decide +kernel
theorem dX3_byTrays_79 : decode cX3_byTrays 79 = .ok (.bipush 20, 2) := by decide +kernel
theorem dX3_byTrays_81 : decode cX3_byTrays 81 = .ok (.if_icmp .ge 18, 3) := by decide +kernel
theorem dX3_byTrays_84 : decode cX3_byTrays 84 = .ok (.iload_n 2, 1) := by decide +kernel
theorem dX3_byTrays_85 : decode cX3_byTrays 85 = .ok (.aload_n 0, 1) := by decide +kernel
theorem dX3_byTrays_86 : decode cX3_byTrays 86 = .ok (.iload 4, 2) := by decide +kernel
theorem dX3_byTrays_88 : decode cX3_byTrays 88 = .ok (.invokevirtual 66, 3) := by decide +kernel
theorem dX3_byTrays_91 : decode cX3_byTrays 91 = .ok (.iadd, 1) := by decide +kernel
theorem dX3_byTrays_92 : decode cX3_byTrays 92 = .ok (.istore_n 2, 1) := by decide +kernel
theorem dX3_byTrays_93 : decode cX3_byTrays 93 = .ok (.iinc 4 1, 3) := by decide +kernel
theorem dX3_byTrays_96 : decode cX3_byTrays 96 = .ok (.goto (-31), 3) := by decide +kernel
theorem dX3_byTrays_99 : decode cX3_byTrays 99 = .ok (.iinc 3 1, 3) := by decide +kernel
theorem dX3_byTrays_102 : decode cX3_byTrays 102 = .ok (.goto (-45), 3) := by decide +kernel
theorem dX3_byTrays_105 : decode cX3_byTrays 105 = .ok (.iload_n 2, 1) := by decide +kernel
theorem dX3_byTrays_106 : decode cX3_byTrays 106 = .ok (.ireturn, 1) := by decide +kernel
theorem dX3_begin_0 : decode cX3_begin 0 = .ok (.aload_n 0, 1) := by decide +kernel
theorem dX3_begin_1 : decode cX3_begin 1 = .ok (.aload_n 0, 1) := by decide +kernel
theorem dX3_begin_2 : decode cX3_begin 2 = .ok (.getfield 35, 3) := by decide +kernel
theorem dX3_begin_5 : decode cX3_begin 5 = .ok (.getfield 69, 3) := by decide +kernel
theorem dX3_begin_8 : decode cX3_begin 8 = .ok (.putfield 74, 3) := by decide +kernel
theorem dX3_begin_11 : decode cX3_begin 11 = .ok (.iconst 0, 1) := by decide +kernel
theorem dX3_begin_12 : decode cX3_begin 12 = .ok (.istore_n 1, 1) := by decide +kernel
theorem dX3_begin_13 : decode cX3_begin 13 = .ok (.iload_n 1, 1) := by decide +kernel
theorem dX3_begin_14 : decode cX3_begin 14 = .ok (.bipush 6, 2) := by decide +kernel
theorem dX3_begin_16 : decode cX3_begin 16 = .ok (.if_icmp .ge 39, 3) := by decide +kernel
theorem dX3_begin_19 : decode cX3_begin 19 = .ok (.aload_n 0, 1) := by decide +kernel
theorem dX3_begin_20 : decode cX3_begin 20 = .ok (.getfield 31, 3) := by decide +kernel
theorem dX3_begin_23 : decode cX3_begin 23 = .ok (.iload_n 1, 1) := by decide +kernel
theorem dX3_begin_24 : decode cX3_begin 24 = .ok (.invokevirtual 77, 3) := by decide +kernel
theorem dX3_begin_27 : decode cX3_begin 27 = .ok (.astore_n 2, 1) := by decide +kernel
theorem dX3_begin_28 : decode cX3_begin 28 = .ok (.aload_n 0, 1) := by decide +kernel
theorem dX3_begin_29 : decode cX3_begin 29 = .ok (.getfield 28, 3) := by decide +kernel
theorem dX3_begin_32 : decode cX3_begin 32 = .ok (.iload_n 1, 1) := by decide +kernel
theorem dX3_begin_33 : decode cX3_begin 33 = .ok (.aload_n 2, 1) := by decide +kernel
theorem dX3_begin_34 : decode cX3_begin 34 = .ok (.ifnull 13, 3) := by decide +kernel
theorem dX3_begin_37 : decode cX3_begin 37 = .ok (.aload_n 2, 1) := by decide +kernel
theorem dX3_begin_38 : decode cX3_begin 38 = .ok (.getfield 81, 3) := by decide +kernel
theorem dX3_begin_41 : decode cX3_begin 41 = .ok (.getfield 87, 3) := by decide +kernel
theorem dX3_begin_44 : decode cX3_begin 44 = .ok (.goto 4, 3) := by decide +kernel
theorem dX3_begin_47 : decode cX3_begin 47 = .ok (.iconst 0, 1) := by decide +kernel
theorem dX3_begin_48 : decode cX3_begin 48 = .ok (.iastore, 1) := by decide +kernel
theorem dX3_begin_49 : decode cX3_begin 49 = .ok (.iinc 1 1, 3) := by decide +kernel
theorem dX3_begin_52 : decode cX3_begin 52 = .ok (.goto (-39), 3) := by decide +kernel
theorem dX3_begin_55 : decode cX3_begin 55 = .ok (.return_, 1) := by decide +kernel
theorem dX3_moveOrigin_0 : decode cX3_moveOrigin 0 = .ok (.aload_n 0, 1) := by decide +kernel
theorem dX3_moveOrigin_1 : decode cX3_moveOrigin 1 = .ok (.getfield 12, 3) := by decide +kernel
theorem dX3_moveOrigin_4 : decode cX3_moveOrigin 4 = .ok (.invokevirtual 92, 3) := by decide +kernel
theorem dX3_moveOrigin_7 : decode cX3_moveOrigin 7 = .ok (.aload_n 0, 1) := by decide +kernel
theorem dX3_moveOrigin_8 : decode cX3_moveOrigin 8 = .ok (.getfield 31, 3) := by decide +kernel
theorem dX3_moveOrigin_11 : decode cX3_moveOrigin 11 = .ok (.aload_n 0, 1) := by decide +kernel
theorem dX3_moveOrigin_12 : decode cX3_moveOrigin 12 = .ok (.getfield 12, 3) := by decide +kernel
theorem dX3_moveOrigin_15 : decode cX3_moveOrigin 15 = .ok (.iconst 0, 1) := by decide +kernel
theorem dX3_moveOrigin_16 : decode cX3_moveOrigin 16 = .ok (.invokevirtual 53, 3) := by decide +kernel
theorem dX3_moveOrigin_19 : decode cX3_moveOrigin 19 = .ok (.aload_n 0, 1) := by decide +kernel
theorem dX3_moveOrigin_20 : decode cX3_moveOrigin 20 = .ok (.getfield 74, 3) := by decide +kernel
theorem dX3_moveOrigin_23 : decode cX3_moveOrigin 23 = .ok (.aload_n 0, 1) := by decide +kernel
theorem dX3_moveOrigin_24 : decode cX3_moveOrigin 24 = .ok (.getfield 35, 3) := by decide +kernel
theorem dX3_moveOrigin_27 : decode cX3_moveOrigin 27 = .ok (.getfield 95, 3) := by decide +kernel
theorem dX3_moveOrigin_30 : decode cX3_moveOrigin 30 = .ok (.invokevirtual 98, 3) := by decide +kernel
theorem dX3_moveOrigin_33 : decode cX3_moveOrigin 33 = .ok (.ifCond .eq 25, 3) := by decide +kernel
theorem dX3_moveOrigin_36 : decode cX3_moveOrigin 36 = .ok (.aload_n 0, 1) := by decide +kernel
theorem dX3_moveOrigin_37 : decode cX3_moveOrigin 37 = .ok (.getfield 12, 3) := by decide +kernel
theorem dX3_moveOrigin_40 : decode cX3_moveOrigin 40 = .ok (.iconst 0, 1) := by decide +kernel
theorem dX3_moveOrigin_41 : decode cX3_moveOrigin 41 = .ok (.aload_n 0, 1) := by decide +kernel
theorem dX3_moveOrigin_42 : decode cX3_moveOrigin 42 = .ok (.getfield 74, 3) := by decide +kernel
theorem dX3_moveOrigin_45 : decode cX3_moveOrigin 45 = .ok (.invokevirtual 102, 3) := by decide +kernel
theorem dX3_moveOrigin_48 : decode cX3_moveOrigin 48 = .ok (.aload_n 0, 1) := by decide +kernel
theorem dX3_moveOrigin_49 : decode cX3_moveOrigin 49 = .ok (.dup, 1) := by decide +kernel
theorem dX3_moveOrigin_50 : decode cX3_moveOrigin 50 = .ok (.getfield 74, 3) := by decide +kernel
theorem dX3_moveOrigin_53 : decode cX3_moveOrigin 53 = .ok (.iconst 1, 1) := by decide +kernel
theorem dX3_moveOrigin_54 : decode cX3_moveOrigin 54 = .ok (.iadd, 1) := by decide +kernel
theorem dX3_moveOrigin_55 : decode cX3_moveOrigin 55 = .ok (.putfield 74, 3) := by decide +kernel
theorem dX3_moveOrigin_58 : decode cX3_moveOrigin 58 = .ok (.iconst 0, 1) := by decide +kernel
theorem dX3_moveOrigin_59 : decode cX3_moveOrigin 59 = .ok (.istore_n 1, 1) := by decide +kernel
theorem dX3_moveOrigin_60 : decode cX3_moveOrigin 60 = .ok (.iconst 0, 1) := by decide +kernel
theorem dX3_moveOrigin_61 : decode cX3_moveOrigin 61 = .ok (.istore_n 2, 1) := by decide +kernel
theorem dX3_moveOrigin_62 : decode cX3_moveOrigin 62 = .ok (.iload_n 2, 1) := by decide +kernel
theorem dX3_moveOrigin_63 : decode cX3_moveOrigin 63 = .ok (.bipush 6, 2) := by decide +kernel
theorem dX3_moveOrigin_65 : decode cX3_moveOrigin 65 = .ok (.if_icmp .ge 55, 3) := by decide +kernel
theorem dX3_moveOrigin_68 : decode cX3_moveOrigin 68 = .ok (.aload_n 0, 1) := by decide +kernel
theorem dX3_moveOrigin_69 : decode cX3_moveOrigin 69 = .ok (.getfield 31, 3) := by decide +kernel
theorem dX3_moveOrigin_72 : decode cX3_moveOrigin 72 = .ok (.iload_n 2, 1) := by decide +kernel
theorem dX3_moveOrigin_73 : decode cX3_moveOrigin 73 = .ok (.invokevirtual 77, 3) := by decide +kernel
theorem dX3_moveOrigin_76 : decode cX3_moveOrigin 76 = .ok (.astore_n 3, 1) := by decide +kernel
theorem dX3_moveOrigin_77 : decode cX3_moveOrigin 77 = .ok (.aload_n 3, 1) := by decide +kernel
theorem dX3_moveOrigin_78 : decode cX3_moveOrigin 78 = .ok (.ifnull 36, 3) := by decide +kernel
theorem dX3_moveOrigin_81 : decode cX3_moveOrigin 81 = .ok (.aload_n 0, 1) := by decide +kernel
theorem dX3_moveOrigin_82 : decode cX3_moveOrigin 82 = .ok (.iload_n 2, 1) := by decide +kernel
theorem dX3_moveOrigin_83 : decode cX3_moveOrigin 83 = .ok (.aload_n 0, 1) := by decide +kernel
theorem dX3_moveOrigin_84 : decode cX3_moveOrigin 84 = .ok (.getfield 12, 3) := by decide +kernel
theorem dX3_moveOrigin_87 : decode cX3_moveOrigin 87 = .ok (.aload_n 3, 1) := by decide +kernel
theorem dX3_moveOrigin_88 : decode cX3_moveOrigin 88 = .ok (.getfield 106, 3) := by decide +kernel
theorem dX3_moveOrigin_91 : decode cX3_moveOrigin 91 = .ok (.invokevirtual 53, 3) := by decide +kernel
theorem dX3_moveOrigin_94 : decode cX3_moveOrigin 94 = .ok (.invokevirtual 109, 3) := by decide +kernel
theorem dX3_moveOrigin_97 : decode cX3_moveOrigin 97 = .ok (.ifCond .eq 17, 3) := by decide +kernel
theorem dX3_moveOrigin_100 : decode cX3_moveOrigin 100 = .ok (.aload_n 0, 1) := by decide +kernel
theorem dX3_moveOrigin_101 : decode cX3_moveOrigin 101 = .ok (.getfield 12, 3) := by decide +kernel
theorem dX3_moveOrigin_104 : decode cX3_moveOrigin 104 = .ok (.aload_n 3, 1) := by decide +kernel
theorem dX3_moveOrigin_105 : decode cX3_moveOrigin 105 = .ok (.getfield 106, 3) := by decide +kernel
theorem dX3_moveOrigin_108 : decode cX3_moveOrigin 108 = .ok (.invokevirtual 113, 3) := by decide +kernel
theorem dX3_moveOrigin_111 : decode cX3_moveOrigin 111 = .ok (.iinc 1 1, 3) := by decide +kernel
theorem dX3_moveOrigin_114 : decode cX3_moveOrigin 114 = .ok (.iinc 2 1, 3) := by decide +kernel
theorem dX3_moveOrigin_117 : decode cX3_moveOrigin 117 = .ok (.goto (-55), 3) := by decide +kernel
theorem dX3_moveOrigin_120 : decode cX3_moveOrigin 120 = .ok (.aload_n 0, 1) := by decide +kernel
theorem dX3_moveOrigin_121 : decode cX3_moveOrigin 121 = .ok (.getfield 31, 3) := by decide +kernel
theorem dX3_moveOrigin_124 : decode cX3_moveOrigin 124 = .ok (.aload_n 0, 1) := by decide +kernel
theorem dX3_moveOrigin_125 : decode cX3_moveOrigin 125 = .ok (.getfield 12, 3) := by decide +kernel
theorem dX3_moveOrigin_128 : decode cX3_moveOrigin 128 = .ok (.aload_n 0, 1) := by decide +kernel
theorem dX3_moveOrigin_129 : decode cX3_moveOrigin 129 = .ok (.getfield 31, 3) := by decide +kernel
theorem dX3_moveOrigin_132 : decode cX3_moveOrigin 132 = .ok (.getfield 60, 3) := by decide +kernel
theorem dX3_moveOrigin_135 : decode cX3_moveOrigin 135 = .ok (.invokevirtual 53, 3) := by decide +kernel
theorem dX3_moveOrigin_138 : decode cX3_moveOrigin 138 = .ok (.aload_n 0, 1) := by decide +kernel
theorem dX3_moveOrigin_139 : decode cX3_moveOrigin 139 = .ok (.getfield 12, 3) := by decide +kernel
theorem dX3_moveOrigin_142 : decode cX3_moveOrigin 142 = .ok (.aload_n 0, 1) := by decide +kernel
theorem dX3_moveOrigin_143 : decode cX3_moveOrigin 143 = .ok (.getfield 31, 3) := by decide +kernel
theorem dX3_moveOrigin_146 : decode cX3_moveOrigin 146 = .ok (.getfield 60, 3) := by decide +kernel
theorem dX3_moveOrigin_149 : decode cX3_moveOrigin 149 = .ok (.invokevirtual 57, 3) := by decide +kernel
theorem dX3_moveOrigin_152 : decode cX3_moveOrigin 152 = .ok (.invokevirtual 117, 3) := by decide +kernel
theorem dX3_moveOrigin_155 : decode cX3_moveOrigin 155 = .ok (.ifCond .eq 20, 3) := by decide +kernel
theorem dX3_moveOrigin_158 : decode cX3_moveOrigin 158 = .ok (.aload_n 0, 1) := by decide +kernel
theorem dX3_moveOrigin_159 : decode cX3_moveOrigin 159 = .ok (.getfield 12, 3) := by decide +kernel
theorem dX3_moveOrigin_162 : decode cX3_moveOrigin 162 = .ok (.aload_n 0, 1) := by decide +kernel
theorem dX3_moveOrigin_163 : decode cX3_moveOrigin 163 = .ok (.getfield 31, 3) := by decide +kernel
theorem dX3_moveOrigin_166 : decode cX3_moveOrigin 166 = .ok (.getfield 60, 3) := by decide +kernel
theorem dX3_moveOrigin_169 : decode cX3_moveOrigin 169 = .ok (.invokevirtual 113, 3) := by decide +kernel
theorem dX3_moveOrigin_172 : decode cX3_moveOrigin 172 = .ok (.iinc 1 1, 3) := by decide +kernel
theorem dX3_moveOrigin_175 : decode cX3_moveOrigin 175 = .ok (.iload_n 1, 1) := by decide +kernel
theorem dX3_moveOrigin_176 : decode cX3_moveOrigin 176 = .ok (.ireturn, 1) := by decide +kernel
theorem dX3_moveTray_0 : decode cX3_moveTray 0 = .ok (.iload_n 1, 1) := by decide +kernel
theorem dX3_moveTray_1 : decode cX3_moveTray 1 = .ok (.ifCond .lt 9, 3) := by decide +kernel
theorem dX3_moveTray_4 : decode cX3_moveTray 4 = .ok (.iload_n 1, 1) := by decide +kernel
theorem dX3_moveTray_5 : decode cX3_moveTray 5 = .ok (.bipush 20, 2) := by decide +kernel
theorem dX3_moveTray_7 : decode cX3_moveTray 7 = .ok (.if_icmp .lt 5, 3) := by decide +kernel
theorem dX3_moveTray_10 : decode cX3_moveTray 10 = .ok (.iconst 0, 1) := by decide +kernel
theorem dX3_moveTray_11 : decode cX3_moveTray 11 = .ok (.ireturn, 1) := by decide +kernel
theorem dX3_moveTray_12 : decode cX3_moveTray 12 = .ok (.aload_n 0, 1) := by decide +kernel
theorem dX3_moveTray_13 : decode cX3_moveTray 13 = .ok (.getfield 18, 3) := by decide +kernel
theorem dX3_moveTray_16 : decode cX3_moveTray 16 = .ok (.iload_n 1, 1) := by decide +kernel
theorem dX3_moveTray_17 : decode cX3_moveTray 17 = .ok (.iaload, 1) := by decide +kernel
theorem dX3_moveTray_18 : decode cX3_moveTray 18 = .ok (.aload_n 0, 1) := by decide +kernel
theorem dX3_moveTray_19 : decode cX3_moveTray 19 = .ok (.getfield 31, 3) := by decide +kernel
theorem dX3_moveTray_22 : decode cX3_moveTray 22 = .ok (.getfield 60, 3) := by decide +kernel
theorem dX3_moveTray_25 : decode cX3_moveTray 25 = .ok (.if_icmp .ge 14, 3) := by decide +kernel
theorem dX3_moveTray_28 : decode cX3_moveTray 28 = .ok (.aload_n 0, 1) := by decide +kernel
theorem dX3_moveTray_29 : decode cX3_moveTray 29 = .ok (.getfield 18, 3) := by decide +kernel
theorem dX3_moveTray_32 : decode cX3_moveTray 32 = .ok (.iload_n 1, 1) := by decide +kernel
theorem dX3_moveTray_33 : decode cX3_moveTray 33 = .ok (.iaload, 1) := by decide +kernel
theorem dX3_moveTray_34 : decode cX3_moveTray 34 = .ok (.iconst 1, 1) := by decide +kernel
theorem dX3_moveTray_35 : decode cX3_moveTray 35 = .ok (.iadd, 1) := by decide +kernel
theorem dX3_moveTray_36 : decode cX3_moveTray 36 = .ok (.goto 4, 3) := by decide +kernel
theorem dX3_moveTray_39 : decode cX3_moveTray 39 = .ok (.iconst 0, 1) := by decide +kernel
theorem dX3_moveTray_40 : decode cX3_moveTray 40 = .ok (.istore_n 2, 1) := by decide +kernel
theorem dX3_moveTray_41 : decode cX3_moveTray 41 = .ok (.aload_n 0, 1) := by decide +kernel
theorem dX3_moveTray_42 : decode cX3_moveTray 42 = .ok (.getfield 18, 3) := by decide +kernel
theorem dX3_moveTray_45 : decode cX3_moveTray 45 = .ok (.iload_n 1, 1) := by decide +kernel
theorem dX3_moveTray_46 : decode cX3_moveTray 46 = .ok (.iload_n 2, 1) := by decide +kernel
theorem dX3_moveTray_47 : decode cX3_moveTray 47 = .ok (.iastore, 1) := by decide +kernel
theorem dX3_moveTray_48 : decode cX3_moveTray 48 = .ok (.iload_n 2, 1) := by decide +kernel
theorem dX3_moveTray_49 : decode cX3_moveTray 49 = .ok (.ifCond .ne 20, 3) := by decide +kernel
theorem dX3_moveTray_52 : decode cX3_moveTray 52 = .ok (.aload_n 0, 1) := by decide +kernel
theorem dX3_moveTray_53 : decode cX3_moveTray 53 = .ok (.getfield 25, 3) := by decide +kernel
theorem dX3_moveTray_56 : decode cX3_moveTray 56 = .ok (.iload_n 1, 1) := by decide +kernel
theorem dX3_moveTray_57 : decode cX3_moveTray 57 = .ok (.dup2, 1) := by decide +kernel
theorem dX3_moveTray_58 : decode cX3_moveTray 58 = .ok (.iaload, 1) := by decide +kernel
theorem dX3_moveTray_59 : decode cX3_moveTray 59 = .ok (.iconst 1, 1) := by decide +kernel
theorem dX3_moveTray_60 : decode cX3_moveTray 60 = .ok (.iadd, 1) := by decide +kernel
theorem dX3_moveTray_61 : decode cX3_moveTray 61 = .ok (.iastore, 1) := by decide +kernel
theorem dX3_moveTray_62 : decode cX3_moveTray 62 = .ok (.aload_n 0, 1) := by decide +kernel
theorem dX3_moveTray_63 : decode cX3_moveTray 63 = .ok (.iload_n 1, 1) := by decide +kernel
theorem dX3_moveTray_64 : decode cX3_moveTray 64 = .ok (.invokevirtual 120, 3) := by decide +kernel
theorem dX3_moveTray_67 : decode cX3_moveTray 67 = .ok (.iconst 0, 1) := by decide +kernel
theorem dX3_moveTray_68 : decode cX3_moveTray 68 = .ok (.ireturn, 1) := by decide +kernel
theorem dX3_moveTray_69 : decode cX3_moveTray 69 = .ok (.iload_n 2, 1) := by decide +kernel
theorem dX3_moveTray_70 : decode cX3_moveTray 70 = .ok (.aload_n 0, 1) := by decide +kernel
theorem dX3_moveTray_71 : decode cX3_moveTray 71 = .ok (.getfield 31, 3) := by decide +kernel
theorem dX3_moveTray_74 : decode cX3_moveTray 74 = .ok (.getfield 60, 3) := by decide +kernel
theorem dX3_moveTray_77 : decode cX3_moveTray 77 = .ok (.if_icmp .ne 25, 3) := by decide +kernel
theorem dX3_moveTray_80 : decode cX3_moveTray 80 = .ok (.aload_n 0, 1) := by decide +kernel
theorem dX3_moveTray_81 : decode cX3_moveTray 81 = .ok (.getfield 31, 3) := by decide +kernel
theorem dX3_moveTray_84 : decode cX3_moveTray 84 = .ok (.aload_n 0, 1) := by decide +kernel
theorem dX3_moveTray_85 : decode cX3_moveTray 85 = .ok (.getfield 22, 3) := by decide +kernel
theorem dX3_moveTray_88 : decode cX3_moveTray 88 = .ok (.iload_n 1, 1) := by decide +kernel
theorem dX3_moveTray_89 : decode cX3_moveTray 89 = .ok (.iaload, 1) := by decide +kernel
theorem dX3_moveTray_90 : decode cX3_moveTray 90 = .ok (.aload_n 0, 1) := by decide +kernel
theorem dX3_moveTray_91 : decode cX3_moveTray 91 = .ok (.getfield 25, 3) := by decide +kernel
theorem dX3_moveTray_94 : decode cX3_moveTray 94 = .ok (.iload_n 1, 1) := by decide +kernel
theorem dX3_moveTray_95 : decode cX3_moveTray 95 = .ok (.iaload, 1) := by decide +kernel
theorem dX3_moveTray_96 : decode cX3_moveTray 96 = .ok (.invokevirtual 117, 3) := by decide +kernel
theorem dX3_moveTray_99 : decode cX3_moveTray 99 = .ok (.goto 21, 3) := by decide +kernel
theorem dX3_moveTray_102 : decode cX3_moveTray 102 = .ok (.aload_n 0, 1) := by decide +kernel
theorem dX3_moveTray_103 : decode cX3_moveTray 103 = .ok (.aload_n 0, 1) := by decide +kernel
theorem dX3_moveTray_104 : decode cX3_moveTray 104 = .ok (.getfield 31, 3) := by decide +kernel
theorem dX3_moveTray_107 : decode cX3_moveTray 107 = .ok (.iload_n 2, 1) := by decide +kernel
theorem dX3_moveTray_108 : decode cX3_moveTray 108 = .ok (.invokevirtual 123, 3) := by decide +kernel
theorem dX3_moveTray_111 : decode cX3_moveTray 111 = .ok (.aload_n 0, 1) := by decide +kernel
theorem dX3_moveTray_112 : decode cX3_moveTray 112 = .ok (.getfield 22, 3) := by decide +kernel
theorem dX3_moveTray_115 : decode cX3_moveTray 115 = .ok (.iload_n 1, 1) := by decide +kernel
theorem dX3_moveTray_116 : decode cX3_moveTray 116 = .ok (.iaload, 1) := by decide +kernel
theorem dX3_moveTray_117 : decode cX3_moveTray 117 = .ok (.invokevirtual 109, 3) := by decide +kernel
theorem dX3_moveTray_120 : decode cX3_moveTray 120 = .ok (.istore_n 3, 1) := by decide +kernel
theorem dX3_moveTray_121 : decode cX3_moveTray 121 = .ok (.iload_n 3, 1) := by decide +kernel
theorem dX3_moveTray_122 : decode cX3_moveTray 122 = .ok (.ifCond .ne 5, 3) := by decide +kernel
theorem dX3_moveTray_125 : decode cX3_moveTray 125 = .ok (.iconst 0, 1) := by decide +kernel
theorem dX3_moveTray_126 : decode cX3_moveTray 126 = .ok (.ireturn, 1) := by decide +kernel
theorem dX3_moveTray_127 : decode cX3_moveTray 127 = .ok (.aload_n 0, 1) := by decide +kernel
theorem dX3_moveTray_128 : decode cX3_moveTray 128 = .ok (.getfield 22, 3) := by decide +kernel
theorem dX3_moveTray_131 : decode cX3_moveTray 131 = .ok (.iload_n 1, 1) := by decide +kernel
theorem dX3_moveTray_132 : decode cX3_moveTray 132 = .ok (.iconst (-1), 1) := by decide +kernel
theorem dX3_moveTray_133 : decode cX3_moveTray 133 = .ok (.iastore, 1) := by decide +kernel
theorem dX3_moveTray_134 : decode cX3_moveTray 134 = .ok (.iconst 1, 1) := by decide +kernel
theorem dX3_moveTray_135 : decode cX3_moveTray 135 = .ok (.ireturn, 1) := by decide +kernel
theorem dX3_loadTray_0 : decode cX3_loadTray 0 = .ok (.iload_n 1, 1) := by decide +kernel
theorem dX3_loadTray_1 : decode cX3_loadTray 1 = .ok (.ifCond .lt 9, 3) := by decide +kernel
theorem dX3_loadTray_4 : decode cX3_loadTray 4 = .ok (.iload_n 1, 1) := by decide +kernel
theorem dX3_loadTray_5 : decode cX3_loadTray 5 = .ok (.bipush 20, 2) := by decide +kernel
theorem dX3_loadTray_7 : decode cX3_loadTray 7 = .ok (.if_icmp .lt 4, 3) := by decide +kernel
theorem dX3_loadTray_10 : decode cX3_loadTray 10 = .ok (.return_, 1) := by decide +kernel
theorem dX3_loadTray_11 : decode cX3_loadTray 11 = .ok (.aload_n 0, 1) := by decide +kernel
theorem dX3_loadTray_12 : decode cX3_loadTray 12 = .ok (.getfield 31, 3) := by decide +kernel
theorem dX3_loadTray_15 : decode cX3_loadTray 15 = .ok (.aload_n 0, 1) := by decide +kernel
theorem dX3_loadTray_16 : decode cX3_loadTray 16 = .ok (.getfield 22, 3) := by decide +kernel
theorem dX3_loadTray_19 : decode cX3_loadTray 19 = .ok (.iload_n 1, 1) := by decide +kernel
theorem dX3_loadTray_20 : decode cX3_loadTray 20 = .ok (.iaload, 1) := by decide +kernel
theorem dX3_loadTray_21 : decode cX3_loadTray 21 = .ok (.aload_n 0, 1) := by decide +kernel
theorem dX3_loadTray_22 : decode cX3_loadTray 22 = .ok (.getfield 74, 3) := by decide +kernel
theorem dX3_loadTray_25 : decode cX3_loadTray 25 = .ok (.aload_n 0, 1) := by decide +kernel
theorem dX3_loadTray_26 : decode cX3_loadTray 26 = .ok (.getfield 35, 3) := by decide +kernel
theorem dX3_loadTray_29 : decode cX3_loadTray 29 = .ok (.getfield 95, 3) := by decide +kernel
theorem dX3_loadTray_32 : decode cX3_loadTray 32 = .ok (.invokevirtual 98, 3) := by decide +kernel
theorem dX3_loadTray_35 : decode cX3_loadTray 35 = .ok (.ifCond .eq 30, 3) := by decide +kernel
theorem dX3_loadTray_38 : decode cX3_loadTray 38 = .ok (.aload_n 0, 1) := by decide +kernel
theorem dX3_loadTray_39 : decode cX3_loadTray 39 = .ok (.getfield 22, 3) := by decide +kernel
theorem dX3_loadTray_42 : decode cX3_loadTray 42 = .ok (.iload_n 1, 1) := by decide +kernel
theorem dX3_loadTray_43 : decode cX3_loadTray 43 = .ok (.aload_n 0, 1) := by decide +kernel
theorem dX3_loadTray_44 : decode cX3_loadTray 44 = .ok (.getfield 74, 3) := by decide +kernel
theorem dX3_loadTray_47 : decode cX3_loadTray 47 = .ok (.iastore, 1) := by decide +kernel
theorem dX3_loadTray_48 : decode cX3_loadTray 48 = .ok (.aload_n 0, 1) := by decide +kernel
theorem dX3_loadTray_49 : decode cX3_loadTray 49 = .ok (.getfield 25, 3) := by decide +kernel
theorem dX3_loadTray_52 : decode cX3_loadTray 52 = .ok (.iload_n 1, 1) := by decide +kernel
theorem dX3_loadTray_53 : decode cX3_loadTray 53 = .ok (.iconst 0, 1) := by decide +kernel
theorem dX3_loadTray_54 : decode cX3_loadTray 54 = .ok (.iastore, 1) := by decide +kernel
theorem dX3_loadTray_55 : decode cX3_loadTray 55 = .ok (.aload_n 0, 1) := by decide +kernel
theorem dX3_loadTray_56 : decode cX3_loadTray 56 = .ok (.dup, 1) := by decide +kernel
theorem dX3_loadTray_57 : decode cX3_loadTray 57 = .ok (.getfield 74, 3) := by decide +kernel
theorem dX3_loadTray_60 : decode cX3_loadTray 60 = .ok (.iconst 1, 1) := by decide +kernel
theorem dX3_loadTray_61 : decode cX3_loadTray 61 = .ok (.iadd, 1) := by decide +kernel
theorem dX3_loadTray_62 : decode cX3_loadTray 62 = .ok (.putfield 74, 3) := by decide +kernel
theorem dX3_loadTray_65 : decode cX3_loadTray 65 = .ok (.return_, 1) := by decide +kernel
theorem dX3_chuteGets_0 : decode cX3_chuteGets 0 = .ok (.iload_n 1, 1) := by decide +kernel
theorem dX3_chuteGets_1 : decode cX3_chuteGets 1 = .ok (.ifCond .lt 9, 3) := by decide +kernel
theorem dX3_chuteGets_4 : decode cX3_chuteGets 4 = .ok (.iload_n 1, 1) := by decide +kernel
theorem dX3_chuteGets_5 : decode cX3_chuteGets 5 = .ok (.bipush 6, 2) := by decide +kernel
theorem dX3_chuteGets_7 : decode cX3_chuteGets 7 = .ok (.if_icmp .lt 5, 3) := by decide +kernel
theorem dX3_chuteGets_10 : decode cX3_chuteGets 10 = .ok (.iconst 0, 1) := by decide +kernel
theorem dX3_chuteGets_11 : decode cX3_chuteGets 11 = .ok (.ireturn, 1) := by decide +kernel
theorem dX3_chuteGets_12 : decode cX3_chuteGets 12 = .ok (.aload_n 0, 1) := by decide +kernel
theorem dX3_chuteGets_13 : decode cX3_chuteGets 13 = .ok (.getfield 31, 3) := by decide +kernel
theorem dX3_chuteGets_16 : decode cX3_chuteGets 16 = .ok (.iload_n 1, 1) := by decide +kernel
theorem dX3_chuteGets_17 : decode cX3_chuteGets 17 = .ok (.aload_n 0, 1) := by decide +kernel
theorem dX3_chuteGets_18 : decode cX3_chuteGets 18 = .ok (.getfield 35, 3) := by decide +kernel
theorem dX3_chuteGets_21 : decode cX3_chuteGets 21 = .ok (.iload_n 2, 1) := by decide +kernel
theorem dX3_chuteGets_22 : decode cX3_chuteGets 22 = .ok (.invokevirtual 126, 3) := by decide +kernel
theorem dX3_chuteGets_25 : decode cX3_chuteGets 25 = .ok (.aload_n 0, 1) := by decide +kernel
theorem dX3_chuteGets_26 : decode cX3_chuteGets 26 = .ok (.getfield 28, 3) := by decide +kernel
theorem dX3_chuteGets_29 : decode cX3_chuteGets 29 = .ok (.iload_n 1, 1) := by decide +kernel
theorem dX3_chuteGets_30 : decode cX3_chuteGets 30 = .ok (.iaload, 1) := by decide +kernel
theorem dX3_chuteGets_31 : decode cX3_chuteGets 31 = .ok (.invokevirtual 129, 3) := by decide +kernel
theorem dX3_chuteGets_34 : decode cX3_chuteGets 34 = .ok (.ifCond .ne 5, 3) := by decide +kernel
theorem dX3_chuteGets_37 : decode cX3_chuteGets 37 = .ok (.iconst 0, 1) := by decide +kernel
theorem dX3_chuteGets_38 : decode cX3_chuteGets 38 = .ok (.ireturn, 1) := by decide +kernel
theorem dX3_chuteGets_39 : decode cX3_chuteGets 39 = .ok (.aload_n 0, 1) := by decide +kernel
theorem dX3_chuteGets_40 : decode cX3_chuteGets 40 = .ok (.getfield 28, 3) := by decide +kernel
theorem dX3_chuteGets_43 : decode cX3_chuteGets 43 = .ok (.iload_n 1, 1) := by decide +kernel
theorem dX3_chuteGets_44 : decode cX3_chuteGets 44 = .ok (.dup2, 1) := by decide +kernel
theorem dX3_chuteGets_45 : decode cX3_chuteGets 45 = .ok (.iaload, 1) := by decide +kernel
theorem dX3_chuteGets_46 : decode cX3_chuteGets 46 = .ok (.iconst 1, 1) := by decide +kernel
theorem dX3_chuteGets_47 : decode cX3_chuteGets 47 = .ok (.iadd, 1) := by decide +kernel
theorem dX3_chuteGets_48 : decode cX3_chuteGets 48 = .ok (.iastore, 1) := by decide +kernel
theorem dX3_chuteGets_49 : decode cX3_chuteGets 49 = .ok (.iconst 1, 1) := by decide +kernel
theorem dX3_chuteGets_50 : decode cX3_chuteGets 50 = .ok (.ireturn, 1) := by decide +kernel
theorem dX4_init_0 : decode cX4_init 0 = .ok (.aload_n 0, 1) := by decide +kernel
theorem dX4_init_1 : decode cX4_init 1 = .ok (.invokespecial 3, 3) := by decide +kernel
theorem dX4_init_4 : decode cX4_init 4 = .ok (.aload_n 0, 1) := by decide +kernel
theorem dX4_init_5 : decode cX4_init 5 = .ok (.sipush 300, 3) := by decide +kernel
theorem dX4_init_8 : decode cX4_init 8 = .ok (.newarray .int, 2) := by decide +kernel
theorem dX4_init_10 : decode cX4_init 10 = .ok (.putfield 9, 3) := by decide +kernel
theorem dX4_init_13 : decode cX4_init 13 = .ok (.aload_n 0, 1) := by decide +kernel
theorem dX4_init_14 : decode cX4_init 14 = .ok (.sipush 300, 3) := by decide +kernel
theorem dX4_init_17 : decode cX4_init 17 = .ok (.newarray .int, 2) := by decide +kernel
theorem dX4_init_19 : decode cX4_init 19 = .ok (.putfield 15, 3) := by decide +kernel
theorem dX4_init_22 : decode cX4_init 22 = .ok (.aload_n 0, 1) := by decide +kernel
theorem dX4_init_23 : decode cX4_init 23 = .ok (.sipush 300, 3) := by decide +kernel
theorem dX4_init_26 : decode cX4_init 26 = .ok (.newarray .char, 2) := by decide +kernel
theorem dX4_init_28 : decode cX4_init 28 = .ok (.putfield 18, 3) := by decide +kernel
theorem dX4_init_31 : decode cX4_init 31 = .ok (.aload_n 0, 1) := by decide +kernel
theorem dX4_init_32 : decode cX4_init 32 = .ok (.sipush 300, 3) := by decide +kernel
theorem dX4_init_35 : decode cX4_init 35 = .ok (.newarray .int, 2) := by decide +kernel
theorem dX4_init_37 : decode cX4_init 37 = .ok (.putfield 22, 3) := by decide +kernel
theorem dX4_init_40 : decode cX4_init 40 = .ok (.aload_n 0, 1) := by decide +kernel
theorem dX4_init_41 : decode cX4_init 41 = .ok (.sipush 300, 3) := by decide +kernel
theorem dX4_init_44 : decode cX4_init 44 = .ok (.newarray .int, 2) := by decide +kernel
theorem dX4_init_46 : decode cX4_init 46 = .ok (.putfield 25, 3) := by decide +kernel
theorem dX4_init_49 : decode cX4_init 49 = .ok (.return_, 1) := by decide +kernel
theorem dX4_has_0 : decode cX4_has 0 = .ok (.iload_n 1, 1) := by decide +kernel
theorem dX4_has_1 : decode cX4_has 1 = .ok (.ifCond .lt 22, 3) := by decide +kernel
theorem dX4_has_4 : decode cX4_has 4 = .ok (.iload_n 1, 1) := by decide +kernel
theorem dX4_has_5 : decode cX4_has 5 = .ok (.aload_n 0, 1) := by decide +kernel
theorem dX4_has_6 : decode cX4_has 6 = .ok (.getfield 28, 3) := by decide +kernel
theorem dX4_has_9 : decode cX4_has 9 = .ok (.if_icmp .ge 14, 3) := by decide +kernel
theorem dX4_has_12 : decode cX4_has 12 = .ok (.iload_n 1, 1) := by decide +kernel
theorem dX4_has_13 : decode cX4_has 13 = .ok (.sipush 300, 3) := by decide +kernel
theorem dX4_has_16 : decode cX4_has 16 = .ok (.if_icmp .ge 7, 3) := by decide +kernel
theorem dX4_has_19 : decode cX4_has 19 = .ok (.iconst 1, 1) := by decide +kernel
theorem dX4_has_20 : decode cX4_has 20 = .ok (.goto 4, 3) := by decide +kernel
theorem dX4_has_23 : decode cX4_has 23 = .ok (.iconst 0, 1) := by decide +kernel
theorem dX4_has_24 : decode cX4_has 24 = .ok (.ireturn, 1) := by decide +kernel
theorem dX4_add_0 : decode cX4_add 0 = .ok (.aload_n 0, 1) := by decide +kernel
theorem dX4_add_1 : decode cX4_add 1 = .ok (.getfield 28, 3) := by decide +kernel
theorem dX4_add_4 : decode cX4_add 4 = .ok (.istore_n 3, 1) := by decide +kernel
theorem dX4_add_5 : decode cX4_add 5 = .ok (.iload_n 3, 1) := by decide +kernel
theorem dX4_add_6 : decode cX4_add 6 = .ok (.ifCond .lt 10, 3) := by decide +kernel
theorem dX4_add_9 : decode cX4_add 9 = .ok (.iload_n 3, 1) := by decide +kernel
theorem dX4_add_10 : decode cX4_add 10 = .ok (.sipush 300, 3) := by decide +kernel
theorem dX4_add_13 : decode cX4_add 13 = .ok (.if_icmp .lt 5, 3) := by decide +kernel
theorem dX4_add_16 : decode cX4_add 16 = .ok (.iconst (-1), 1) := by decide +kernel
theorem dX4_add_17 : decode cX4_add 17 = .ok (.ireturn, 1) := by decide +kernel
theorem dX4_add_18 : decode cX4_add 18 = .ok (.aload_n 0, 1) := by decide +kernel
theorem dX4_add_19 : decode cX4_add 19 = .ok (.getfield 9, 3) := by decide +kernel
theorem dX4_add_22 : decode cX4_add 22 = .ok (.iload_n 3, 1) := by decide +kernel
theorem dX4_add_23 : decode cX4_add 23 = .ok (.iload_n 1, 1) := by decide +kernel
theorem dX4_add_24 : decode cX4_add 24 = .ok (.iastore, 1) := by decide +kernel
theorem dX4_add_25 : decode cX4_add 25 = .ok (.aload_n 0, 1) := by decide +kernel
theorem dX4_add_26 : decode cX4_add 26 = .ok (.getfield 15, 3) := by decide +kernel
theorem dX4_add_29 : decode cX4_add 29 = .ok (.iload_n 3, 1) := by decide +kernel
theorem dX4_add_30 : decode cX4_add 30 = .ok (.iload_n 2, 1) := by decide +kernel
theorem dX4_add_31 : decode cX4_add 31 = .ok (.iastore, 1) := by decide +kernel
theorem dX4_add_32 : decode cX4_add 32 = .ok (.aload_n 0, 1) := by decide +kernel
theorem dX4_add_33 : decode cX4_add 33 = .ok (.getfield 18, 3) := by decide +kernel
theorem dX4_add_36 : decode cX4_add 36 = .ok (.iload_n 3, 1) := by decide +kernel
theorem dX4_add_37 : decode cX4_add 37 = .ok (.bipush 119, 2) := by decide +kernel
theorem dX4_add_39 : decode cX4_add 39 = .ok (.castore, 1) := by decide +kernel
theorem dX4_add_40 : decode cX4_add 40 = .ok (.aload_n 0, 1) := by decide +kernel
theorem dX4_add_41 : decode cX4_add 41 = .ok (.dup, 1) := by decide +kernel
theorem dX4_add_42 : decode cX4_add 42 = .ok (.getfield 28, 3) := by decide +kernel
theorem dX4_add_45 : decode cX4_add 45 = .ok (.iconst 1, 1) := by decide +kernel
theorem dX4_add_46 : decode cX4_add 46 = .ok (.iadd, 1) := by decide +kernel
theorem dX4_add_47 : decode cX4_add 47 = .ok (.putfield 28, 3) := by decide +kernel
theorem dX4_add_50 : decode cX4_add 50 = .ok (.iload_n 3, 1) := by decide +kernel
theorem dX4_add_51 : decode cX4_add 51 = .ok (.ireturn, 1) := by decide +kernel
theorem dX4_loadFirst_0 : decode cX4_loadFirst 0 = .ok (.aload_n 0, 1) := by decide +kernel
theorem dX4_loadFirst_1 : decode cX4_loadFirst 1 = .ok (.getfield 32, 3) := by decide +kernel
theorem dX4_loadFirst_4 : decode cX4_loadFirst 4 = .ok (.istore_n 1, 1) := by decide +kernel
theorem dX4_loadFirst_5 : decode cX4_loadFirst 5 = .ok (.aload_n 0, 1) := by decide +kernel
theorem dX4_loadFirst_6 : decode cX4_loadFirst 6 = .ok (.iload_n 1, 1) := by decide +kernel
theorem dX4_loadFirst_7 : decode cX4_loadFirst 7 = .ok (.invokevirtual 35, 3) := by decide +kernel
theorem dX4_loadFirst_10 : decode cX4_loadFirst 10 = .ok (.ifCond .ne 5, 3) := by decide +kernel
theorem dX4_loadFirst_13 : decode cX4_loadFirst 13 = .ok (.iconst (-1), 1) := by decide +kernel
theorem dX4_loadFirst_14 : decode cX4_loadFirst 14 = .ok (.ireturn, 1) := by decide +kernel
theorem dX4_loadFirst_15 : decode cX4_loadFirst 15 = .ok (.aload_n 0, 1) := by decide +kernel
theorem dX4_loadFirst_16 : decode cX4_loadFirst 16 = .ok (.getfield 18, 3) := by decide +kernel
theorem dX4_loadFirst_19 : decode cX4_loadFirst 19 = .ok (.iload_n 1, 1) := by decide +kernel
theorem dX4_loadFirst_20 : decode cX4_loadFirst 20 = .ok (.bipush 108, 2) := by decide +kernel
theorem dX4_loadFirst_22 : decode cX4_loadFirst 22 = .ok (.castore, 1) := by decide +kernel
theorem dX4_loadFirst_23 : decode cX4_loadFirst 23 = .ok (.aload_n 0, 1) := by decide +kernel
theorem dX4_loadFirst_24 : decode cX4_loadFirst 24 = .ok (.dup, 1) := by decide +kernel
theorem dX4_loadFirst_25 : decode cX4_loadFirst 25 = .ok (.getfield 32, 3) := by decide +kernel
theorem dX4_loadFirst_28 : decode cX4_loadFirst 28 = .ok (.iconst 1, 1) := by decide +kernel
theorem dX4_loadFirst_29 : decode cX4_loadFirst 29 = .ok (.iadd, 1) := by decide +kernel
theorem dX4_loadFirst_30 : decode cX4_loadFirst 30 = .ok (.putfield 32, 3) := by decide +kernel
theorem dX4_loadFirst_33 : decode cX4_loadFirst 33 = .ok (.iload_n 1, 1) := by decide +kernel
theorem dX4_loadFirst_34 : decode cX4_loadFirst 34 = .ok (.ireturn, 1) := by decide +kernel
theorem dX4_leave_0 : decode cX4_leave 0 = .ok (.aload_n 0, 1) := by decide +kernel
theorem dX4_leave_1 : decode cX4_leave 1 = .ok (.iload_n 1, 1) := by decide +kernel
theorem dX4_leave_2 : decode cX4_leave 2 = .ok (.invokevirtual 35, 3) := by decide +kernel
theorem dX4_leave_5 : decode cX4_leave 5 = .ok (.ifCond .eq 38, 3) := by decide +kernel
theorem dX4_leave_8 : decode cX4_leave 8 = .ok (.aload_n 0, 1) := by decide +kernel
theorem dX4_leave_9 : decode cX4_leave 9 = .ok (.getfield 18, 3) := by decide +kernel
theorem dX4_leave_12 : decode cX4_leave 12 = .ok (.iload_n 1, 1) := by decide +kernel
theorem dX4_leave_13 : decode cX4_leave 13 = .ok (.iload_n 2, 1) := by decide +kernel
theorem dX4_leave_14 : decode cX4_leave 14 = .ok (.castore, 1) := by decide +kernel
theorem dX4_leave_15 : decode cX4_leave 15 = .ok (.aload_n 0, 1) := by decide +kernel
theorem dX4_leave_16 : decode cX4_leave 16 = .ok (.getfield 22, 3) := by decide +kernel
theorem dX4_leave_19 : decode cX4_leave 19 = .ok (.iload_n 1, 1) := by decide +kernel
theorem dX4_leave_20 : decode cX4_leave 20 = .ok (.iload_n 3, 1) := by decide +kernel
theorem dX4_leave_21 : decode cX4_leave 21 = .ok (.iastore, 1) := by decide +kernel
theorem dX4_leave_22 : decode cX4_leave 22 = .ok (.aload_n 0, 1) := by decide +kernel
theorem dX4_leave_23 : decode cX4_leave 23 = .ok (.dup, 1) := by decide +kernel
theorem dX4_leave_24 : decode cX4_leave 24 = .ok (.getfield 39, 3) := by decide +kernel
theorem dX4_leave_27 : decode cX4_leave 27 = .ok (.iconst 1, 1) := by decide +kernel
theorem dX4_leave_28 : decode cX4_leave 28 = .ok (.iadd, 1) := by decide +kernel
theorem dX4_leave_29 : decode cX4_leave 29 = .ok (.putfield 39, 3) := by decide +kernel
theorem dX4_leave_32 : decode cX4_leave 32 = .ok (.aload_n 0, 1) := by decide +kernel
theorem dX4_leave_33 : decode cX4_leave 33 = .ok (.dup, 1) := by decide +kernel
theorem dX4_leave_34 : decode cX4_leave 34 = .ok (.getfield 42, 3) := by decide +kernel
theorem dX4_leave_37 : decode cX4_leave 37 = .ok (.iload_n 3, 1) := by decide +kernel
theorem dX4_leave_38 : decode cX4_leave 38 = .ok (.i2l, 1) := by decide +kernel
theorem dX4_leave_39 : decode cX4_leave 39 = .ok (.ladd, 1) := by decide +kernel
theorem dX4_leave_40 : decode cX4_leave 40 = .ok (.putfield 42, 3) := by decide +kernel
theorem dX4_leave_43 : decode cX4_leave 43 = .ok (.return_, 1) := by decide +kernel
theorem dX4_enterTruck_0 : decode cX4_enterTruck 0 = .ok (.aload_n 0, 1) := by decide +kernel
theorem dX4_enterTruck_1 : decode cX4_enterTruck 1 = .ok (.iload_n 1, 1) := by decide +kernel
theorem dX4_enterTruck_2 : decode cX4_enterTruck 2 = .ok (.invokevirtual 35, 3) := by decide +kernel
theorem dX4_enterTruck_5 : decode cX4_enterTruck 5 = .ok (.ifCond .eq 34, 3) := by decide +kernel
theorem dX4_enterTruck_8 : decode cX4_enterTruck 8 = .ok (.aload_n 0, 1) := by decide +kernel
theorem dX4_enterTruck_9 : decode cX4_enterTruck 9 = .ok (.getfield 18, 3) := by decide +kernel
theorem dX4_enterTruck_12 : decode cX4_enterTruck 12 = .ok (.iload_n 1, 1) := by decide +kernel
theorem dX4_enterTruck_13 : decode cX4_enterTruck 13 = .ok (.bipush 116, 2) := by decide +kernel
theorem dX4_enterTruck_15 : decode cX4_enterTruck 15 = .ok (.castore, 1) := by decide +kernel
theorem dX4_enterTruck_16 : decode cX4_enterTruck 16 = .ok (.aload_n 0, 1) := by decide +kernel
theorem dX4_enterTruck_17 : decode cX4_enterTruck 17 = .ok (.getfield 25, 3) := by decide +kernel
theorem dX4_enterTruck_20 : decode cX4_enterTruck 20 = .ok (.iload_n 1, 1) := by decide +kernel
theorem dX4_enterTruck_21 : decode cX4_enterTruck 21 = .ok (.iload_n 2, 1) := by decide +kernel
theorem dX4_enterTruck_22 : decode cX4_enterTruck 22 = .ok (.iastore, 1) := by decide +kernel
theorem dX4_enterTruck_23 : decode cX4_enterTruck 23 = .ok (.aload_n 0, 1) := by decide +kernel
theorem dX4_enterTruck_24 : decode cX4_enterTruck 24 = .ok (.dup, 1) := by decide +kernel
theorem dX4_enterTruck_25 : decode cX4_enterTruck 25 = .ok (.getfield 46, 3) := by decide +kernel
theorem dX4_enterTruck_28 : decode cX4_enterTruck 28 = .ok (.aload_n 0, 1) := by decide +kernel
theorem dX4_enterTruck_29 : decode cX4_enterTruck 29 = .ok (.getfield 15, 3) := by decide +kernel
theorem dX4_enterTruck_32 : decode cX4_enterTruck 32 = .ok (.iload_n 1, 1) := by decide +kernel
theorem dX4_enterTruck_33 : decode cX4_enterTruck 33 = .ok (.iaload, 1) := by decide +kernel
theorem dX4_enterTruck_34 : decode cX4_enterTruck 34 = .ok (.i2l, 1) := by decide +kernel
theorem dX4_enterTruck_35 : decode cX4_enterTruck 35 = .ok (.ladd, 1) := by decide +kernel
theorem dX4_enterTruck_36 : decode cX4_enterTruck 36 = .ok (.putfield 46, 3) := by decide +kernel
theorem dX4_enterTruck_39 : decode cX4_enterTruck 39 = .ok (.return_, 1) := by decide +kernel
theorem dX4_routeAt_0 : decode cX4_routeAt 0 = .ok (.aload_n 0, 1) := by decide +kernel
theorem dX4_routeAt_1 : decode cX4_routeAt 1 = .ok (.iload_n 1, 1) := by decide +kernel
theorem dX4_routeAt_2 : decode cX4_routeAt 2 = .ok (.invokevirtual 35, 3) := by decide +kernel
theorem dX4_routeAt_5 : decode cX4_routeAt 5 = .ok (.ifCond .eq 12, 3) := by decide +kernel
theorem dX4_routeAt_8 : decode cX4_routeAt 8 = .ok (.aload_n 0, 1) := by decide +kernel
theorem dX4_routeAt_9 : decode cX4_routeAt 9 = .ok (.getfield 9, 3) := by decide +kernel
theorem dX4_routeAt_12 : decode cX4_routeAt 12 = .ok (.iload_n 1, 1) := by decide +kernel
theorem dX4_routeAt_13 : decode cX4_routeAt 13 = .ok (.iaload, 1) := by decide +kernel
theorem dX4_routeAt_14 : decode cX4_routeAt 14 = .ok (.goto 4, 3) := by decide +kernel
theorem dX4_routeAt_17 : decode cX4_routeAt 17 = .ok (.iconst (-1), 1) := by decide +kernel
theorem dX4_routeAt_18 : decode cX4_routeAt 18 = .ok (.ireturn, 1) := by decide +kernel
theorem dX4_stateAt_0 : decode cX4_stateAt 0 = .ok (.aload_n 0, 1) := by decide +kernel
theorem dX4_stateAt_1 : decode cX4_stateAt 1 = .ok (.iload_n 1, 1) := by decide +kernel
theorem dX4_stateAt_2 : decode cX4_stateAt 2 = .ok (.invokevirtual 35, 3) := by decide +kernel
theorem dX4_stateAt_5 : decode cX4_stateAt 5 = .ok (.ifCond .eq 12, 3) := by decide +kernel
theorem dX4_stateAt_8 : decode cX4_stateAt 8 = .ok (.aload_n 0, 1) := by decide +kernel
theorem dX4_stateAt_9 : decode cX4_stateAt 9 = .ok (.getfield 18, 3) := by decide +kernel
theorem dX4_stateAt_12 : decode cX4_stateAt 12 = .ok (.iload_n 1, 1) := by decide +kernel
theorem dX4_stateAt_13 : decode cX4_stateAt 13 = .ok (.caload, 1) := by decide +kernel
theorem dX4_stateAt_14 : decode cX4_stateAt 14 = .ok (.goto 5, 3) := by decide +kernel
theorem dX4_stateAt_17 : decode cX4_stateAt 17 = .ok (.bipush 45, 2) := by decide +kernel
theorem dX4_stateAt_19 : decode cX4_stateAt 19 = .ok (.ireturn, 1) := by decide +kernel
theorem dX4_lastRoundsAt_0 : decode cX4_lastRoundsAt 0 = .ok (.aload_n 0, 1) := by decide +kernel
theorem dX4_lastRoundsAt_1 : decode cX4_lastRoundsAt 1 = .ok (.iload_n 1, 1) := by decide +kernel
theorem dX4_lastRoundsAt_2 : decode cX4_lastRoundsAt 2 = .ok (.invokevirtual 35, 3) := by decide +kernel
theorem dX4_lastRoundsAt_5 : decode cX4_lastRoundsAt 5 = .ok (.ifCond .eq 12, 3) := by decide +kernel
theorem dX4_lastRoundsAt_8 : decode cX4_lastRoundsAt 8 = .ok (.aload_n 0, 1) := by decide +kernel
theorem dX4_lastRoundsAt_9 : decode cX4_lastRoundsAt 9 = .ok (.getfield 22, 3) := by decide +kernel
theorem dX4_lastRoundsAt_12 : decode cX4_lastRoundsAt 12 = .ok (.iload_n 1, 1) := by decide +kernel
theorem dX4_lastRoundsAt_13 : decode cX4_lastRoundsAt 13 = .ok (.iaload, 1) := by decide +kernel
theorem dX4_lastRoundsAt_14 : decode cX4_lastRoundsAt 14 = .ok (.goto 4, 3) := by decide +kernel
theorem dX4_lastRoundsAt_17 : decode cX4_lastRoundsAt 17 = .ok (.iconst 0, 1) := by decide +kernel
theorem dX4_lastRoundsAt_18 : decode cX4_lastRoundsAt 18 = .ok (.ireturn, 1) := by decide +kernel
theorem dX4_truckAt_0 : decode cX4_truckAt 0 = .ok (.aload_n 0, 1) := by decide +kernel
theorem dX4_truckAt_1 : decode cX4_truckAt 1 = .ok (.iload_n 1, 1) := by decide +kernel
theorem dX4_truckAt_2 : decode cX4_truckAt 2 = .ok (.invokevirtual 35, 3) := by decide +kernel
theorem dX4_truckAt_5 : decode cX4_truckAt 5 = .ok (.ifCond .eq 12, 3) := by decide +kernel
theorem dX4_truckAt_8 : decode cX4_truckAt 8 = .ok (.aload_n 0, 1) := by decide +kernel
theorem dX4_truckAt_9 : decode cX4_truckAt 9 = .ok (.getfield 25, 3) := by decide +kernel
theorem dX4_truckAt_12 : decode cX4_truckAt 12 = .ok (.iload_n 1, 1) := by decide +kernel
theorem dX4_truckAt_13 : decode cX4_truckAt 13 = .ok (.iaload, 1) := by decide +kernel
theorem dX4_truckAt_14 : decode cX4_truckAt 14 = .ok (.goto 4, 3) := by decide +kernel
theorem dX4_truckAt_17 : decode cX4_truckAt 17 = .ok (.iconst (-1), 1) := by decide +kernel
theorem dX4_truckAt_18 : decode cX4_truckAt 18 = .ok (.ireturn, 1) := by decide +kernel
theorem dX4_loadOf_0 : decode cX4_loadOf 0 = .ok (.iconst 0, 1) := by decide +kernel
theorem dX4_loadOf_1 : decode cX4_loadOf 1 = .ok (.istore_n 2, 1) := by decide +kernel
theorem dX4_loadOf_2 : decode cX4_loadOf 2 = .ok (.iconst 0, 1) := by decide +kernel
theorem dX4_loadOf_3 : decode cX4_loadOf 3 = .ok (.istore_n 3, 1) := by decide +kernel
theorem dX4_loadOf_4 : decode cX4_loadOf 4 = .ok (.iload_n 3, 1) := by decide +kernel
theorem dX4_loadOf_5 : decode cX4_loadOf 5 = .ok (.aload_n 0, 1) := by decide +kernel
theorem dX4_loadOf_6 : decode cX4_loadOf 6 = .ok (.getfield 28, 3) := by decide +kernel
theorem dX4_loadOf_9 : decode cX4_loadOf 9 = .ok (.if_icmp .ge 69, 3) := by decide +kernel
theorem dX4_loadOf_12 : decode cX4_loadOf 12 = .ok (.iload_n 3, 1) := by decide +kernel
theorem dX4_loadOf_13 : decode cX4_loadOf 13 = .ok (.sipush 300, 3) := by decide +kernel
theorem dX4_loadOf_16 : decode cX4_loadOf 16 = .ok (.if_icmp .ge 62, 3) := by decide +kernel
theorem dX4_loadOf_19 : decode cX4_loadOf 19 = .ok (.aload_n 0, 1) := by decide +kernel
theorem dX4_loadOf_20 : decode cX4_loadOf 20 = .ok (.getfield 18, 3) := by decide +kernel
theorem dX4_loadOf_23 : decode cX4_loadOf 23 = .ok (.iload_n 3, 1) := by decide +kernel
theorem dX4_loadOf_24 : decode cX4_loadOf 24 = .ok (.caload, 1) := by decide +kernel
theorem dX4_loadOf_25 : decode cX4_loadOf 25 = .ok (.bipush 119, 2) := by decide +kernel
theorem dX4_loadOf_27 : decode cX4_loadOf 27 = .ok (.if_icmp .eq 14, 3) := by decide +kernel
theorem dX4_loadOf_30 : decode cX4_loadOf 30 = .ok (.aload_n 0, 1) := by decide +kernel
theorem dX4_loadOf_31 : decode cX4_loadOf 31 = .ok (.getfield 18, 3) := by decide +kernel
theorem dX4_loadOf_34 : decode cX4_loadOf 34 = .ok (.iload_n 3, 1) := by decide +kernel
theorem dX4_loadOf_35 : decode cX4_loadOf 35 = .ok (.caload, 1) := by decide +kernel
theorem dX4_loadOf_36 : decode cX4_loadOf 36 = .ok (.bipush 108, 2) := by decide +kernel
theorem dX4_loadOf_38 : decode cX4_loadOf 38 = .ok (.if_icmp .ne 7, 3) := by decide +kernel
theorem dX4_loadOf_41 : decode cX4_loadOf 41 = .ok (.iconst 1, 1) := by decide +kernel
theorem dX4_loadOf_42 : decode cX4_loadOf 42 = .ok (.goto 4, 3) := by decide +kernel
theorem dX4_loadOf_45 : decode cX4_loadOf 45 = .ok (.iconst 0, 1) := by decide +kernel
theorem dX4_loadOf_46 : decode cX4_loadOf 46 = .ok (.istore 4, 2) := by decide +kernel
theorem dX4_loadOf_48 : decode cX4_loadOf 48 = .ok (.iload 4, 2) := by decide +kernel
theorem dX4_loadOf_50 : decode cX4_loadOf 50 = .ok (.ifCond .eq 22, 3) := by decide +kernel
theorem dX4_loadOf_53 : decode cX4_loadOf 53 = .ok (.aload_n 0, 1) := by decide +kernel
theorem dX4_loadOf_54 : decode cX4_loadOf 54 = .ok (.getfield 9, 3) := by decide +kernel
theorem dX4_loadOf_57 : decode cX4_loadOf 57 = .ok (.iload_n 3, 1) := by decide +kernel
theorem dX4_loadOf_58 : decode cX4_loadOf 58 = .ok (.iaload, 1) := by decide +kernel
theorem dX4_loadOf_59 : decode cX4_loadOf 59 = .ok (.iload_n 1, 1) := by decide +kernel
theorem dX4_loadOf_60 : decode cX4_loadOf 60 = .ok (.if_icmp .ne 12, 3) := by decide +kernel
theorem dX4_loadOf_63 : decode cX4_loadOf 63 = .ok (.iload_n 2, 1) := by decide +kernel
theorem dX4_loadOf_64 : decode cX4_loadOf 64 = .ok (.aload_n 0, 1) := by decide +kernel
theorem dX4_loadOf_65 : decode cX4_loadOf 65 = .ok (.getfield 15, 3) := by decide +kernel
theorem dX4_loadOf_68 : decode cX4_loadOf 68 = .ok (.iload_n 3, 1) := by decide +kernel
theorem dX4_loadOf_69 : decode cX4_loadOf 69 = .ok (.iaload, 1) := by decide +kernel
theorem dX4_loadOf_70 : decode cX4_loadOf 70 = .ok (.iadd, 1) := by decide +kernel
theorem dX4_loadOf_71 : decode cX4_loadOf 71 = .ok (.istore_n 2, 1) := by decide +kernel
theorem dX4_loadOf_72 : decode cX4_loadOf 72 = .ok (.iinc 3 1, 3) := by decide +kernel
theorem dX4_loadOf_75 : decode cX4_loadOf 75 = .ok (.goto (-71), 3) := by decide +kernel
theorem dX4_loadOf_78 : decode cX4_loadOf 78 = .ok (.iload_n 2, 1) := by decide +kernel
theorem dX4_loadOf_79 : decode cX4_loadOf 79 = .ok (.ireturn, 1) := by decide +kernel
theorem dX5_init_0 : decode cX5_init 0 = .ok (.aload_n 0, 1) := by decide +kernel
theorem dX5_init_1 : decode cX5_init 1 = .ok (.invokespecial 3, 3) := by decide +kernel
theorem dX5_init_4 : decode cX5_init 4 = .ok (.aload_n 0, 1) := by decide +kernel
theorem dX5_init_5 : decode cX5_init 5 = .ok (.iload_n 1, 1) := by decide +kernel
theorem dX5_init_6 : decode cX5_init 6 = .ok (.iconst 0, 1) := by decide +kernel
theorem dX5_init_7 : decode cX5_init 7 = .ok (.invokestatic 9, 3) := by decide +kernel
theorem dX5_init_10 : decode cX5_init 10 = .ok (.newarray .int, 2) := by decide +kernel
theorem dX5_init_12 : decode cX5_init 12 = .ok (.putfield 15, 3) := by decide +kernel
theorem dX5_init_15 : decode cX5_init 15 = .ok (.return_, 1) := by decide +kernel
theorem dX5_at_0 : decode cX5_at 0 = .ok (.iload_n 1, 1) := by decide +kernel
theorem dX5_at_1 : decode cX5_at 1 = .ok (.ifCond .lt 29, 3) := by decide +kernel
theorem dX5_at_4 : decode cX5_at 4 = .ok (.iload_n 1, 1) := by decide +kernel
theorem dX5_at_5 : decode cX5_at 5 = .ok (.aload_n 0, 1) := by decide +kernel
theorem dX5_at_6 : decode cX5_at 6 = .ok (.getfield 21, 3) := by decide +kernel
theorem dX5_at_9 : decode cX5_at 9 = .ok (.if_icmp .ge 21, 3) := by decide +kernel
theorem dX5_at_12 : decode cX5_at 12 = .ok (.iload_n 1, 1) := by decide +kernel
theorem dX5_at_13 : decode cX5_at 13 = .ok (.aload_n 0, 1) := by decide +kernel
theorem dX5_at_14 : decode cX5_at 14 = .ok (.getfield 15, 3) := by decide +kernel
theorem dX5_at_17 : decode cX5_at 17 = .ok (.arraylength, 1) := by decide +kernel
theorem dX5_at_18 : decode cX5_at 18 = .ok (.if_icmp .ge 12, 3) := by decide +kernel
theorem dX5_at_21 : decode cX5_at 21 = .ok (.aload_n 0, 1) := by decide +kernel
theorem dX5_at_22 : decode cX5_at 22 = .ok (.getfield 15, 3) := by decide +kernel
theorem dX5_at_25 : decode cX5_at 25 = .ok (.iload_n 1, 1) := by decide +kernel
theorem dX5_at_26 : decode cX5_at 26 = .ok (.iaload, 1) := by decide +kernel
theorem dX5_at_27 : decode cX5_at 27 = .ok (.goto 4, 3) := by decide +kernel
theorem dX5_at_30 : decode cX5_at 30 = .ok (.iconst (-1), 1) := by decide +kernel
theorem dX5_at_31 : decode cX5_at 31 = .ok (.ireturn, 1) := by decide +kernel
theorem dX5_add_0 : decode cX5_add 0 = .ok (.aload_n 0, 1) := by decide +kernel
theorem dX5_add_1 : decode cX5_add 1 = .ok (.getfield 21, 3) := by decide +kernel
theorem dX5_add_4 : decode cX5_add 4 = .ok (.ifCond .lt 35, 3) := by decide +kernel
theorem dX5_add_7 : decode cX5_add 7 = .ok (.aload_n 0, 1) := by decide +kernel
theorem dX5_add_8 : decode cX5_add 8 = .ok (.getfield 21, 3) := by decide +kernel
theorem dX5_add_11 : decode cX5_add 11 = .ok (.aload_n 0, 1) := by decide +kernel
theorem dX5_add_12 : decode cX5_add 12 = .ok (.getfield 15, 3) := by decide +kernel
theorem dX5_add_15 : decode cX5_add 15 = .ok (.arraylength, 1) := by decide +kernel
theorem dX5_add_16 : decode cX5_add 16 = .ok (.if_icmp .ge 23, 3) := by decide +kernel
theorem dX5_add_19 : decode cX5_add 19 = .ok (.aload_n 0, 1) := by decide +kernel
theorem dX5_add_20 : decode cX5_add 20 = .ok (.getfield 15, 3) := by decide +kernel
theorem dX5_add_23 : decode cX5_add 23 = .ok (.aload_n 0, 1) := by decide +kernel
theorem dX5_add_24 : decode cX5_add 24 = .ok (.getfield 21, 3) := by decide +kernel
theorem dX5_add_27 : decode cX5_add 27 = .ok (.iload_n 1, 1) := by decide +kernel
theorem dX5_add_28 : decode cX5_add 28 = .ok (.iastore, 1) := by decide +kernel
theorem dX5_add_29 : decode cX5_add 29 = .ok (.aload_n 0, 1) := by decide +kernel
theorem dX5_add_30 : decode cX5_add 30 = .ok (.dup, 1) := by decide +kernel
theorem dX5_add_31 : decode cX5_add 31 = .ok (.getfield 21, 3) := by decide +kernel
theorem dX5_add_34 : decode cX5_add 34 = .ok (.iconst 1, 1) := by decide +kernel
theorem dX5_add_35 : decode cX5_add 35 = .ok (.iadd, 1) := by decide +kernel
theorem dX5_add_36 : decode cX5_add 36 = .ok (.putfield 21, 3) := by decide +kernel
theorem dX5_add_39 : decode cX5_add 39 = .ok (.return_, 1) := by decide +kernel
theorem dX5_sealOf_0 : decode cX5_sealOf 0 = .ok (.iconst 0, 1) := by decide +kernel
theorem dX5_sealOf_1 : decode cX5_sealOf 1 = .ok (.istore_n 3, 1) := by decide +kernel
theorem dX5_sealOf_2 : decode cX5_sealOf 2 = .ok (.iconst 0, 1) := by decide +kernel
theorem dX5_sealOf_3 : decode cX5_sealOf 3 = .ok (.istore 4, 2) := by decide +kernel
theorem dX5_sealOf_5 : decode cX5_sealOf 5 = .ok (.iload_n 1, 1) := by decide +kernel
theorem dX5_sealOf_6 : decode cX5_sealOf 6 = .ok (.istore 5, 2) := by decide +kernel
theorem dX5_sealOf_8 : decode cX5_sealOf 8 = .ok (.iload 5, 2) := by decide +kernel
theorem dX5_sealOf_10 : decode cX5_sealOf 10 = .ok (.iload_n 2, 1) := by decide +kernel
theorem dX5_sealOf_11 : decode cX5_sealOf 11 = .ok (.if_icmp .ge 34, 3) := by decide +kernel
theorem dX5_sealOf_14 : decode cX5_sealOf 14 = .ok (.iload_n 3, 1) := by decide +kernel
theorem dX5_sealOf_15 : decode cX5_sealOf 15 = .ok (.aload_n 0, 1) := by decide +kernel
theorem dX5_sealOf_16 : decode cX5_sealOf 16 = .ok (.iload 5, 2) := by decide +kernel
theorem dX5_sealOf_18 : decode cX5_sealOf 18 = .ok (.invokevirtual 25, 3) := by decide +kernel
theorem dX5_sealOf_21 : decode cX5_sealOf 21 = .ok (.iadd, 1) := by decide +kernel
theorem dX5_sealOf_22 : decode cX5_sealOf 22 = .ok (.iconst 1, 1) := by decide +kernel
theorem dX5_sealOf_23 : decode cX5_sealOf 23 = .ok (.iadd, 1) := by decide +kernel
theorem dX5_sealOf_24 : decode cX5_sealOf 24 = .ok (.sipush 9973, 3) := by decide +kernel
theorem dX5_sealOf_27 : decode cX5_sealOf 27 = .ok (.irem, 1) := by decide +kernel
theorem dX5_sealOf_28 : decode cX5_sealOf 28 = .ok (.istore_n 3, 1) := by decide +kernel
theorem dX5_sealOf_29 : decode cX5_sealOf 29 = .ok (.iload 4, 2) := by decide +kernel
theorem dX5_sealOf_31 : decode cX5_sealOf 31 = .ok (.iload_n 3, 1) := by decide +kernel
theorem dX5_sealOf_32 : decode cX5_sealOf 32 = .ok (.iadd, 1) := by decide +kernel
theorem dX5_sealOf_33 : decode cX5_sealOf 33 = .ok (.sipush 9973, 3) := by decide +kernel
theorem dX5_sealOf_36 : decode cX5_sealOf 36 = .ok (.irem, 1) := by decide +kernel
theorem dX5_sealOf_37 : decode cX5_sealOf 37 = .ok (.istore 4, 2) := by decide +kernel
theorem dX5_sealOf_39 : decode cX5_sealOf 39 = .ok (.iinc 5 1, 3) := by decide +kernel
theorem dX5_sealOf_42 : decode cX5_sealOf 42 = .ok (.goto (-34), 3) := by decide +kernel
theorem dX5_sealOf_45 : decode cX5_sealOf 45 = .ok (.sipush 10000, 3) := by decide +kernel
theorem dX5_sealOf_48 : decode cX5_sealOf 48 = .ok (.iload 4, 2) := by decide +kernel
theorem dX5_sealOf_50 : decode cX5_sealOf 50 = .ok (.imul, 1) := by decide +kernel
theorem dX5_sealOf_51 : decode cX5_sealOf 51 = .ok (.iload_n 3, 1) := by decide +kernel
theorem dX5_sealOf_52 : decode cX5_sealOf 52 = .ok (.iadd, 1) := by decide +kernel
theorem dX5_sealOf_53 : decode cX5_sealOf 53 = .ok (.ireturn, 1) := by decide +kernel
theorem dX6_init_0 : decode cX6_init 0 = .ok (.aload_n 0, 1) := by decide +kernel
theorem dX6_init_1 : decode cX6_init 1 = .ok (.invokespecial 3, 3) := by decide +kernel
theorem dX6_init_4 : decode cX6_init 4 = .ok (.aload_n 0, 1) := by decide +kernel
theorem dX6_init_5 : decode cX6_init 5 = .ok (.bipush 6, 2) := by decide +kernel
theorem dX6_init_7 : decode cX6_init 7 = .ok (.anewarray 9, 3) := by decide +kernel
theorem dX6_init_10 : decode cX6_init 10 = .ok (.putfield 11, 3) := by decide +kernel
theorem dX6_init_13 : decode cX6_init 13 = .ok (.aload_n 0, 1) := by decide +kernel
theorem dX6_init_14 : decode cX6_init 14 = .ok (.bipush 8, 2) := by decide +kernel
theorem dX6_init_16 : decode cX6_init 16 = .ok (.newarray .int, 2) := by decide +kernel
theorem dX6_init_18 : decode cX6_init 18 = .ok (.putfield 17, 3) := by decide +kernel
theorem dX6_init_21 : decode cX6_init 21 = .ok (.aload_n 0, 1) := by decide +kernel
theorem dX6_init_22 : decode cX6_init 22 = .ok (.bipush 11, 2) := by decide +kernel
theorem dX6_init_24 : decode cX6_init 24 = .ok (.putfield 21, 3) := by decide +kernel
theorem dX6_init_27 : decode cX6_init 27 = .ok (.aload_n 0, 1) := by decide +kernel
theorem dX6_init_28 : decode cX6_init 28 = .ok (.iconst 2, 1) := by decide +kernel
theorem dX6_init_29 : decode cX6_init 29 = .ok (.putfield 25, 3) := by decide +kernel
theorem dX6_init_32 : decode cX6_init 32 = .ok (.iconst 0, 1) := by decide +kernel
theorem dX6_init_33 : decode cX6_init 33 = .ok (.istore_n 1, 1) := by decide +kernel
theorem dX6_init_34 : decode cX6_init 34 = .ok (.iload_n 1, 1) := by decide +kernel
theorem dX6_init_35 : decode cX6_init 35 = .ok (.bipush 8, 2) := by decide +kernel
theorem dX6_init_37 : decode cX6_init 37 = .ok (.if_icmp .ge 16, 3) := by decide +kernel
theorem dX6_init_40 : decode cX6_init 40 = .ok (.aload_n 0, 1) := by decide +kernel
theorem dX6_init_41 : decode cX6_init 41 = .ok (.getfield 17, 3) := by decide +kernel
theorem dX6_init_44 : decode cX6_init 44 = .ok (.iload_n 1, 1) := by decide +kernel
theorem dX6_init_45 : decode cX6_init 45 = .ok (.iconst (-1), 1) := by decide +kernel
theorem dX6_init_46 : decode cX6_init 46 = .ok (.iastore, 1) := by decide +kernel
theorem dX6_init_47 : decode cX6_init 47 = .ok (.iinc 1 1, 3) := by decide +kernel
theorem dX6_init_50 : decode cX6_init 50 = .ok (.goto (-16), 3) := by decide +kernel
theorem dX6_init_53 : decode cX6_init 53 = .ok (.return_, 1) := by decide +kernel
theorem dX6_build_0 : decode cX6_build 0 = .ok (.aload_n 0, 1) := by decide +kernel
theorem dX6_build_1 : decode cX6_build 1 = .ok (.getfield 28, 3) := by decide +kernel
theorem dX6_build_4 : decode cX6_build 4 = .ok (.istore_n 3, 1) := by decide +kernel
theorem dX6_build_5 : decode cX6_build 5 = .ok (.iload_n 3, 1) := by decide +kernel
theorem dX6_build_6 : decode cX6_build 6 = .ok (.ifCond .lt 9, 3) := by decide +kernel
theorem dX6_build_9 : decode cX6_build 9 = .ok (.iload_n 3, 1) := by decide +kernel
theorem dX6_build_10 : decode cX6_build 10 = .ok (.bipush 6, 2) := by decide +kernel
theorem dX6_build_12 : decode cX6_build 12 = .ok (.if_icmp .lt 5, 3) := by decide +kernel
theorem dX6_build_15 : decode cX6_build 15 = .ok (.iconst (-1), 1) := by decide +kernel
theorem dX6_build_16 : decode cX6_build 16 = .ok (.ireturn, 1) := by decide +kernel
theorem dX6_build_17 : decode cX6_build 17 = .ok (.aload_n 0, 1) := by decide +kernel
theorem dX6_build_18 : decode cX6_build 18 = .ok (.getfield 11, 3) := by decide +kernel
theorem dX6_build_21 : decode cX6_build 21 = .ok (.iload_n 3, 1) := by decide +kernel
theorem dX6_build_22 : decode cX6_build 22 = .ok (.new 9, 3) := by decide +kernel
theorem dX6_build_25 : decode cX6_build 25 = .ok (.dup, 1) := by decide +kernel
theorem dX6_build_26 : decode cX6_build 26 = .ok (.iload_n 1, 1) := by decide +kernel
theorem dX6_build_27 : decode cX6_build 27 = .ok (.iload_n 2, 1) := by decide +kernel
theorem dX6_build_28 : decode cX6_build 28 = .ok (.invokespecial 31, 3) := by decide +kernel
theorem dX6_build_31 : decode cX6_build 31 = .ok (.aastore, 1) := by decide +kernel
theorem dX6_build_32 : decode cX6_build 32 = .ok (.aload_n 0, 1) := by decide +kernel
theorem dX6_build_33 : decode cX6_build 33 = .ok (.dup, 1) := by decide +kernel
theorem dX6_build_34 : decode cX6_build 34 = .ok (.getfield 28, 3) := by decide +kernel
theorem dX6_build_37 : decode cX6_build 37 = .ok (.iconst 1, 1) := by decide +kernel
theorem dX6_build_38 : decode cX6_build 38 = .ok (.iadd, 1) := by decide +kernel
theorem dX6_build_39 : decode cX6_build 39 = .ok (.putfield 28, 3) := by decide +kernel
theorem dX6_build_42 : decode cX6_build 42 = .ok (.iload_n 3, 1) := by decide +kernel
theorem dX6_build_43 : decode cX6_build 43 = .ok (.ireturn, 1) := by decide +kernel
theorem dX6_chute_0 : decode cX6_chute 0 = .ok (.iload_n 1, 1) := by decide +kernel
theorem dX6_chute_1 : decode cX6_chute 1 = .ok (.ifCond .lt 26, 3) := by decide +kernel
theorem dX6_chute_4 : decode cX6_chute 4 = .ok (.iload_n 1, 1) := by decide +kernel
theorem dX6_chute_5 : decode cX6_chute 5 = .ok (.aload_n 0, 1) := by decide +kernel
theorem dX6_chute_6 : decode cX6_chute 6 = .ok (.getfield 28, 3) := by decide +kernel
theorem dX6_chute_9 : decode cX6_chute 9 = .ok (.if_icmp .ge 18, 3) := by decide +kernel
theorem dX6_chute_12 : decode cX6_chute 12 = .ok (.iload_n 1, 1) := by decide +kernel
theorem dX6_chute_13 : decode cX6_chute 13 = .ok (.bipush 6, 2) := by decide +kernel
theorem dX6_chute_15 : decode cX6_chute 15 = .ok (.if_icmp .ge 12, 3) := by decide +kernel
theorem dX6_chute_18 : decode cX6_chute 18 = .ok (.aload_n 0, 1) := by decide +kernel
theorem dX6_chute_19 : decode cX6_chute 19 = .ok (.getfield 11, 3) := by decide +kernel
theorem dX6_chute_22 : decode cX6_chute 22 = .ok (.iload_n 1, 1) := by decide +kernel
theorem dX6_chute_23 : decode cX6_chute 23 = .ok (.aaload, 1) := by decide +kernel
theorem dX6_chute_24 : decode cX6_chute 24 = .ok (.goto 4, 3) := by decide +kernel
theorem dX6_chute_27 : decode cX6_chute 27 = .ok (.aconst_null, 1) := by decide +kernel
theorem dX6_chute_28 : decode cX6_chute 28 = .ok (.areturn, 1) := by decide +kernel
theorem dX6_numberAt_0 : decode cX6_numberAt 0 = .ok (.iconst 0, 1) := by decide +kernel
theorem dX6_numberAt_1 : decode cX6_numberAt 1 = .ok (.istore_n 2, 1) := by decide +kernel
theorem dX6_numberAt_2 : decode cX6_numberAt 2 = .ok (.iload_n 2, 1) := by decide +kernel
theorem dX6_numberAt_3 : decode cX6_numberAt 3 = .ok (.aload_n 0, 1) := by decide +kernel
theorem dX6_numberAt_4 : decode cX6_numberAt 4 = .ok (.getfield 28, 3) := by decide +kernel
theorem dX6_numberAt_7 : decode cX6_numberAt 7 = .ok (.if_icmp .ge 29, 3) := by decide +kernel
theorem dX6_numberAt_10 : decode cX6_numberAt 10 = .ok (.aload_n 0, 1) := by decide +kernel
theorem dX6_numberAt_11 : decode cX6_numberAt 11 = .ok (.iload_n 2, 1) := by decide +kernel
theorem dX6_numberAt_12 : decode cX6_numberAt 12 = .ok (.invokevirtual 34, 3) := by decide +kernel
theorem dX6_numberAt_15 : decode cX6_numberAt 15 = .ok (.astore_n 3, 1) := by decide +kernel
theorem dX6_numberAt_16 : decode cX6_numberAt 16 = .ok (.aload_n 3, 1) := by decide +kernel
theorem dX6_numberAt_17 : decode cX6_numberAt 17 = .ok (.ifnull 13, 3) := by decide +kernel
theorem dX6_numberAt_20 : decode cX6_numberAt 20 = .ok (.aload_n 3, 1) := by decide +kernel
theorem dX6_numberAt_21 : decode cX6_numberAt 21 = .ok (.getfield 38, 3) := by decide +kernel
theorem dX6_numberAt_24 : decode cX6_numberAt 24 = .ok (.iload_n 1, 1) := by decide +kernel
theorem dX6_numberAt_25 : decode cX6_numberAt 25 = .ok (.if_icmp .ne 5, 3) := by decide +kernel
theorem dX6_numberAt_28 : decode cX6_numberAt 28 = .ok (.iload_n 2, 1) := by decide +kernel
theorem dX6_numberAt_29 : decode cX6_numberAt 29 = .ok (.ireturn, 1) := by decide +kernel
theorem dX6_numberAt_30 : decode cX6_numberAt 30 = .ok (.iinc 2 1, 3) := by decide +kernel
theorem dX6_numberAt_33 : decode cX6_numberAt 33 = .ok (.goto (-31), 3) := by decide +kernel
theorem dX6_numberAt_36 : decode cX6_numberAt 36 = .ok (.iconst (-1), 1) := by decide +kernel
theorem dX6_numberAt_37 : decode cX6_numberAt 37 = .ok (.ireturn, 1) := by decide +kernel
theorem dX6_chuteAt_0 : decode cX6_chuteAt 0 = .ok (.aload_n 0, 1) := by decide +kernel
theorem dX6_chuteAt_1 : decode cX6_chuteAt 1 = .ok (.aload_n 0, 1) := by decide +kernel
theorem dX6_chuteAt_2 : decode cX6_chuteAt 2 = .ok (.iload_n 1, 1) := by decide +kernel
theorem dX6_chuteAt_3 : decode cX6_chuteAt 3 = .ok (.invokevirtual 41, 3) := by decide +kernel
theorem dX6_chuteAt_6 : decode cX6_chuteAt 6 = .ok (.invokevirtual 34, 3) := by decide +kernel
theorem dX6_chuteAt_9 : decode cX6_chuteAt 9 = .ok (.areturn, 1) := by decide +kernel
theorem dX6_kindAt_0 : decode cX6_kindAt 0 = .ok (.iload_n 1, 1) := by decide +kernel
theorem dX6_kindAt_1 : decode cX6_kindAt 1 = .ok (.ifCond .ne 6, 3) := by decide +kernel
theorem dX6_kindAt_4 : decode cX6_kindAt 4 = .ok (.bipush 105, 2) := by decide +kernel
theorem dX6_kindAt_6 : decode cX6_kindAt 6 = .ok (.ireturn, 1) := by decide +kernel
theorem dX6_kindAt_7 : decode cX6_kindAt 7 = .ok (.iload_n 1, 1) := by decide +kernel
theorem dX6_kindAt_8 : decode cX6_kindAt 8 = .ok (.aload_n 0, 1) := by decide +kernel
theorem dX6_kindAt_9 : decode cX6_kindAt 9 = .ok (.getfield 21, 3) := by decide +kernel
theorem dX6_kindAt_12 : decode cX6_kindAt 12 = .ok (.if_icmp .ne 6, 3) := by decide +kernel
theorem dX6_kindAt_15 : decode cX6_kindAt 15 = .ok (.bipush 111, 2) := by decide +kernel
theorem dX6_kindAt_17 : decode cX6_kindAt 17 = .ok (.ireturn, 1) := by decide +kernel
theorem dX6_kindAt_18 : decode cX6_kindAt 18 = .ok (.aload_n 0, 1) := by decide +kernel
theorem dX6_kindAt_19 : decode cX6_kindAt 19 = .ok (.iload_n 1, 1) := by decide +kernel
theorem dX6_kindAt_20 : decode cX6_kindAt 20 = .ok (.invokevirtual 45, 3) := by decide +kernel
theorem dX6_kindAt_23 : decode cX6_kindAt 23 = .ok (.ifnull 8, 3) := by decide +kernel
theorem dX6_kindAt_26 : decode cX6_kindAt 26 = .ok (.bipush 99, 2) := by decide +kernel
theorem dX6_kindAt_28 : decode cX6_kindAt 28 = .ok (.goto 5, 3) := by decide +kernel
theorem dX6_kindAt_31 : decode cX6_kindAt 31 = .ok (.bipush 45, 2) := by decide +kernel
theorem dX6_kindAt_33 : decode cX6_kindAt 33 = .ok (.ireturn, 1) := by decide +kernel
theorem dX6_isJammed_0 : decode cX6_isJammed 0 = .ok (.iload_n 1, 1) := by decide +kernel
theorem dX6_isJammed_1 : decode cX6_isJammed 1 = .ok (.ifCond .ne 8, 3) := by decide +kernel
theorem dX6_isJammed_4 : decode cX6_isJammed 4 = .ok (.aload_n 0, 1) := by decide +kernel
theorem dX6_isJammed_5 : decode cX6_isJammed 5 = .ok (.getfield 48, 3) := by decide +kernel
theorem dX6_isJammed_8 : decode cX6_isJammed 8 = .ok (.ireturn, 1) := by decide +kernel
theorem dX6_isJammed_9 : decode cX6_isJammed 9 = .ok (.iload_n 1, 1) := by decide +kernel
theorem dX6_isJammed_10 : decode cX6_isJammed 10 = .ok (.aload_n 0, 1) := by decide +kernel
theorem dX6_isJammed_11 : decode cX6_isJammed 11 = .ok (.getfield 21, 3) := by decide +kernel
theorem dX6_isJammed_14 : decode cX6_isJammed 14 = .ok (.if_icmp .ne 8, 3) := by decide +kernel
theorem dX6_isJammed_17 : decode cX6_isJammed 17 = .ok (.aload_n 0, 1) := by decide +kernel
theorem dX6_isJammed_18 : decode cX6_isJammed 18 = .ok (.getfield 52, 3) := by decide +kernel
theorem dX6_isJammed_21 : decode cX6_isJammed 21 = .ok (.ireturn, 1) := by decide +kernel
theorem dX6_isJammed_22 : decode cX6_isJammed 22 = .ok (.aload_n 0, 1) := by decide +kernel
theorem dX6_isJammed_23 : decode cX6_isJammed 23 = .ok (.iload_n 1, 1) := by decide +kernel
theorem dX6_isJammed_24 : decode cX6_isJammed 24 = .ok (.invokevirtual 45, 3) := by decide +kernel
theorem dX6_isJammed_27 : decode cX6_isJammed 27 = .ok (.astore_n 2, 1) := by decide +kernel
theorem dX6_isJammed_28 : decode cX6_isJammed 28 = .ok (.aload_n 2, 1) := by decide +kernel
theorem dX6_isJammed_29 : decode cX6_isJammed 29 = .ok (.ifnull 14, 3) := by decide +kernel
theorem dX6_isJammed_32 : decode cX6_isJammed 32 = .ok (.aload_n 2, 1) := by decide +kernel
theorem dX6_isJammed_33 : decode cX6_isJammed 33 = .ok (.getfield 55, 3) := by decide +kernel
theorem dX6_isJammed_36 : decode cX6_isJammed 36 = .ok (.ifCond .eq 7, 3) := by decide +kernel
theorem dX6_isJammed_39 : decode cX6_isJammed 39 = .ok (.iconst 1, 1) := by decide +kernel
theorem dX6_isJammed_40 : decode cX6_isJammed 40 = .ok (.goto 4, 3) := by decide +kernel
theorem dX6_isJammed_43 : decode cX6_isJammed 43 = .ok (.iconst 0, 1) := by decide +kernel
theorem dX6_isJammed_44 : decode cX6_isJammed 44 = .ok (.ireturn, 1) := by decide +kernel
theorem dX6_setJammed_0 : decode cX6_setJammed 0 = .ok (.aload_n 0, 1) := by decide +kernel
theorem dX6_setJammed_1 : decode cX6_setJammed 1 = .ok (.iload_n 1, 1) := by decide +kernel
theorem dX6_setJammed_2 : decode cX6_setJammed 2 = .ok (.invokevirtual 45, 3) := by decide +kernel
theorem dX6_setJammed_5 : decode cX6_setJammed 5 = .ok (.astore_n 3, 1) := by decide +kernel
theorem dX6_setJammed_6 : decode cX6_setJammed 6 = .ok (.iload_n 1, 1) := by decide +kernel
theorem dX6_setJammed_7 : decode cX6_setJammed 7 = .ok (.ifCond .ne 11, 3) := by decide +kernel
theorem dX6_setJammed_10 : decode cX6_setJammed 10 = .ok (.aload_n 0, 1) := by decide +kernel
theorem dX6_setJammed_11 : decode cX6_setJammed 11 = .ok (.iload_n 2, 1) := by decide +kernel
theorem dX6_setJammed_12 : decode cX6_setJammed 12 = .ok (.putfield 48, 3) := by decide +kernel
theorem dX6_setJammed_15 : decode cX6_setJammed 15 = .ok (.goto 28, 3) := by decide +kernel
theorem dX6_setJammed_18 : decode cX6_setJammed 18 = .ok (.iload_n 1, 1) := by decide +kernel
theorem dX6_setJammed_19 : decode cX6_setJammed 19 = .ok (.aload_n 0, 1) := by decide +kernel
theorem dX6_setJammed_20 : decode cX6_setJammed 20 = .ok (.getfield 21, 3) := by decide +kernel
theorem dX6_setJammed_23 : decode cX6_setJammed 23 = .ok (.if_icmp .ne 11, 3) := by decide +kernel
theorem dX6_setJammed_26 : decode cX6_setJammed 26 = .ok (.aload_n 0, 1) := by decide +kernel
theorem dX6_setJammed_27 : decode cX6_setJammed 27 = .ok (.iload_n 2, 1) := by decide +kernel
theorem dX6_setJammed_28 : decode cX6_setJammed 28 = .ok (.putfield 52, 3) := by decide +kernel
