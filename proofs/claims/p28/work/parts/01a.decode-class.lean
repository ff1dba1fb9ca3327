theorem dX0_init_0 : decode cX0_init 0 = .ok (.aload_n 0, 1) := by decide +kernel
theorem dX0_init_1 : decode cX0_init 1 = .ok (.invokespecial 3, 3) := by decide +kernel
theorem dX0_init_4 : decode cX0_init 4 = .ok (.aload_n 0, 1) := by decide +kernel
theorem dX0_init_5 : decode cX0_init 5 = .ok (.new 9, 3) := by decide +kernel
theorem dX0_init_8 : decode cX0_init 8 = .ok (.dup, 1) := by decide +kernel
theorem dX0_init_9 : decode cX0_init 9 = .ok (.invokespecial 11, 3) := by decide +kernel
theorem dX0_init_12 : decode cX0_init 12 = .ok (.putfield 12, 3) := by decide +kernel
theorem dX0_init_15 : decode cX0_init 15 = .ok (.aload_n 0, 1) := by decide +kernel
theorem dX0_init_16 : decode cX0_init 16 = .ok (.new 9, 3) := by decide +kernel
theorem dX0_init_19 : decode cX0_init 19 = .ok (.dup, 1) := by decide +kernel
theorem dX0_init_20 : decode cX0_init 20 = .ok (.invokespecial 11, 3) := by decide +kernel
theorem dX0_init_23 : decode cX0_init 23 = .ok (.putfield 18, 3) := by decide +kernel
theorem dX0_init_26 : decode cX0_init 26 = .ok (.aload_n 0, 1) := by decide +kernel
theorem dX0_init_27 : decode cX0_init 27 = .ok (.iconst 1, 1) := by decide +kernel
theorem dX0_init_28 : decode cX0_init 28 = .ok (.putfield 21, 3) := by decide +kernel
theorem dX0_init_31 : decode cX0_init 31 = .ok (.aload_n 0, 1) := by decide +kernel
theorem dX0_init_32 : decode cX0_init 32 = .ok (.iconst 2, 1) := by decide +kernel
theorem dX0_init_33 : decode cX0_init 33 = .ok (.putfield 25, 3) := by decide +kernel
theorem dX0_init_36 : decode cX0_init 36 = .ok (.aload_n 0, 1) := by decide +kernel
theorem dX0_init_37 : decode cX0_init 37 = .ok (.iconst 5, 1) := by decide +kernel
theorem dX0_init_38 : decode cX0_init 38 = .ok (.putfield 29, 3) := by decide +kernel
theorem dX0_init_41 : decode cX0_init 41 = .ok (.return_, 1) := by decide +kernel
theorem dX0_gainToken_0 : decode cX0_gainToken 0 = .ok (.aload_n 0, 1) := by decide +kernel
theorem dX0_gainToken_1 : decode cX0_gainToken 1 = .ok (.getfield 29, 3) := by decide +kernel
theorem dX0_gainToken_4 : decode cX0_gainToken 4 = .ok (.iconst 5, 1) := by decide +kernel
theorem dX0_gainToken_5 : decode cX0_gainToken 5 = .ok (.if_icmp .ge 13, 3) := by decide +kernel
theorem dX0_gainToken_8 : decode cX0_gainToken 8 = .ok (.aload_n 0, 1) := by decide +kernel
theorem dX0_gainToken_9 : decode cX0_gainToken 9 = .ok (.dup, 1) := by decide +kernel
theorem dX0_gainToken_10 : decode cX0_gainToken 10 = .ok (.getfield 29, 3) := by decide +kernel
theorem dX0_gainToken_13 : decode cX0_gainToken 13 = .ok (.iconst 1, 1) := by decide +kernel
theorem dX0_gainToken_14 : decode cX0_gainToken 14 = .ok (.iadd, 1) := by decide +kernel
theorem dX0_gainToken_15 : decode cX0_gainToken 15 = .ok (.putfield 29, 3) := by decide +kernel
theorem dX0_gainToken_18 : decode cX0_gainToken 18 = .ok (.return_, 1) := by decide +kernel
theorem dX0_sendAll_0 : decode cX0_sendAll 0 = .ok (.iconst 0, 1) := by decide +kernel
theorem dX0_sendAll_1 : decode cX0_sendAll 1 = .ok (.istore_n 2, 1) := by decide +kernel
theorem dX0_sendAll_2 : decode cX0_sendAll 2 = .ok (.iload_n 2, 1) := by decide +kernel
theorem dX0_sendAll_3 : decode cX0_sendAll 3 = .ok (.iconst 5, 1) := by decide +kernel
theorem dX0_sendAll_4 : decode cX0_sendAll 4 = .ok (.if_icmp .ge 19, 3) := by decide +kernel
theorem dX0_sendAll_7 : decode cX0_sendAll 7 = .ok (.aload_n 0, 1) := by decide +kernel
theorem dX0_sendAll_8 : decode cX0_sendAll 8 = .ok (.iload_n 1, 1) := by decide +kernel
theorem dX0_sendAll_9 : decode cX0_sendAll 9 = .ok (.invokevirtual 32, 3) := by decide +kernel
theorem dX0_sendAll_12 : decode cX0_sendAll 12 = .ok (.ifCond .ne 5, 3) := by decide +kernel
theorem dX0_sendAll_15 : decode cX0_sendAll 15 = .ok (.iload_n 2, 1) := by decide +kernel
theorem dX0_sendAll_16 : decode cX0_sendAll 16 = .ok (.ireturn, 1) := by decide +kernel
theorem dX0_sendAll_17 : decode cX0_sendAll 17 = .ok (.iinc 2 1, 3) := by decide +kernel
theorem dX0_sendAll_20 : decode cX0_sendAll 20 = .ok (.goto (-18), 3) := by decide +kernel
theorem dX0_sendAll_23 : decode cX0_sendAll 23 = .ok (.iconst 5, 1) := by decide +kernel
theorem dX0_sendAll_24 : decode cX0_sendAll 24 = .ok (.ireturn, 1) := by decide +kernel
theorem dX0_sendNext_0 : decode cX0_sendNext 0 = .ok (.aload_n 0, 1) := by decide +kernel
theorem dX0_sendNext_1 : decode cX0_sendNext 1 = .ok (.getfield 21, 3) := by decide +kernel
theorem dX0_sendNext_4 : decode cX0_sendNext 4 = .ok (.ifCond .eq 25, 3) := by decide +kernel
theorem dX0_sendNext_7 : decode cX0_sendNext 7 = .ok (.aload_n 0, 1) := by decide +kernel
theorem dX0_sendNext_8 : decode cX0_sendNext 8 = .ok (.getfield 29, 3) := by decide +kernel
theorem dX0_sendNext_11 : decode cX0_sendNext 11 = .ok (.iconst 1, 1) := by decide +kernel
theorem dX0_sendNext_12 : decode cX0_sendNext 12 = .ok (.if_icmp .lt 17, 3) := by decide +kernel
theorem dX0_sendNext_15 : decode cX0_sendNext 15 = .ok (.aload_n 0, 1) := by decide +kernel
theorem dX0_sendNext_16 : decode cX0_sendNext 16 = .ok (.getfield 18, 3) := by decide +kernel
theorem dX0_sendNext_19 : decode cX0_sendNext 19 = .ok (.getfield 36, 3) := by decide +kernel
theorem dX0_sendNext_22 : decode cX0_sendNext 22 = .ok (.aload_n 0, 1) := by decide +kernel
theorem dX0_sendNext_23 : decode cX0_sendNext 23 = .ok (.getfield 25, 3) := by decide +kernel
theorem dX0_sendNext_26 : decode cX0_sendNext 26 = .ok (.if_icmp .lt 5, 3) := by decide +kernel
theorem dX0_sendNext_29 : decode cX0_sendNext 29 = .ok (.iconst 0, 1) := by decide +kernel
theorem dX0_sendNext_30 : decode cX0_sendNext 30 = .ok (.ireturn, 1) := by decide +kernel
theorem dX0_sendNext_31 : decode cX0_sendNext 31 = .ok (.aload_n 0, 1) := by decide +kernel
theorem dX0_sendNext_32 : decode cX0_sendNext 32 = .ok (.getfield 12, 3) := by decide +kernel
theorem dX0_sendNext_35 : decode cX0_sendNext 35 = .ok (.iload_n 1, 1) := by decide +kernel
theorem dX0_sendNext_36 : decode cX0_sendNext 36 = .ok (.invokevirtual 39, 3) := by decide +kernel
theorem dX0_sendNext_39 : decode cX0_sendNext 39 = .ok (.astore_n 2, 1) := by decide +kernel
theorem dX0_sendNext_40 : decode cX0_sendNext 40 = .ok (.aload_n 2, 1) := by decide +kernel
theorem dX0_sendNext_41 : decode cX0_sendNext 41 = .ok (.ifnonnull 5, 3) := by decide +kernel
theorem dX0_sendNext_44 : decode cX0_sendNext 44 = .ok (.iconst 0, 1) := by decide +kernel
theorem dX0_sendNext_45 : decode cX0_sendNext 45 = .ok (.ireturn, 1) := by decide +kernel
theorem dX0_sendNext_46 : decode cX0_sendNext 46 = .ok (.aload_n 0, 1) := by decide +kernel
theorem dX0_sendNext_47 : decode cX0_sendNext 47 = .ok (.getfield 18, 3) := by decide +kernel
theorem dX0_sendNext_50 : decode cX0_sendNext 50 = .ok (.aload_n 2, 1) := by decide +kernel
theorem dX0_sendNext_51 : decode cX0_sendNext 51 = .ok (.invokevirtual 43, 3) := by decide +kernel
theorem dX0_sendNext_54 : decode cX0_sendNext 54 = .ok (.aload_n 0, 1) := by decide +kernel
theorem dX0_sendNext_55 : decode cX0_sendNext 55 = .ok (.dup, 1) := by decide +kernel
theorem dX0_sendNext_56 : decode cX0_sendNext 56 = .ok (.getfield 29, 3) := by decide +kernel
theorem dX0_sendNext_59 : decode cX0_sendNext 59 = .ok (.iconst 1, 1) := by decide +kernel
theorem dX0_sendNext_60 : decode cX0_sendNext 60 = .ok (.isub, 1) := by decide +kernel
theorem dX0_sendNext_61 : decode cX0_sendNext 61 = .ok (.putfield 29, 3) := by decide +kernel
theorem dX0_sendNext_64 : decode cX0_sendNext 64 = .ok (.iconst 1, 1) := by decide +kernel
theorem dX0_sendNext_65 : decode cX0_sendNext 65 = .ok (.ireturn, 1) := by decide +kernel
theorem dX0_goDown_0 : decode cX0_goDown 0 = .ok (.aload_n 0, 1) := by decide +kernel
theorem dX0_goDown_1 : decode cX0_goDown 1 = .ok (.iconst 0, 1) := by decide +kernel
theorem dX0_goDown_2 : decode cX0_goDown 2 = .ok (.putfield 21, 3) := by decide +kernel
theorem dX0_goDown_5 : decode cX0_goDown 5 = .ok (.iconst 0, 1) := by decide +kernel
theorem dX0_goDown_6 : decode cX0_goDown 6 = .ok (.istore_n 2, 1) := by decide +kernel
theorem dX0_goDown_7 : decode cX0_goDown 7 = .ok (.aload_n 0, 1) := by decide +kernel
theorem dX0_goDown_8 : decode cX0_goDown 8 = .ok (.getfield 18, 3) := by decide +kernel
theorem dX0_goDown_11 : decode cX0_goDown 11 = .ok (.getfield 36, 3) := by decide +kernel
theorem dX0_goDown_14 : decode cX0_goDown 14 = .ok (.istore_n 3, 1) := by decide +kernel
theorem dX0_goDown_15 : decode cX0_goDown 15 = .ok (.iconst 0, 1) := by decide +kernel
theorem dX0_goDown_16 : decode cX0_goDown 16 = .ok (.istore 4, 2) := by decide +kernel
theorem dX0_goDown_18 : decode cX0_goDown 18 = .ok (.iload 4, 2) := by decide +kernel
theorem dX0_goDown_20 : decode cX0_goDown 20 = .ok (.iload_n 3, 1) := by decide +kernel
theorem dX0_goDown_21 : decode cX0_goDown 21 = .ok (.if_icmp .ge 54, 3) := by decide +kernel
theorem dX0_goDown_24 : decode cX0_goDown 24 = .ok (.aload_n 0, 1) := by decide +kernel
theorem dX0_goDown_25 : decode cX0_goDown 25 = .ok (.getfield 18, 3) := by decide +kernel
theorem dX0_goDown_28 : decode cX0_goDown 28 = .ok (.iconst 0, 1) := by decide +kernel
theorem dX0_goDown_29 : decode cX0_goDown 29 = .ok (.invokevirtual 47, 3) := by decide +kernel
theorem dX0_goDown_32 : decode cX0_goDown 32 = .ok (.astore 5, 2) := by decide +kernel
theorem dX0_goDown_34 : decode cX0_goDown 34 = .ok (.aload 5, 2) := by decide +kernel
theorem dX0_goDown_36 : decode cX0_goDown 36 = .ok (.ifnull 33, 3) := by decide +kernel
theorem dX0_goDown_39 : decode cX0_goDown 39 = .ok (.aload 5, 2) := by decide +kernel
theorem dX0_goDown_41 : decode cX0_goDown 41 = .ok (.getfield 50, 3) := by decide +kernel
theorem dX0_goDown_44 : decode cX0_goDown 44 = .ok (.getfield 56, 3) := by decide +kernel
theorem dX0_goDown_47 : decode cX0_goDown 47 = .ok (.ifCond .ne 22, 3) := by decide +kernel
theorem dX0_goDown_50 : decode cX0_goDown 50 = .ok (.aload 5, 2) := by decide +kernel
theorem dX0_goDown_52 : decode cX0_goDown 52 = .ok (.iload_n 1, 1) := by decide +kernel
theorem dX0_goDown_53 : decode cX0_goDown 53 = .ok (.putfield 61, 3) := by decide +kernel
theorem dX0_goDown_56 : decode cX0_goDown 56 = .ok (.aload_n 0, 1) := by decide +kernel
theorem dX0_goDown_57 : decode cX0_goDown 57 = .ok (.getfield 12, 3) := by decide +kernel
theorem dX0_goDown_60 : decode cX0_goDown 60 = .ok (.iload_n 2, 1) := by decide +kernel
theorem dX0_goDown_61 : decode cX0_goDown 61 = .ok (.aload 5, 2) := by decide +kernel
theorem dX0_goDown_63 : decode cX0_goDown 63 = .ok (.invokevirtual 64, 3) := by decide +kernel
theorem dX0_goDown_66 : decode cX0_goDown 66 = .ok (.iinc 2 1, 3) := by decide +kernel
theorem dX0_goDown_69 : decode cX0_goDown 69 = .ok (.iinc 4 1, 3) := by decide +kernel
theorem dX0_goDown_72 : decode cX0_goDown 72 = .ok (.goto (-54), 3) := by decide +kernel
theorem dX0_goDown_75 : decode cX0_goDown 75 = .ok (.return_, 1) := by decide +kernel
theorem dX1_init_0 : decode cX1_init 0 = .ok (.aload_n 0, 1) := by decide +kernel
theorem dX1_init_1 : decode cX1_init 1 = .ok (.invokespecial 3, 3) := by decide +kernel
theorem dX1_init_4 : decode cX1_init 4 = .ok (.aload_n 0, 1) := by decide +kernel
theorem dX1_init_5 : decode cX1_init 5 = .ok (.iconst 0, 1) := by decide +kernel
theorem dX1_init_6 : decode cX1_init 6 = .ok (.putfield 9, 3) := by decide +kernel
theorem dX1_init_9 : decode cX1_init 9 = .ok (.aload_n 0, 1) := by decide +kernel
theorem dX1_init_10 : decode cX1_init 10 = .ok (.iload_n 1, 1) := by decide +kernel
theorem dX1_init_11 : decode cX1_init 11 = .ok (.putfield 15, 3) := by decide +kernel
theorem dX1_init_14 : decode cX1_init 14 = .ok (.aload_n 0, 1) := by decide +kernel
theorem dX1_init_15 : decode cX1_init 15 = .ok (.iload_n 2, 1) := by decide +kernel
theorem dX1_init_16 : decode cX1_init 16 = .ok (.putfield 18, 3) := by decide +kernel
theorem dX1_init_19 : decode cX1_init 19 = .ok (.aload_n 0, 1) := by decide +kernel
theorem dX1_init_20 : decode cX1_init 20 = .ok (.iload_n 3, 1) := by decide +kernel
theorem dX1_init_21 : decode cX1_init 21 = .ok (.putfield 21, 3) := by decide +kernel
theorem dX1_init_24 : decode cX1_init 24 = .ok (.aload_n 0, 1) := by decide +kernel
theorem dX1_init_25 : decode cX1_init 25 = .ok (.aload 4, 2) := by decide +kernel
theorem dX1_init_27 : decode cX1_init 27 = .ok (.putfield 24, 3) := by decide +kernel
theorem dX1_init_30 : decode cX1_init 30 = .ok (.aload_n 0, 1) := by decide +kernel
theorem dX1_init_31 : decode cX1_init 31 = .ok (.aload 5, 2) := by decide +kernel
theorem dX1_init_33 : decode cX1_init 33 = .ok (.invokevirtual 28, 3) := by decide +kernel
theorem dX1_init_36 : decode cX1_init 36 = .ok (.putfield 34, 3) := by decide +kernel
theorem dX1_init_39 : decode cX1_init 39 = .ok (.aload_n 0, 1) := by decide +kernel
theorem dX1_init_40 : decode cX1_init 40 = .ok (.aload 5, 2) := by decide +kernel
theorem dX1_init_42 : decode cX1_init 42 = .ok (.invokevirtual 38, 3) := by decide +kernel
theorem dX1_init_45 : decode cX1_init 45 = .ok (.putfield 41, 3) := by decide +kernel
theorem dX1_init_48 : decode cX1_init 48 = .ok (.aload_n 0, 1) := by decide +kernel
theorem dX1_init_49 : decode cX1_init 49 = .ok (.aload 5, 2) := by decide +kernel
theorem dX1_init_51 : decode cX1_init 51 = .ok (.getfield 44, 3) := by decide +kernel
theorem dX1_init_54 : decode cX1_init 54 = .ok (.putfield 47, 3) := by decide +kernel
theorem dX1_init_57 : decode cX1_init 57 = .ok (.aload_n 0, 1) := by decide +kernel
theorem dX1_init_58 : decode cX1_init 58 = .ok (.iconst 1, 1) := by decide +kernel
theorem dX1_init_59 : decode cX1_init 59 = .ok (.aload 5, 2) := by decide +kernel
theorem dX1_init_61 : decode cX1_init 61 = .ok (.getfield 44, 3) := by decide +kernel
theorem dX1_init_64 : decode cX1_init 64 = .ok (.ishl, 1) := by decide +kernel
theorem dX1_init_65 : decode cX1_init 65 = .ok (.iconst 1, 1) := by decide +kernel
theorem dX1_init_66 : decode cX1_init 66 = .ok (.isub, 1) := by decide +kernel
theorem dX1_init_67 : decode cX1_init 67 = .ok (.putfield 48, 3) := by decide +kernel
theorem dX1_init_70 : decode cX1_init 70 = .ok (.return_, 1) := by decide +kernel
theorem dX1_lacks_0 : decode cX1_lacks 0 = .ok (.aload_n 0, 1) := by decide +kernel
theorem dX1_lacks_1 : decode cX1_lacks 1 = .ok (.getfield 48, 3) := by decide +kernel
theorem dX1_lacks_4 : decode cX1_lacks 4 = .ok (.iload_n 1, 1) := by decide +kernel
theorem dX1_lacks_5 : decode cX1_lacks 5 = .ok (.ishr, 1) := by decide +kernel
theorem dX1_lacks_6 : decode cX1_lacks 6 = .ok (.iconst 1, 1) := by decide +kernel
theorem dX1_lacks_7 : decode cX1_lacks 7 = .ok (.iand, 1) := by decide +kernel
theorem dX1_lacks_8 : decode cX1_lacks 8 = .ok (.iconst 1, 1) := by decide +kernel
theorem dX1_lacks_9 : decode cX1_lacks 9 = .ok (.if_icmp .ne 7, 3) := by decide +kernel
theorem dX1_lacks_12 : decode cX1_lacks 12 = .ok (.iconst 1, 1) := by decide +kernel
theorem dX1_lacks_13 : decode cX1_lacks 13 = .ok (.goto 4, 3) := by decide +kernel
theorem dX1_lacks_16 : decode cX1_lacks 16 = .ok (.iconst 0, 1) := by decide +kernel
theorem dX1_lacks_17 : decode cX1_lacks 17 = .ok (.ireturn, 1) := by decide +kernel
theorem dX1_receive_0 : decode cX1_receive 0 = .ok (.aload_n 0, 1) := by decide +kernel
theorem dX1_receive_1 : decode cX1_receive 1 = .ok (.dup, 1) := by decide +kernel
theorem dX1_receive_2 : decode cX1_receive 2 = .ok (.getfield 48, 3) := by decide +kernel
theorem dX1_receive_5 : decode cX1_receive 5 = .ok (.iconst 1, 1) := by decide +kernel
theorem dX1_receive_6 : decode cX1_receive 6 = .ok (.iload_n 1, 1) := by decide +kernel
theorem dX1_receive_7 : decode cX1_receive 7 = .ok (.ishl, 1) := by decide +kernel
theorem dX1_receive_8 : decode cX1_receive 8 = .ok (.iconst (-1), 1) := by decide +kernel
theorem dX1_receive_9 : decode cX1_receive 9 = .ok (.ixor, 1) := by decide +kernel
theorem dX1_receive_10 : decode cX1_receive 10 = .ok (.iand, 1) := by decide +kernel
theorem dX1_receive_11 : decode cX1_receive 11 = .ok (.putfield 48, 3) := by decide +kernel
theorem dX1_receive_14 : decode cX1_receive 14 = .ok (.return_, 1) := by decide +kernel
theorem dX1_partWith_0 : decode cX1_partWith 0 = .ok (.iconst 0, 1) := by decide +kernel
theorem dX1_partWith_1 : decode cX1_partWith 1 = .ok (.istore_n 2, 1) := by decide +kernel
theorem dX1_partWith_2 : decode cX1_partWith 2 = .ok (.iconst 1, 1) := by decide +kernel
theorem dX1_partWith_3 : decode cX1_partWith 3 = .ok (.istore_n 3, 1) := by decide +kernel
theorem dX1_partWith_4 : decode cX1_partWith 4 = .ok (.iload_n 3, 1) := by decide +kernel
theorem dX1_partWith_5 : decode cX1_partWith 5 = .ok (.aload_n 0, 1) := by decide +kernel
theorem dX1_partWith_6 : decode cX1_partWith 6 = .ok (.getfield 41, 3) := by decide +kernel
theorem dX1_partWith_9 : decode cX1_partWith 9 = .ok (.arraylength, 1) := by decide +kernel
theorem dX1_partWith_10 : decode cX1_partWith 10 = .ok (.if_icmp .ge 21, 3) := by decide +kernel
theorem dX1_partWith_13 : decode cX1_partWith 13 = .ok (.iload_n 1, 1) := by decide +kernel
theorem dX1_partWith_14 : decode cX1_partWith 14 = .ok (.aload_n 0, 1) := by decide +kernel
theorem dX1_partWith_15 : decode cX1_partWith 15 = .ok (.getfield 41, 3) := by decide +kernel
theorem dX1_partWith_18 : decode cX1_partWith 18 = .ok (.iload_n 3, 1) := by decide +kernel
theorem dX1_partWith_19 : decode cX1_partWith 19 = .ok (.iaload, 1) := by decide +kernel
theorem dX1_partWith_20 : decode cX1_partWith 20 = .ok (.if_icmp .lt 5, 3) := by decide +kernel
theorem dX1_partWith_23 : decode cX1_partWith 23 = .ok (.iload_n 3, 1) := by decide +kernel
theorem dX1_partWith_24 : decode cX1_partWith 24 = .ok (.istore_n 2, 1) := by decide +kernel
theorem dX1_partWith_25 : decode cX1_partWith 25 = .ok (.iinc 3 1, 3) := by decide +kernel
theorem dX1_partWith_28 : decode cX1_partWith 28 = .ok (.goto (-24), 3) := by decide +kernel
theorem dX1_partWith_31 : decode cX1_partWith 31 = .ok (.iload_n 2, 1) := by decide +kernel
theorem dX1_partWith_32 : decode cX1_partWith 32 = .ok (.ireturn, 1) := by decide +kernel
theorem dX2_init_0 : decode cX2_init 0 = .ok (.aload_n 0, 1) := by decide +kernel
theorem dX2_init_1 : decode cX2_init 1 = .ok (.invokespecial 1, 3) := by decide +kernel
theorem dX2_init_4 : decode cX2_init 4 = .ok (.aload_n 0, 1) := by decide +kernel
theorem dX2_init_5 : decode cX2_init 5 = .ok (.iconst 0, 1) := by decide +kernel
theorem dX2_init_6 : decode cX2_init 6 = .ok (.putfield 7, 3) := by decide +kernel
theorem dX2_init_9 : decode cX2_init 9 = .ok (.aload_n 0, 1) := by decide +kernel
theorem dX2_init_10 : decode cX2_init 10 = .ok (.iconst 0, 1) := by decide +kernel
theorem dX2_init_11 : decode cX2_init 11 = .ok (.putfield 13, 3) := by decide +kernel
theorem dX2_init_14 : decode cX2_init 14 = .ok (.aload_n 0, 1) := by decide +kernel
theorem dX2_init_15 : decode cX2_init 15 = .ok (.aload_n 1, 1) := by decide +kernel
theorem dX2_init_16 : decode cX2_init 16 = .ok (.putfield 17, 3) := by decide +kernel
theorem dX2_init_19 : decode cX2_init 19 = .ok (.aload_n 0, 1) := by decide +kernel
theorem dX2_init_20 : decode cX2_init 20 = .ok (.iload_n 2, 1) := by decide +kernel
theorem dX2_init_21 : decode cX2_init 21 = .ok (.putfield 21, 3) := by decide +kernel
theorem dX2_init_24 : decode cX2_init 24 = .ok (.aload_n 0, 1) := by decide +kernel
theorem dX2_init_25 : decode cX2_init 25 = .ok (.iload_n 3, 1) := by decide +kernel
theorem dX2_init_26 : decode cX2_init 26 = .ok (.putfield 24, 3) := by decide +kernel
theorem dX2_init_29 : decode cX2_init 29 = .ok (.return_, 1) := by decide +kernel
theorem dX2_isReady_0 : decode cX2_isReady 0 = .ok (.aload_n 0, 1) := by decide +kernel
theorem dX2_isReady_1 : decode cX2_isReady 1 = .ok (.getfield 13, 3) := by decide +kernel
theorem dX2_isReady_4 : decode cX2_isReady 4 = .ok (.ifCond .ne 15, 3) := by decide +kernel
theorem dX2_isReady_7 : decode cX2_isReady 7 = .ok (.aload_n 0, 1) := by decide +kernel
theorem dX2_isReady_8 : decode cX2_isReady 8 = .ok (.getfield 24, 3) := by decide +kernel
theorem dX2_isReady_11 : decode cX2_isReady 11 = .ok (.iload_n 1, 1) := by decide +kernel
theorem dX2_isReady_12 : decode cX2_isReady 12 = .ok (.if_icmp .gt 7, 3) := by decide +kernel
theorem dX2_isReady_15 : decode cX2_isReady 15 = .ok (.iconst 1, 1) := by decide +kernel
theorem dX2_isReady_16 : decode cX2_isReady 16 = .ok (.goto 4, 3) := by decide +kernel
theorem dX2_isReady_19 : decode cX2_isReady 19 = .ok (.iconst 0, 1) := by decide +kernel
theorem dX2_isReady_20 : decode cX2_isReady 20 = .ok (.ireturn, 1) := by decide +kernel
theorem dX3_init_0 : decode cX3_init 0 = .ok (.aload_n 0, 1) := by decide +kernel
theorem dX3_init_1 : decode cX3_init 1 = .ok (.invokespecial 3, 3) := by decide +kernel
theorem dX3_init_4 : decode cX3_init 4 = .ok (.aload_n 0, 1) := by decide +kernel
theorem dX3_init_5 : decode cX3_init 5 = .ok (.iconst 5, 1) := by decide +kernel
theorem dX3_init_6 : decode cX3_init 6 = .ok (.newarray .int, 2) := by decide +kernel
theorem dX3_init_8 : decode cX3_init 8 = .ok (.putfield 9, 3) := by decide +kernel
theorem dX3_init_11 : decode cX3_init 11 = .ok (.aload_n 0, 1) := by decide +kernel
theorem dX3_init_12 : decode cX3_init 12 = .ok (.bipush 9, 2) := by decide +kernel
theorem dX3_init_14 : decode cX3_init 14 = .ok (.newarray .int, 2) := by decide +kernel
theorem dX3_init_16 : decode cX3_init 16 = .ok (.putfield 15, 3) := by decide +kernel
theorem dX3_init_19 : decode cX3_init 19 = .ok (.aload_n 0, 1) := by decide +kernel
theorem dX3_init_20 : decode cX3_init 20 = .ok (.bipush 9, 2) := by decide +kernel
theorem dX3_init_22 : decode cX3_init 22 = .ok (.newarray .int, 2) := by decide +kernel
theorem dX3_init_24 : decode cX3_init 24 = .ok (.putfield 18, 3) := by decide +kernel
theorem dX3_init_27 : decode cX3_init 27 = .ok (.aload_n 0, 1) := by decide +kernel
theorem dX3_init_28 : decode cX3_init 28 = .ok (.getfield 9, 3) := by decide +kernel
theorem dX3_init_31 : decode cX3_init 31 = .ok (.iconst (-1), 1) := by decide +kernel
theorem dX3_init_32 : decode cX3_init 32 = .ok (.invokestatic 21, 3) := by decide +kernel
theorem dX3_init_35 : decode cX3_init 35 = .ok (.return_, 1) := by decide +kernel
theorem dX3_giveKeyword_0 : decode cX3_giveKeyword 0 = .ok (.iconst 0, 1) := by decide +kernel
theorem dX3_giveKeyword_1 : decode cX3_giveKeyword 1 = .ok (.istore_n 3, 1) := by decide +kernel
theorem dX3_giveKeyword_2 : decode cX3_giveKeyword 2 = .ok (.iload_n 3, 1) := by decide +kernel
theorem dX3_giveKeyword_3 : decode cX3_giveKeyword 3 = .ok (.aload_n 0, 1) := by decide +kernel
theorem dX3_giveKeyword_4 : decode cX3_giveKeyword 4 = .ok (.getfield 9, 3) := by decide +kernel
theorem dX3_giveKeyword_7 : decode cX3_giveKeyword 7 = .ok (.arraylength, 1) := by decide +kernel
theorem dX3_giveKeyword_8 : decode cX3_giveKeyword 8 = .ok (.if_icmp .ge 41, 3) := by decide +kernel
theorem dX3_giveKeyword_11 : decode cX3_giveKeyword 11 = .ok (.iload_n 3, 1) := by decide +kernel
theorem dX3_giveKeyword_12 : decode cX3_giveKeyword 12 = .ok (.iload_n 1, 1) := by decide +kernel
theorem dX3_giveKeyword_13 : decode cX3_giveKeyword 13 = .ok (.if_icmp .ne 13, 3) := by decide +kernel
theorem dX3_giveKeyword_16 : decode cX3_giveKeyword 16 = .ok (.aload_n 0, 1) := by decide +kernel
theorem dX3_giveKeyword_17 : decode cX3_giveKeyword 17 = .ok (.getfield 9, 3) := by decide +kernel
theorem dX3_giveKeyword_20 : decode cX3_giveKeyword 20 = .ok (.iload_n 3, 1) := by decide +kernel
theorem dX3_giveKeyword_21 : decode cX3_giveKeyword 21 = .ok (.iload_n 2, 1) := by decide +kernel
theorem dX3_giveKeyword_22 : decode cX3_giveKeyword 22 = .ok (.iastore, 1) := by decide +kernel
theorem dX3_giveKeyword_23 : decode cX3_giveKeyword 23 = .ok (.goto 20, 3) := by decide +kernel
theorem dX3_giveKeyword_26 : decode cX3_giveKeyword 26 = .ok (.aload_n 0, 1) := by decide +kernel
theorem dX3_giveKeyword_27 : decode cX3_giveKeyword 27 = .ok (.getfield 9, 3) := by decide +kernel
theorem dX3_giveKeyword_30 : decode cX3_giveKeyword 30 = .ok (.iload_n 3, 1) := by decide +kernel
theorem dX3_giveKeyword_31 : decode cX3_giveKeyword 31 = .ok (.iaload, 1) := by decide +kernel
theorem dX3_giveKeyword_32 : decode cX3_giveKeyword 32 = .ok (.iload_n 2, 1) := by decide +kernel
theorem dX3_giveKeyword_33 : decode cX3_giveKeyword 33 = .ok (.if_icmp .ne 10, 3) := by decide +kernel
theorem dX3_giveKeyword_36 : decode cX3_giveKeyword 36 = .ok (.aload_n 0, 1) := by decide +kernel
theorem dX3_giveKeyword_37 : decode cX3_giveKeyword 37 = .ok (.getfield 9, 3) := by decide +kernel
theorem dX3_giveKeyword_40 : decode cX3_giveKeyword 40 = .ok (.iload_n 3, 1) := by decide +kernel
theorem dX3_giveKeyword_41 : decode cX3_giveKeyword 41 = .ok (.iconst (-1), 1) := by decide +kernel
theorem dX3_giveKeyword_42 : decode cX3_giveKeyword 42 = .ok (.iastore, 1) := by decide +kernel
theorem dX3_giveKeyword_43 : decode cX3_giveKeyword 43 = .ok (.iinc 3 1, 3) := by decide +kernel
theorem dX3_giveKeyword_46 : decode cX3_giveKeyword 46 = .ok (.goto (-44), 3) := by decide +kernel
theorem dX3_giveKeyword_49 : decode cX3_giveKeyword 49 = .ok (.return_, 1) := by decide +kernel
theorem dX3_serviceFor_0 : decode cX3_serviceFor 0 = .ok (.iload_n 1, 1) := by decide +kernel
theorem dX3_serviceFor_1 : decode cX3_serviceFor 1 = .ok (.ifCond .lt 21, 3) := by decide +kernel
theorem dX3_serviceFor_4 : decode cX3_serviceFor 4 = .ok (.iload_n 1, 1) := by decide +kernel
theorem dX3_serviceFor_5 : decode cX3_serviceFor 5 = .ok (.aload_n 0, 1) := by decide +kernel
theorem dX3_serviceFor_6 : decode cX3_serviceFor 6 = .ok (.getfield 15, 3) := by decide +kernel
theorem dX3_serviceFor_9 : decode cX3_serviceFor 9 = .ok (.arraylength, 1) := by decide +kernel
theorem dX3_serviceFor_10 : decode cX3_serviceFor 10 = .ok (.if_icmp .ge 12, 3) := by decide +kernel
theorem dX3_serviceFor_13 : decode cX3_serviceFor 13 = .ok (.iload_n 1, 1) := by decide +kernel
theorem dX3_serviceFor_14 : decode cX3_serviceFor 14 = .ok (.aload_n 0, 1) := by decide +kernel
theorem dX3_serviceFor_15 : decode cX3_serviceFor 15 = .ok (.getfield 18, 3) := by decide +kernel
theorem dX3_serviceFor_18 : decode cX3_serviceFor 18 = .ok (.arraylength, 1) := by decide +kernel
theorem dX3_serviceFor_19 : decode cX3_serviceFor 19 = .ok (.if_icmp .lt 5, 3) := by decide +kernel
theorem dX3_serviceFor_22 : decode cX3_serviceFor 22 = .ok (.iconst 0, 1) := by decide +kernel
theorem dX3_serviceFor_23 : decode cX3_serviceFor 23 = .ok (.ireturn, 1) := by decide +kernel
theorem dX3_serviceFor_24 : decode cX3_serviceFor 24 = .ok (.aload_n 0, 1) := by decide +kernel
theorem dX3_serviceFor_25 : decode cX3_serviceFor 25 = .ok (.iload_n 2, 1) := by decide +kernel
theorem dX3_serviceFor_26 : decode cX3_serviceFor 26 = .ok (.invokevirtual 27, 3) := by decide +kernel
theorem dX3_serviceFor_29 : decode cX3_serviceFor 29 = .ok (.istore 4, 2) := by decide +kernel
theorem dX3_serviceFor_31 : decode cX3_serviceFor 31 = .ok (.iload 4, 2) := by decide +kernel
theorem dX3_serviceFor_33 : decode cX3_serviceFor 33 = .ok (.ifCond .eq 14, 3) := by decide +kernel
theorem dX3_serviceFor_36 : decode cX3_serviceFor 36 = .ok (.aload_n 0, 1) := by decide +kernel
theorem dX3_serviceFor_37 : decode cX3_serviceFor 37 = .ok (.getfield 15, 3) := by decide +kernel
theorem dX3_serviceFor_40 : decode cX3_serviceFor 40 = .ok (.iload_n 1, 1) := by decide +kernel
theorem dX3_serviceFor_41 : decode cX3_serviceFor 41 = .ok (.iload 4, 2) := by decide +kernel
theorem dX3_serviceFor_43 : decode cX3_serviceFor 43 = .ok (.iastore, 1) := by decide +kernel
theorem dX3_serviceFor_44 : decode cX3_serviceFor 44 = .ok (.goto 23, 3) := by decide +kernel
theorem dX3_serviceFor_47 : decode cX3_serviceFor 47 = .ok (.iload_n 3, 1) := by decide +kernel
theorem dX3_serviceFor_48 : decode cX3_serviceFor 48 = .ok (.aload_n 0, 1) := by decide +kernel
theorem dX3_serviceFor_49 : decode cX3_serviceFor 49 = .ok (.getfield 18, 3) := by decide +kernel
theorem dX3_serviceFor_52 : decode cX3_serviceFor 52 = .ok (.iload_n 1, 1) := by decide +kernel
theorem dX3_serviceFor_53 : decode cX3_serviceFor 53 = .ok (.iaload, 1) := by decide +kernel
theorem dX3_serviceFor_54 : decode cX3_serviceFor 54 = .ok (.isub, 1) := by decide +kernel
theorem dX3_serviceFor_55 : decode cX3_serviceFor 55 = .ok (.bipush 20, 2) := by decide +kernel
theorem dX3_serviceFor_57 : decode cX3_serviceFor 57 = .ok (.if_icmp .lt 10, 3) := by decide +kernel
theorem dX3_serviceFor_60 : decode cX3_serviceFor 60 = .ok (.aload_n 0, 1) := by decide +kernel
theorem dX3_serviceFor_61 : decode cX3_serviceFor 61 = .ok (.getfield 15, 3) := by decide +kernel
theorem dX3_serviceFor_64 : decode cX3_serviceFor 64 = .ok (.iload_n 1, 1) := by decide +kernel
theorem dX3_serviceFor_65 : decode cX3_serviceFor 65 = .ok (.iconst 0, 1) := by decide +kernel
theorem dX3_serviceFor_66 : decode cX3_serviceFor 66 = .ok (.iastore, 1) := by decide +kernel
theorem dX3_serviceFor_67 : decode cX3_serviceFor 67 = .ok (.aload_n 0, 1) := by decide +kernel
theorem dX3_serviceFor_68 : decode cX3_serviceFor 68 = .ok (.getfield 18, 3) := by decide +kernel
theorem dX3_serviceFor_71 : decode cX3_serviceFor 71 = .ok (.iload_n 1, 1) := by decide +kernel
theorem dX3_serviceFor_72 : decode cX3_serviceFor 72 = .ok (.iload_n 3, 1) := by decide +kernel
theorem dX3_serviceFor_73 : decode cX3_serviceFor 73 = .ok (.iastore, 1) := by decide +kernel
theorem dX3_serviceFor_74 : decode cX3_serviceFor 74 = .ok (.aload_n 0, 1) := by decide +kernel
theorem dX3_serviceFor_75 : decode cX3_serviceFor 75 = .ok (.getfield 15, 3) := by decide +kernel
theorem dX3_serviceFor_78 : decode cX3_serviceFor 78 = .ok (.iload_n 1, 1) := by decide +kernel
theorem dX3_serviceFor_79 : decode cX3_serviceFor 79 = .ok (.iaload, 1) := by decide +kernel
theorem dX3_serviceFor_80 : decode cX3_serviceFor 80 = .ok (.ireturn, 1) := by decide +kernel
theorem dX3_serviceWith_0 : decode cX3_serviceWith 0 = .ok (.iconst 1, 1) := by decide +kernel
theorem dX3_serviceWith_1 : decode cX3_serviceWith 1 = .ok (.istore_n 2, 1) := by decide +kernel
theorem dX3_serviceWith_2 : decode cX3_serviceWith 2 = .ok (.iload_n 2, 1) := by decide +kernel
theorem dX3_serviceWith_3 : decode cX3_serviceWith 3 = .ok (.aload_n 0, 1) := by decide +kernel
theorem dX3_serviceWith_4 : decode cX3_serviceWith 4 = .ok (.getfield 9, 3) := by decide +kernel
theorem dX3_serviceWith_7 : decode cX3_serviceWith 7 = .ok (.arraylength, 1) := by decide +kernel
theorem dX3_serviceWith_8 : decode cX3_serviceWith 8 = .ok (.if_icmp .ge 21, 3) := by decide +kernel
theorem dX3_serviceWith_11 : decode cX3_serviceWith 11 = .ok (.aload_n 0, 1) := by decide +kernel
theorem dX3_serviceWith_12 : decode cX3_serviceWith 12 = .ok (.getfield 9, 3) := by decide +kernel
theorem dX3_serviceWith_15 : decode cX3_serviceWith 15 = .ok (.iload_n 2, 1) := by decide +kernel
theorem dX3_serviceWith_16 : decode cX3_serviceWith 16 = .ok (.iaload, 1) := by decide +kernel
theorem dX3_serviceWith_17 : decode cX3_serviceWith 17 = .ok (.iload_n 1, 1) := by decide +kernel
theorem dX3_serviceWith_18 : decode cX3_serviceWith 18 = .ok (.if_icmp .ne 5, 3) := by decide +kernel
theorem dX3_serviceWith_21 : decode cX3_serviceWith 21 = .ok (.iload_n 2, 1) := by decide +kernel
theorem dX3_serviceWith_22 : decode cX3_serviceWith 22 = .ok (.ireturn, 1) := by decide +kernel
theorem dX3_serviceWith_23 : decode cX3_serviceWith 23 = .ok (.iinc 2 1, 3) := by decide +kernel
theorem dX3_serviceWith_26 : decode cX3_serviceWith 26 = .ok (.goto (-24), 3) := by decide +kernel
theorem dX3_serviceWith_29 : decode cX3_serviceWith 29 = .ok (.iconst 0, 1) := by decide +kernel
theorem dX3_serviceWith_30 : decode cX3_serviceWith 30 = .ok (.ireturn, 1) := by decide +kernel
theorem dX4_init_0 : decode cX4_init 0 = .ok (.aload_n 0, 1) := by decide +kernel
theorem dX4_init_1 : decode cX4_init 1 = .ok (.invokespecial 3, 3) := by decide +kernel
theorem dX4_init_4 : decode cX4_init 4 = .ok (.aload_n 0, 1) := by decide +kernel
theorem dX4_init_5 : decode cX4_init 5 = .ok (.bipush 120, 2) := by decide +kernel
theorem dX4_init_7 : decode cX4_init 7 = .ok (.anewarray 9, 3) := by decide +kernel
theorem dX4_init_10 : decode cX4_init 10 = .ok (.putfield 11, 3) := by decide +kernel
theorem dX4_init_13 : decode cX4_init 13 = .ok (.aload_n 0, 1) := by decide +kernel
theorem dX4_init_14 : decode cX4_init 14 = .ok (.iconst 0, 1) := by decide +kernel
theorem dX4_init_15 : decode cX4_init 15 = .ok (.putfield 17, 3) := by decide +kernel
theorem dX4_init_18 : decode cX4_init 18 = .ok (.return_, 1) := by decide +kernel
theorem dX4_at_0 : decode cX4_at 0 = .ok (.iload_n 1, 1) := by decide +kernel
theorem dX4_at_1 : decode cX4_at 1 = .ok (.ifCond .lt 29, 3) := by decide +kernel
theorem dX4_at_4 : decode cX4_at 4 = .ok (.iload_n 1, 1) := by decide +kernel
theorem dX4_at_5 : decode cX4_at 5 = .ok (.aload_n 0, 1) := by decide +kernel
theorem dX4_at_6 : decode cX4_at 6 = .ok (.getfield 17, 3) := by decide +kernel
theorem dX4_at_9 : decode cX4_at 9 = .ok (.if_icmp .ge 21, 3) := by decide +kernel
theorem dX4_at_12 : decode cX4_at 12 = .ok (.iload_n 1, 1) := by decide +kernel
theorem dX4_at_13 : decode cX4_at 13 = .ok (.aload_n 0, 1) := by decide +kernel
theorem dX4_at_14 : decode cX4_at 14 = .ok (.getfield 11, 3) := by decide +kernel
theorem dX4_at_17 : decode cX4_at 17 = .ok (.arraylength, 1) := by decide +kernel
theorem dX4_at_18 : decode cX4_at 18 = .ok (.if_icmp .ge 12, 3) := by decide +kernel
theorem dX4_at_21 : decode cX4_at 21 = .ok (.aload_n 0, 1) := by decide +kernel
theorem dX4_at_22 : decode cX4_at 22 = .ok (.getfield 11, 3) := by decide +kernel
theorem dX4_at_25 : decode cX4_at 25 = .ok (.iload_n 1, 1) := by decide +kernel
theorem dX4_at_26 : decode cX4_at 26 = .ok (.aaload, 1) := by decide +kernel
theorem dX4_at_27 : decode cX4_at 27 = .ok (.goto 4, 3) := by decide +kernel
theorem dX4_at_30 : decode cX4_at 30 = .ok (.aconst_null, 1) := by decide +kernel
theorem dX4_at_31 : decode cX4_at 31 = .ok (.areturn, 1) := by decide +kernel
theorem dX4_addLast_0 : decode cX4_addLast 0 = .ok (.aload_n 0, 1) := by decide +kernel
theorem dX4_addLast_1 : decode cX4_addLast 1 = .ok (.aload_n 0, 1) := by decide +kernel
theorem dX4_addLast_2 : decode cX4_addLast 2 = .ok (.getfield 17, 3) := by decide +kernel
theorem dX4_addLast_5 : decode cX4_addLast 5 = .ok (.aload_n 1, 1) := by decide +kernel
theorem dX4_addLast_6 : decode cX4_addLast 6 = .ok (.invokevirtual 21, 3) := by decide +kernel
theorem dX4_addLast_9 : decode cX4_addLast 9 = .ok (.return_, 1) := by decide +kernel
theorem dX4_insert_0 : decode cX4_insert 0 = .ok (.iload_n 1, 1) := by decide +kernel
theorem dX4_insert_1 : decode cX4_insert 1 = .ok (.ifCond .lt 23, 3) := by decide +kernel
theorem dX4_insert_4 : decode cX4_insert 4 = .ok (.iload_n 1, 1) := by decide +kernel
theorem dX4_insert_5 : decode cX4_insert 5 = .ok (.aload_n 0, 1) := by decide +kernel
theorem dX4_insert_6 : decode cX4_insert 6 = .ok (.getfield 17, 3) := by decide +kernel
theorem dX4_insert_9 : decode cX4_insert 9 = .ok (.if_icmp .gt 15, 3) := by decide +kernel
theorem dX4_insert_12 : decode cX4_insert 12 = .ok (.aload_n 0, 1) := by decide +kernel
theorem dX4_insert_13 : decode cX4_insert 13 = .ok (.getfield 17, 3) := by decide +kernel
theorem dX4_insert_16 : decode cX4_insert 16 = .ok (.aload_n 0, 1) := by decide +kernel
theorem dX4_insert_17 : decode cX4_insert 17 = .ok (.getfield 11, 3) := by decide +kernel
theorem dX4_insert_20 : decode cX4_insert 20 = .ok (.arraylength, 1) := by decide +kernel
theorem dX4_insert_21 : decode cX4_insert 21 = .ok (.if_icmp .lt 4, 3) := by decide +kernel
theorem dX4_insert_24 : decode cX4_insert 24 = .ok (.return_, 1) := by decide +kernel
theorem dX4_insert_25 : decode cX4_insert 25 = .ok (.aload_n 0, 1) := by decide +kernel
theorem dX4_insert_26 : decode cX4_insert 26 = .ok (.getfield 17, 3) := by decide +kernel
theorem dX4_insert_29 : decode cX4_insert 29 = .ok (.istore_n 3, 1) := by decide +kernel
theorem dX4_insert_30 : decode cX4_insert 30 = .ok (.iload_n 3, 1) := by decide +kernel
theorem dX4_insert_31 : decode cX4_insert 31 = .ok (.iload_n 1, 1) := by decide +kernel
theorem dX4_insert_32 : decode cX4_insert 32 = .ok (.if_icmp .le 23, 3) := by decide +kernel
theorem dX4_insert_35 : decode cX4_insert 35 = .ok (.aload_n 0, 1) := by decide +kernel
theorem dX4_insert_36 : decode cX4_insert 36 = .ok (.getfield 11, 3) := by decide +kernel
theorem dX4_insert_39 : decode cX4_insert 39 = .ok (.iload_n 3, 1) := by decide +kernel
theorem dX4_insert_40 : decode cX4_insert 40 = .ok (.aload_n 0, 1) := by decide +kernel
theorem dX4_insert_41 : decode cX4_insert 41 = .ok (.getfield 11, 3) := by decide +kernel
theorem dX4_insert_44 : decode cX4_insert 44 = .ok (.iload_n 3, 1) := by decide +kernel
theorem dX4_insert_45 : decode cX4_insert 45 = .ok (.iconst 1, 1) := by decide +kernel
theorem dX4_insert_46 : decode cX4_insert 46 = .ok (.isub, 1) := by decide +kernel
theorem dX4_insert_47 : decode cX4_insert 47 = .ok (.aaload, 1) := by decide +kernel
theorem dX4_insert_48 : decode cX4_insert 48 = .ok (.aastore, 1) := by decide +kernel
theorem dX4_insert_49 : decode cX4_insert 49 = .ok (.iinc 3 (-1), 3) := by decide +kernel
theorem dX4_insert_52 : decode cX4_insert 52 = .ok (.goto (-22), 3) := by decide +kernel
theorem dX4_insert_55 : decode cX4_insert 55 = .ok (.aload_n 0, 1) := by decide +kernel
theorem dX4_insert_56 : decode cX4_insert 56 = .ok (.getfield 11, 3) := by decide +kernel
theorem dX4_insert_59 : decode cX4_insert 59 = .ok (.iload_n 1, 1) := by decide +kernel
theorem dX4_insert_60 : decode cX4_insert 60 = .ok (.aload_n 2, 1) := by decide +kernel
theorem dX4_insert_61 : decode cX4_insert 61 = .ok (.aastore, 1) := by decide +kernel
theorem dX4_insert_62 : decode cX4_insert 62 = .ok (.aload_n 0, 1) := by decide +kernel
theorem dX4_insert_63 : decode cX4_insert 63 = .ok (.dup, 1) := by decide +kernel
theorem dX4_insert_64 : decode cX4_insert 64 = .ok (.getfield 17, 3) := by decide +kernel
theorem dX4_insert_67 : decode cX4_insert 67 = .ok (.iconst 1, 1) := by decide +kernel
theorem dX4_insert_68 : decode cX4_insert 68 = .ok (.iadd, 1) := by decide +kernel
theorem dX4_insert_69 : decode cX4_insert 69 = .ok (.putfield 17, 3) := by decide +kernel
theorem dX4_insert_72 : decode cX4_insert 72 = .ok (.return_, 1) := by decide +kernel
theorem dX4_removeAt_0 : decode cX4_removeAt 0 = .ok (.aload_n 0, 1) := by decide +kernel
theorem dX4_removeAt_1 : decode cX4_removeAt 1 = .ok (.iload_n 1, 1) := by decide +kernel
theorem dX4_removeAt_2 : decode cX4_removeAt 2 = .ok (.invokevirtual 25, 3) := by decide +kernel
theorem dX4_removeAt_5 : decode cX4_removeAt 5 = .ok (.astore_n 2, 1) := by decide +kernel
theorem dX4_removeAt_6 : decode cX4_removeAt 6 = .ok (.aload_n 2, 1) := by decide +kernel
theorem dX4_removeAt_7 : decode cX4_removeAt 7 = .ok (.ifnonnull 5, 3) := by decide +kernel
theorem dX4_removeAt_10 : decode cX4_removeAt 10 = .ok (.aconst_null, 1) := by decide +kernel
theorem dX4_removeAt_11 : decode cX4_removeAt 11 = .ok (.areturn, 1) := by decide +kernel
theorem dX4_removeAt_12 : decode cX4_removeAt 12 = .ok (.iload_n 1, 1) := by decide +kernel
theorem dX4_removeAt_13 : decode cX4_removeAt 13 = .ok (.iconst 1, 1) := by decide +kernel
theorem dX4_removeAt_14 : decode cX4_removeAt 14 = .ok (.iadd, 1) := by decide +kernel
theorem dX4_removeAt_15 : decode cX4_removeAt 15 = .ok (.istore_n 3, 1) := by decide +kernel
theorem dX4_removeAt_16 : decode cX4_removeAt 16 = .ok (.iload_n 3, 1) := by decide +kernel
theorem dX4_removeAt_17 : decode cX4_removeAt 17 = .ok (.aload_n 0, 1) := by decide +kernel
theorem dX4_removeAt_18 : decode cX4_removeAt 18 = .ok (.getfield 17, 3) := by decide +kernel
theorem dX4_removeAt_21 : decode cX4_removeAt 21 = .ok (.if_icmp .ge 23, 3) := by decide +kernel
theorem dX4_removeAt_24 : decode cX4_removeAt 24 = .ok (.aload_n 0, 1) := by decide +kernel
theorem dX4_removeAt_25 : decode cX4_removeAt 25 = .ok (.getfield 11, 3) := by decide +kernel
theorem dX4_removeAt_28 : decode cX4_removeAt 28 = .ok (.iload_n 3, 1) := by decide +kernel
theorem dX4_removeAt_29 : decode cX4_removeAt 29 = .ok (.iconst 1, 1) := by decide +kernel
theorem dX4_removeAt_30 : decode cX4_removeAt 30 = .ok (.isub, 1) := by decide +kernel
theorem dX4_removeAt_31 : decode cX4_removeAt 31 = .ok (.aload_n 0, 1) := by decide +kernel
theorem dX4_removeAt_32 : decode cX4_removeAt 32 = .ok (.getfield 11, 3) := by decide +kernel
theorem dX4_removeAt_35 : decode cX4_removeAt 35 = .ok (.iload_n 3, 1) := by decide +kernel
theorem dX4_removeAt_36 : decode cX4_removeAt 36 = .ok (.aaload, 1) := by decide +kernel
theorem dX4_removeAt_37 : decode cX4_removeAt 37 = .ok (.aastore, 1) := by decide +kernel
theorem dX4_removeAt_38 : decode cX4_removeAt 38 = .ok (.iinc 3 1, 3) := by decide +kernel
theorem dX4_removeAt_41 : decode cX4_removeAt 41 = .ok (.goto (-25), 3) := by decide +kernel
theorem dX4_removeAt_44 : decode cX4_removeAt 44 = .ok (.aload_n 0, 1) := by decide +kernel
theorem dX4_removeAt_45 : decode cX4_removeAt 45 = .ok (.dup, 1) := by decide +kernel
theorem dX4_removeAt_46 : decode cX4_removeAt 46 = .ok (.getfield 17, 3) := by decide +kernel
theorem dX4_removeAt_49 : decode cX4_removeAt 49 = .ok (.iconst 1, 1) := by decide +kernel
theorem dX4_removeAt_50 : decode cX4_removeAt 50 = .ok (.isub, 1) := by decide +kernel
theorem dX4_removeAt_51 : decode cX4_removeAt 51 = .ok (.putfield 17, 3) := by decide +kernel
theorem dX4_removeAt_54 : decode cX4_removeAt 54 = .ok (.aload_n 0, 1) := by decide +kernel
theorem dX4_removeAt_55 : decode cX4_removeAt 55 = .ok (.getfield 11, 3) := by decide +kernel
theorem dX4_removeAt_58 : decode cX4_removeAt 58 = .ok (.aload_n 0, 1) := by decide +kernel
theorem dX4_removeAt_59 : decode cX4_removeAt 59 = .ok (.getfield 17, 3) := by decide +kernel
theorem dX4_removeAt_62 : decode cX4_removeAt 62 = .ok (.aconst_null, 1) := by decide +kernel
theorem dX4_removeAt_63 : decode cX4_removeAt 63 = .ok (.aastore, 1) := by decide +kernel
theorem dX4_removeAt_64 : decode cX4_removeAt 64 = .ok (.aload_n 2, 1) := by decide +kernel
theorem dX4_removeAt_65 : decode cX4_removeAt 65 = .ok (.areturn, 1) := by decide +kernel
theorem dX4_removeFirstReady_0 : decode cX4_removeFirstReady 0 = .ok (.iconst 0, 1) := by decide +kernel
theorem dX4_removeFirstReady_1 : decode cX4_removeFirstReady 1 = .ok (.istore_n 2, 1) := by decide +kernel
theorem dX4_removeFirstReady_2 : decode cX4_removeFirstReady 2 = .ok (.iload_n 2, 1) := by decide +kernel
theorem dX4_removeFirstReady_3 : decode cX4_removeFirstReady 3 = .ok (.aload_n 0, 1) := by decide +kernel
theorem dX4_removeFirstReady_4 : decode cX4_removeFirstReady 4 = .ok (.getfield 17, 3) := by decide +kernel
theorem dX4_removeFirstReady_7 : decode cX4_removeFirstReady 7 = .ok (.if_icmp .ge 33, 3) := by decide +kernel
theorem dX4_removeFirstReady_10 : decode cX4_removeFirstReady 10 = .ok (.aload_n 0, 1) := by decide +kernel
theorem dX4_removeFirstReady_11 : decode cX4_removeFirstReady 11 = .ok (.iload_n 2, 1) := by decide +kernel
theorem dX4_removeFirstReady_12 : decode cX4_removeFirstReady 12 = .ok (.invokevirtual 25, 3) := by decide +kernel
theorem dX4_removeFirstReady_15 : decode cX4_removeFirstReady 15 = .ok (.astore_n 3, 1) := by decide +kernel
theorem dX4_removeFirstReady_16 : decode cX4_removeFirstReady 16 = .ok (.aload_n 3, 1) := by decide +kernel
theorem dX4_removeFirstReady_17 : decode cX4_removeFirstReady 17 = .ok (.ifnull 17, 3) := by decide +kernel
theorem dX4_removeFirstReady_20 : decode cX4_removeFirstReady 20 = .ok (.aload_n 3, 1) := by decide +kernel
theorem dX4_removeFirstReady_21 : decode cX4_removeFirstReady 21 = .ok (.iload_n 1, 1) := by decide +kernel
theorem dX4_removeFirstReady_22 : decode cX4_removeFirstReady 22 = .ok (.invokevirtual 29, 3) := by decide +kernel
theorem dX4_removeFirstReady_25 : decode cX4_removeFirstReady 25 = .ok (.ifCond .eq 9, 3) := by decide +kernel
theorem dX4_removeFirstReady_28 : decode cX4_removeFirstReady 28 = .ok (.aload_n 0, 1) := by decide +kernel
theorem dX4_removeFirstReady_29 : decode cX4_removeFirstReady 29 = .ok (.iload_n 2, 1) := by decide +kernel
theorem dX4_removeFirstReady_30 : decode cX4_removeFirstReady 30 = .ok (.invokevirtual 33, 3) := by decide +kernel
theorem dX4_removeFirstReady_33 : decode cX4_removeFirstReady 33 = .ok (.areturn, 1) := by decide +kernel
theorem dX4_removeFirstReady_34 : decode cX4_removeFirstReady 34 = .ok (.iinc 2 1, 3) := by decide +kernel
theorem dX4_removeFirstReady_37 : decode cX4_removeFirstReady 37 = .ok (.goto (-35), 3) := by decide +kernel
theorem dX4_removeFirstReady_40 : decode cX4_removeFirstReady 40 = .ok (.aconst_null, 1) := by decide +kernel
theorem dX4_removeFirstReady_41 : decode cX4_removeFirstReady 41 = .ok (.areturn, 1) := by decide +kernel
theorem dX4_removeAllOf_0 : decode cX4_removeAllOf 0 = .ok (.aload_n 0, 1) := by decide +kernel
theorem dX4_removeAllOf_1 : decode cX4_removeAllOf 1 = .ok (.getfield 17, 3) := by decide +kernel
theorem dX4_removeAllOf_4 : decode cX4_removeAllOf 4 = .ok (.iconst 1, 1) := by decide +kernel
theorem dX4_removeAllOf_5 : decode cX4_removeAllOf 5 = .ok (.isub, 1) := by decide +kernel
theorem dX4_removeAllOf_6 : decode cX4_removeAllOf 6 = .ok (.istore_n 2, 1) := by decide +kernel
theorem dX4_removeAllOf_7 : decode cX4_removeAllOf 7 = .ok (.iload_n 2, 1) := by decide +kernel
theorem dX4_removeAllOf_8 : decode cX4_removeAllOf 8 = .ok (.ifCond .lt 33, 3) := by decide +kernel
theorem dX4_removeAllOf_11 : decode cX4_removeAllOf 11 = .ok (.aload_n 0, 1) := by decide +kernel
theorem dX4_removeAllOf_12 : decode cX4_removeAllOf 12 = .ok (.iload_n 2, 1) := by decide +kernel
theorem dX4_removeAllOf_13 : decode cX4_removeAllOf 13 = .ok (.invokevirtual 25, 3) := by decide +kernel
theorem dX4_removeAllOf_16 : decode cX4_removeAllOf 16 = .ok (.astore_n 3, 1) := by decide +kernel
theorem dX4_removeAllOf_17 : decode cX4_removeAllOf 17 = .ok (.aload_n 3, 1) := by decide +kernel
theorem dX4_removeAllOf_18 : decode cX4_removeAllOf 18 = .ok (.ifnull 17, 3) := by decide +kernel
theorem dX4_removeAllOf_21 : decode cX4_removeAllOf 21 = .ok (.aload_n 3, 1) := by decide +kernel
theorem dX4_removeAllOf_22 : decode cX4_removeAllOf 22 = .ok (.getfield 36, 3) := by decide +kernel
theorem dX4_removeAllOf_25 : decode cX4_removeAllOf 25 = .ok (.aload_n 1, 1) := by decide +kernel
theorem dX4_removeAllOf_26 : decode cX4_removeAllOf 26 = .ok (.if_acmp .ne 9, 3) := by decide +kernel
theorem dX4_removeAllOf_29 : decode cX4_removeAllOf 29 = .ok (.aload_n 0, 1) := by decide +kernel
theorem dX4_removeAllOf_30 : decode cX4_removeAllOf 30 = .ok (.iload_n 2, 1) := by decide +kernel
theorem dX4_removeAllOf_31 : decode cX4_removeAllOf 31 = .ok (.invokevirtual 33, 3) := by decide +kernel
theorem dX4_removeAllOf_34 : decode cX4_removeAllOf 34 = .ok (.pop, 1) := by decide +kernel
theorem dX4_removeAllOf_35 : decode cX4_removeAllOf 35 = .ok (.iinc 2 (-1), 3) := by decide +kernel
theorem dX4_removeAllOf_38 : decode cX4_removeAllOf 38 = .ok (.goto (-31), 3) := by decide +kernel
theorem dX4_removeAllOf_41 : decode cX4_removeAllOf 41 = .ok (.return_, 1) := by decide +kernel
theorem dX4_wake_0 : decode cX4_wake 0 = .ok (.iconst 0, 1) := by decide +kernel
theorem dX4_wake_1 : decode cX4_wake 1 = .ok (.istore_n 2, 1) := by decide +kernel
theorem dX4_wake_2 : decode cX4_wake 2 = .ok (.iconst 0, 1) := by decide +kernel
theorem dX4_wake_3 : decode cX4_wake 3 = .ok (.istore_n 3, 1) := by decide +kernel
theorem dX4_wake_4 : decode cX4_wake 4 = .ok (.iload_n 3, 1) := by decide +kernel
theorem dX4_wake_5 : decode cX4_wake 5 = .ok (.aload_n 0, 1) := by decide +kernel
theorem dX4_wake_6 : decode cX4_wake 6 = .ok (.getfield 17, 3) := by decide +kernel
theorem dX4_wake_9 : decode cX4_wake 9 = .ok (.if_icmp .ge 50, 3) := by decide +kernel
theorem dX4_wake_12 : decode cX4_wake 12 = .ok (.aload_n 0, 1) := by decide +kernel
theorem dX4_wake_13 : decode cX4_wake 13 = .ok (.iload_n 3, 1) := by decide +kernel
theorem dX4_wake_14 : decode cX4_wake 14 = .ok (.invokevirtual 25, 3) := by decide +kernel
theorem dX4_wake_17 : decode cX4_wake 17 = .ok (.astore 4, 2) := by decide +kernel
theorem dX4_wake_19 : decode cX4_wake 19 = .ok (.aload 4, 2) := by decide +kernel
theorem dX4_wake_21 : decode cX4_wake 21 = .ok (.ifnull 32, 3) := by decide +kernel
theorem dX4_wake_24 : decode cX4_wake 24 = .ok (.aload 4, 2) := by decide +kernel
theorem dX4_wake_26 : decode cX4_wake 26 = .ok (.getfield 40, 3) := by decide +kernel
theorem dX4_wake_29 : decode cX4_wake 29 = .ok (.ifCond .eq 24, 3) := by decide +kernel
theorem dX4_wake_32 : decode cX4_wake 32 = .ok (.aload 4, 2) := by decide +kernel
theorem dX4_wake_34 : decode cX4_wake 34 = .ok (.getfield 36, 3) := by decide +kernel
theorem dX4_wake_37 : decode cX4_wake 37 = .ok (.getfield 44, 3) := by decide +kernel
theorem dX4_wake_40 : decode cX4_wake 40 = .ok (.iload_n 1, 1) := by decide +kernel
theorem dX4_wake_41 : decode cX4_wake 41 = .ok (.if_icmp .ne 12, 3) := by decide +kernel
theorem dX4_wake_44 : decode cX4_wake 44 = .ok (.aload 4, 2) := by decide +kernel
theorem dX4_wake_46 : decode cX4_wake 46 = .ok (.iconst 0, 1) := by decide +kernel
theorem dX4_wake_47 : decode cX4_wake 47 = .ok (.putfield 40, 3) := by decide +kernel
theorem dX4_wake_50 : decode cX4_wake 50 = .ok (.iinc 2 1, 3) := by decide +kernel
theorem dX4_wake_53 : decode cX4_wake 53 = .ok (.iinc 3 1, 3) := by decide +kernel
theorem dX4_wake_56 : decode cX4_wake 56 = .ok (.goto (-52), 3) := by decide +kernel
theorem dX4_wake_59 : decode cX4_wake 59 = .ok (.iload_n 2, 1) := by decide +kernel
theorem dX4_wake_60 : decode cX4_wake 60 = .ok (.ireturn, 1) := by decide +kernel
theorem dX5_init_0 : decode cX5_init 0 = .ok (.aload_n 0, 1) := by decide +kernel
theorem dX5_init_1 : decode cX5_init 1 = .ok (.invokespecial 3, 3) := by decide +kernel
theorem dX5_init_4 : decode cX5_init 4 = .ok (.aload_n 0, 1) := by decide +kernel
theorem dX5_init_5 : decode cX5_init 5 = .ok (.sipush 400, 3) := by decide +kernel
theorem dX5_init_8 : decode cX5_init 8 = .ok (.newarray .int, 2) := by decide +kernel
theorem dX5_init_10 : decode cX5_init 10 = .ok (.putfield 9, 3) := by decide +kernel
theorem dX5_init_13 : decode cX5_init 13 = .ok (.aload_n 0, 1) := by decide +kernel
theorem dX5_init_14 : decode cX5_init 14 = .ok (.iconst 0, 1) := by decide +kernel
theorem dX5_init_15 : decode cX5_init 15 = .ok (.putfield 15, 3) := by decide +kernel
theorem dX5_init_18 : decode cX5_init 18 = .ok (.aload_n 0, 1) := by decide +kernel
theorem dX5_init_19 : decode cX5_init 19 = .ok (.iconst 0, 1) := by decide +kernel
theorem dX5_init_20 : decode cX5_init 20 = .ok (.putfield 19, 3) := by decide +kernel
theorem dX5_init_23 : decode cX5_init 23 = .ok (.aload_n 0, 1) := by decide +kernel
theorem dX5_init_24 : decode cX5_init 24 = .ok (.iconst 0, 1) := by decide +kernel
theorem dX5_init_25 : decode cX5_init 25 = .ok (.putfield 22, 3) := by decide +kernel
theorem dX5_init_28 : decode cX5_init 28 = .ok (.aload_n 0, 1) := by decide +kernel
theorem dX5_init_29 : decode cX5_init 29 = .ok (.bipush 7, 2) := by decide +kernel
theorem dX5_init_31 : decode cX5_init 31 = .ok (.newarray .int, 2) := by decide +kernel
theorem dX5_init_33 : decode cX5_init 33 = .ok (.putfield 26, 3) := by decide +kernel
theorem dX5_init_36 : decode cX5_init 36 = .ok (.aload_n 0, 1) := by decide +kernel
theorem dX5_init_37 : decode cX5_init 37 = .ok (.iconst 0, 1) := by decide +kernel
theorem dX5_init_38 : decode cX5_init 38 = .ok (.putfield 29, 3) := by decide +kernel
theorem dX5_init_41 : decode cX5_init 41 = .ok (.return_, 1) := by decide +kernel
theorem dX5_append_0 : decode cX5_append 0 = .ok (.iconst 0, 1) := by decide +kernel
theorem dX5_append_1 : decode cX5_append 1 = .ok (.istore_n 3, 1) := by decide +kernel
theorem dX5_append_2 : decode cX5_append 2 = .ok (.iload_n 3, 1) := by decide +kernel
theorem dX5_append_3 : decode cX5_append 3 = .ok (.iload_n 2, 1) := by decide +kernel
theorem dX5_append_4 : decode cX5_append 4 = .ok (.if_icmp .ge 54, 3) := by decide +kernel
theorem dX5_append_7 : decode cX5_append 7 = .ok (.aload_n 0, 1) := by decide +kernel
theorem dX5_append_8 : decode cX5_append 8 = .ok (.getfield 15, 3) := by decide +kernel
theorem dX5_append_11 : decode cX5_append 11 = .ok (.aload_n 0, 1) := by decide +kernel
theorem dX5_append_12 : decode cX5_append 12 = .ok (.getfield 9, 3) := by decide +kernel
theorem dX5_append_15 : decode cX5_append 15 = .ok (.arraylength, 1) := by decide +kernel
theorem dX5_append_16 : decode cX5_append 16 = .ok (.if_icmp .ge 42, 3) := by decide +kernel
theorem dX5_append_19 : decode cX5_append 19 = .ok (.aload_n 0, 1) := by decide +kernel
theorem dX5_append_20 : decode cX5_append 20 = .ok (.getfield 9, 3) := by decide +kernel
theorem dX5_append_23 : decode cX5_append 23 = .ok (.aload_n 0, 1) := by decide +kernel
theorem dX5_append_24 : decode cX5_append 24 = .ok (.getfield 15, 3) := by decide +kernel
theorem dX5_append_27 : decode cX5_append 27 = .ok (.iload_n 1, 1) := by decide +kernel
theorem dX5_append_28 : decode cX5_append 28 = .ok (.iastore, 1) := by decide +kernel
theorem dX5_append_29 : decode cX5_append 29 = .ok (.aload_n 0, 1) := by decide +kernel
theorem dX5_append_30 : decode cX5_append 30 = .ok (.dup, 1) := by decide +kernel
theorem dX5_append_31 : decode cX5_append 31 = .ok (.getfield 15, 3) := by decide +kernel
theorem dX5_append_34 : decode cX5_append 34 = .ok (.iconst 1, 1) := by decide +kernel
theorem dX5_append_35 : decode cX5_append 35 = .ok (.iadd, 1) := by decide +kernel
theorem dX5_append_36 : decode cX5_append 36 = .ok (.putfield 15, 3) := by decide +kernel
theorem dX5_append_39 : decode cX5_append 39 = .ok (.aload_n 0, 1) := by decide +kernel
theorem dX5_append_40 : decode cX5_append 40 = .ok (.dup, 1) := by decide +kernel
theorem dX5_append_41 : decode cX5_append 41 = .ok (.getfield 19, 3) := by decide +kernel
theorem dX5_append_44 : decode cX5_append 44 = .ok (.iload_n 1, 1) := by decide +kernel
theorem dX5_append_45 : decode cX5_append 45 = .ok (.invokestatic 32, 3) := by decide +kernel
theorem dX5_append_48 : decode cX5_append 48 = .ok (.iadd, 1) := by decide +kernel
theorem dX5_append_49 : decode cX5_append 49 = .ok (.putfield 19, 3) := by decide +kernel
theorem dX5_append_52 : decode cX5_append 52 = .ok (.iinc 3 1, 3) := by decide +kernel
theorem dX5_append_55 : decode cX5_append 55 = .ok (.goto (-53), 3) := by decide +kernel
theorem dX5_append_58 : decode cX5_append 58 = .ok (.aload_n 0, 1) := by decide +kernel
theorem dX5_append_59 : decode cX5_append 59 = .ok (.aload_n 0, 1) := by decide +kernel
theorem dX5_append_60 : decode cX5_append 60 = .ok (.getfield 22, 3) := by decide +kernel
theorem dX5_append_63 : decode cX5_append 63 = .ok (.ifCond .ne 10, 3) := by decide +kernel
theorem dX5_append_66 : decode cX5_append 66 = .ok (.iload_n 1, 1) := by decide +kernel
theorem dX5_append_67 : decode cX5_append 67 = .ok (.sipush 160, 3) := by decide +kernel
theorem dX5_append_70 : decode cX5_append 70 = .ok (.if_icmp .lt 7, 3) := by decide +kernel
theorem dX5_append_73 : decode cX5_append 73 = .ok (.iconst 1, 1) := by decide +kernel
theorem dX5_append_74 : decode cX5_append 74 = .ok (.goto 4, 3) := by decide +kernel
theorem dX5_append_77 : decode cX5_append 77 = .ok (.iconst 0, 1) := by decide +kernel
theorem dX5_append_78 : decode cX5_append 78 = .ok (.putfield 22, 3) := by decide +kernel
theorem dX5_append_81 : decode cX5_append 81 = .ok (.aload_n 0, 1) := by decide +kernel
theorem dX5_append_82 : decode cX5_append 82 = .ok (.invokevirtual 36, 3) := by decide +kernel
theorem dX5_append_85 : decode cX5_append 85 = .ok (.return_, 1) := by decide +kernel
theorem dX5_clear_0 : decode cX5_clear 0 = .ok (.aload_n 0, 1) := by decide +kernel
theorem dX5_clear_1 : decode cX5_clear 1 = .ok (.iconst 0, 1) := by decide +kernel
theorem dX5_clear_2 : decode cX5_clear 2 = .ok (.putfield 15, 3) := by decide +kernel
theorem dX5_clear_5 : decode cX5_clear 5 = .ok (.aload_n 0, 1) := by decide +kernel
theorem dX5_clear_6 : decode cX5_clear 6 = .ok (.iconst 0, 1) := by decide +kernel
theorem dX5_clear_7 : decode cX5_clear 7 = .ok (.putfield 19, 3) := by decide +kernel
theorem dX5_clear_10 : decode cX5_clear 10 = .ok (.aload_n 0, 1) := by decide +kernel
theorem dX5_clear_11 : decode cX5_clear 11 = .ok (.iconst 0, 1) := by decide +kernel
theorem dX5_clear_12 : decode cX5_clear 12 = .ok (.putfield 22, 3) := by decide +kernel
theorem dX5_clear_15 : decode cX5_clear 15 = .ok (.aload_n 0, 1) := by decide +kernel
theorem dX5_clear_16 : decode cX5_clear 16 = .ok (.iconst 0, 1) := by decide +kernel
theorem dX5_clear_17 : decode cX5_clear 17 = .ok (.putfield 29, 3) := by decide +kernel
theorem dX5_clear_20 : decode cX5_clear 20 = .ok (.return_, 1) := by decide +kernel
theorem dX5_startOf_0 : decode cX5_startOf 0 = .ok (.iload_n 1, 1) := by decide +kernel
theorem dX5_startOf_1 : decode cX5_startOf 1 = .ok (.ifCond .lt 29, 3) := by decide +kernel
theorem dX5_startOf_4 : decode cX5_startOf 4 = .ok (.iload_n 1, 1) := by decide +kernel
theorem dX5_startOf_5 : decode cX5_startOf 5 = .ok (.aload_n 0, 1) := by decide +kernel
theorem dX5_startOf_6 : decode cX5_startOf 6 = .ok (.getfield 29, 3) := by decide +kernel
theorem dX5_startOf_9 : decode cX5_startOf 9 = .ok (.if_icmp .gt 21, 3) := by decide +kernel
theorem dX5_startOf_12 : decode cX5_startOf 12 = .ok (.iload_n 1, 1) := by decide +kernel
theorem dX5_startOf_13 : decode cX5_startOf 13 = .ok (.aload_n 0, 1) := by decide +kernel
theorem dX5_startOf_14 : decode cX5_startOf 14 = .ok (.getfield 26, 3) := by decide +kernel
theorem dX5_startOf_17 : decode cX5_startOf 17 = .ok (.arraylength, 1) := by decide +kernel
theorem dX5_startOf_18 : decode cX5_startOf 18 = .ok (.if_icmp .ge 12, 3) := by decide +kernel
theorem dX5_startOf_21 : decode cX5_startOf 21 = .ok (.aload_n 0, 1) := by decide +kernel
theorem dX5_startOf_22 : decode cX5_startOf 22 = .ok (.getfield 26, 3) := by decide +kernel
theorem dX5_startOf_25 : decode cX5_startOf 25 = .ok (.iload_n 1, 1) := by decide +kernel
theorem dX5_startOf_26 : decode cX5_startOf 26 = .ok (.iaload, 1) := by decide +kernel
theorem dX5_startOf_27 : decode cX5_startOf 27 = .ok (.goto 7, 3) := by decide +kernel
theorem dX5_startOf_30 : decode cX5_startOf 30 = .ok (.aload_n 0, 1) := by decide +kernel
theorem dX5_startOf_31 : decode cX5_startOf 31 = .ok (.getfield 15, 3) := by decide +kernel
theorem dX5_startOf_34 : decode cX5_startOf 34 = .ok (.ireturn, 1) := by decide +kernel
theorem dX5_octetsOf_0 : decode cX5_octetsOf 0 = .ok (.aload_n 0, 1) := by decide +kernel
theorem dX5_octetsOf_1 : decode cX5_octetsOf 1 = .ok (.getfield 22, 3) := by decide +kernel
theorem dX5_octetsOf_4 : decode cX5_octetsOf 4 = .ok (.ifCond .eq 19, 3) := by decide +kernel
theorem dX5_octetsOf_7 : decode cX5_octetsOf 7 = .ok (.iconst 2, 1) := by decide +kernel
theorem dX5_octetsOf_8 : decode cX5_octetsOf 8 = .ok (.aload_n 0, 1) := by decide +kernel
theorem dX5_octetsOf_9 : decode cX5_octetsOf 9 = .ok (.iload_n 1, 1) := by decide +kernel
theorem dX5_octetsOf_10 : decode cX5_octetsOf 10 = .ok (.iconst 1, 1) := by decide +kernel
theorem dX5_octetsOf_11 : decode cX5_octetsOf 11 = .ok (.iadd, 1) := by decide +kernel
theorem dX5_octetsOf_12 : decode cX5_octetsOf 12 = .ok (.invokevirtual 39, 3) := by decide +kernel
theorem dX5_octetsOf_15 : decode cX5_octetsOf 15 = .ok (.aload_n 0, 1) := by decide +kernel
theorem dX5_octetsOf_16 : decode cX5_octetsOf 16 = .ok (.iload_n 1, 1) := by decide +kernel
theorem dX5_octetsOf_17 : decode cX5_octetsOf 17 = .ok (.invokevirtual 39, 3) := by decide +kernel
theorem dX5_octetsOf_20 : decode cX5_octetsOf 20 = .ok (.isub, 1) := by decide +kernel
theorem dX5_octetsOf_21 : decode cX5_octetsOf 21 = .ok (.imul, 1) := by decide +kernel
theorem dX5_octetsOf_22 : decode cX5_octetsOf 22 = .ok (.ireturn, 1) := by decide +kernel
theorem dX5_octetsOf_23 : decode cX5_octetsOf 23 = .ok (.bipush 7, 2) := by decide +kernel
theorem dX5_octetsOf_25 : decode cX5_octetsOf 25 = .ok (.aload_n 0, 1) := by decide +kernel
theorem dX5_octetsOf_26 : decode cX5_octetsOf 26 = .ok (.iload_n 1, 1) := by decide +kernel
theorem dX5_octetsOf_27 : decode cX5_octetsOf 27 = .ok (.invokevirtual 42, 3) := by decide +kernel
theorem dX5_octetsOf_30 : decode cX5_octetsOf 30 = .ok (.imul, 1) := by decide +kernel
theorem dX5_octetsOf_31 : decode cX5_octetsOf 31 = .ok (.bipush 7, 2) := by decide +kernel
theorem dX5_octetsOf_33 : decode cX5_octetsOf 33 = .ok (.iadd, 1) := by decide +kernel
theorem dX5_octetsOf_34 : decode cX5_octetsOf 34 = .ok (.bipush 8, 2) := by decide +kernel
theorem dX5_octetsOf_36 : decode cX5_octetsOf 36 = .ok (.idiv, 1) := by decide +kernel
theorem dX5_octetsOf_37 : decode cX5_octetsOf 37 = .ok (.ireturn, 1) := by decide +kernel
theorem dX5_octetAt_0 : decode cX5_octetAt 0 = .ok (.aload_n 0, 1) := by decide +kernel
theorem dX5_octetAt_1 : decode cX5_octetAt 1 = .ok (.getfield 22, 3) := by decide +kernel
theorem dX5_octetAt_4 : decode cX5_octetAt 4 = .ok (.ifCond .eq 37, 3) := by decide +kernel
theorem dX5_octetAt_7 : decode cX5_octetAt 7 = .ok (.aload_n 0, 1) := by decide +kernel
theorem dX5_octetAt_8 : decode cX5_octetAt 8 = .ok (.aload_n 0, 1) := by decide +kernel
theorem dX5_octetAt_9 : decode cX5_octetAt 9 = .ok (.iload_n 1, 1) := by decide +kernel
theorem dX5_octetAt_10 : decode cX5_octetAt 10 = .ok (.invokevirtual 39, 3) := by decide +kernel
theorem dX5_octetAt_13 : decode cX5_octetAt 13 = .ok (.iload_n 2, 1) := by decide +kernel
theorem dX5_octetAt_14 : decode cX5_octetAt 14 = .ok (.iconst 2, 1) := by decide +kernel
theorem dX5_octetAt_15 : decode cX5_octetAt 15 = .ok (.idiv, 1) := by decide +kernel
theorem dX5_octetAt_16 : decode cX5_octetAt 16 = .ok (.iadd, 1) := by decide +kernel
theorem dX5_octetAt_17 : decode cX5_octetAt 17 = .ok (.invokevirtual 45, 3) := by decide +kernel
theorem dX5_octetAt_20 : decode cX5_octetAt 20 = .ok (.istore_n 3, 1) := by decide +kernel
theorem dX5_octetAt_21 : decode cX5_octetAt 21 = .ok (.iload_n 2, 1) := by decide +kernel
theorem dX5_octetAt_22 : decode cX5_octetAt 22 = .ok (.iconst 2, 1) := by decide +kernel
theorem dX5_octetAt_23 : decode cX5_octetAt 23 = .ok (.irem, 1) := by decide +kernel
theorem dX5_octetAt_24 : decode cX5_octetAt 24 = .ok (.ifCond .ne 11, 3) := by decide +kernel
theorem dX5_octetAt_27 : decode cX5_octetAt 27 = .ok (.iload_n 3, 1) := by decide +kernel
theorem dX5_octetAt_28 : decode cX5_octetAt 28 = .ok (.sipush 256, 3) := by decide +kernel
theorem dX5_octetAt_31 : decode cX5_octetAt 31 = .ok (.idiv, 1) := by decide +kernel
theorem dX5_octetAt_32 : decode cX5_octetAt 32 = .ok (.goto 8, 3) := by decide +kernel
theorem dX5_octetAt_35 : decode cX5_octetAt 35 = .ok (.iload_n 3, 1) := by decide +kernel
theorem dX5_octetAt_36 : decode cX5_octetAt 36 = .ok (.sipush 256, 3) := by decide +kernel
theorem dX5_octetAt_39 : decode cX5_octetAt 39 = .ok (.irem, 1) := by decide +kernel
theorem dX5_octetAt_40 : decode cX5_octetAt 40 = .ok (.ireturn, 1) := by decide +kernel
theorem dX5_octetAt_41 : decode cX5_octetAt 41 = .ok (.bipush 8, 2) := by decide +kernel
theorem dX5_octetAt_43 : decode cX5_octetAt 43 = .ok (.iload_n 2, 1) := by decide +kernel
theorem dX5_octetAt_44 : decode cX5_octetAt 44 = .ok (.imul, 1) := by decide +kernel
theorem dX5_octetAt_45 : decode cX5_octetAt 45 = .ok (.istore_n 3, 1) := by decide +kernel
theorem dX5_octetAt_46 : decode cX5_octetAt 46 = .ok (.aload_n 0, 1) := by decide +kernel
theorem dX5_octetAt_47 : decode cX5_octetAt 47 = .ok (.iload_n 1, 1) := by decide +kernel
theorem dX5_octetAt_48 : decode cX5_octetAt 48 = .ok (.iload_n 3, 1) := by decide +kernel
theorem dX5_octetAt_49 : decode cX5_octetAt 49 = .ok (.bipush 7, 2) := by decide +kernel
theorem dX5_octetAt_51 : decode cX5_octetAt 51 = .ok (.idiv, 1) := by decide +kernel
theorem dX5_octetAt_52 : decode cX5_octetAt 52 = .ok (.invokevirtual 48, 3) := by decide +kernel
theorem dX5_octetAt_55 : decode cX5_octetAt 55 = .ok (.istore 4, 2) := by decide +kernel
theorem dX5_octetAt_57 : decode cX5_octetAt 57 = .ok (.aload_n 0, 1) := by decide +kernel
theorem dX5_octetAt_58 : decode cX5_octetAt 58 = .ok (.iload_n 1, 1) := by decide +kernel
theorem dX5_octetAt_59 : decode cX5_octetAt 59 = .ok (.iload_n 3, 1) := by decide +kernel
theorem dX5_octetAt_60 : decode cX5_octetAt 60 = .ok (.bipush 7, 2) := by decide +kernel
theorem dX5_octetAt_62 : decode cX5_octetAt 62 = .ok (.idiv, 1) := by decide +kernel
theorem dX5_octetAt_63 : decode cX5_octetAt 63 = .ok (.iconst 1, 1) := by decide +kernel
theorem dX5_octetAt_64 : decode cX5_octetAt 64 = .ok (.iadd, 1) := by decide +kernel
theorem dX5_octetAt_65 : decode cX5_octetAt 65 = .ok (.invokevirtual 48, 3) := by decide +kernel
theorem dX5_octetAt_68 : decode cX5_octetAt 68 = .ok (.istore 5, 2) := by decide +kernel
theorem dX5_octetAt_70 : decode cX5_octetAt 70 = .ok (.iload 4, 2) := by decide +kernel
theorem dX5_octetAt_72 : decode cX5_octetAt 72 = .ok (.iload 5, 2) := by decide +kernel
theorem dX5_octetAt_74 : decode cX5_octetAt 74 = .ok (.bipush 7, 2) := by decide +kernel
theorem dX5_octetAt_76 : decode cX5_octetAt 76 = .ok (.ishl, 1) := by decide +kernel
theorem dX5_octetAt_77 : decode cX5_octetAt 77 = .ok (.ior, 1) := by decide +kernel
theorem dX5_octetAt_78 : decode cX5_octetAt 78 = .ok (.iload_n 3, 1) := by decide +kernel
theorem dX5_octetAt_79 : decode cX5_octetAt 79 = .ok (.bipush 7, 2) := by decide +kernel
theorem dX5_octetAt_81 : decode cX5_octetAt 81 = .ok (.irem, 1) := by decide +kernel
theorem dX5_octetAt_82 : decode cX5_octetAt 82 = .ok (.ishr, 1) := by decide +kernel
theorem dX5_octetAt_83 : decode cX5_octetAt 83 = .ok (.sipush 255, 3) := by decide +kernel
theorem dX5_octetAt_86 : decode cX5_octetAt 86 = .ok (.iand, 1) := by decide +kernel
theorem dX5_octetAt_87 : decode cX5_octetAt 87 = .ok (.ireturn, 1) := by decide +kernel
theorem dX5_copyOfSigns_0 : decode cX5_copyOfSigns 0 = .ok (.aload_n 0, 1) := by decide +kernel
theorem dX5_copyOfSigns_1 : decode cX5_copyOfSigns 1 = .ok (.getfield 9, 3) := by decide +kernel
theorem dX5_copyOfSigns_4 : decode cX5_copyOfSigns 4 = .ok (.aload_n 0, 1) := by decide +kernel
theorem dX5_copyOfSigns_5 : decode cX5_copyOfSigns 5 = .ok (.getfield 15, 3) := by decide +kernel
theorem dX5_copyOfSigns_8 : decode cX5_copyOfSigns 8 = .ok (.invokestatic 52, 3) := by decide +kernel
theorem dX5_copyOfSigns_11 : decode cX5_copyOfSigns 11 = .ok (.areturn, 1) := by decide +kernel
theorem dX5_copyOfStarts_0 : decode cX5_copyOfStarts 0 = .ok (.aload_n 0, 1) := by decide +kernel
theorem dX5_copyOfStarts_1 : decode cX5_copyOfStarts 1 = .ok (.getfield 26, 3) := by decide +kernel
theorem dX5_copyOfStarts_4 : decode cX5_copyOfStarts 4 = .ok (.aload_n 0, 1) := by decide +kernel
theorem dX5_copyOfStarts_5 : decode cX5_copyOfStarts 5 = .ok (.getfield 29, 3) := by decide +kernel
theorem dX5_copyOfStarts_8 : decode cX5_copyOfStarts 8 = .ok (.iconst 1, 1) := by decide +kernel
theorem dX5_copyOfStarts_9 : decode cX5_copyOfStarts 9 = .ok (.iadd, 1) := by decide +kernel
theorem dX5_copyOfStarts_10 : decode cX5_copyOfStarts 10 = .ok (.invokestatic 52, 3) := by decide +kernel
theorem dX5_copyOfStarts_13 : decode cX5_copyOfStarts 13 = .ok (.areturn, 1) := by decide +kernel
theorem dX5_signAt_0 : decode cX5_signAt 0 = .ok (.iload_n 1, 1) := by decide +kernel
theorem dX5_signAt_1 : decode cX5_signAt 1 = .ok (.ifCond .lt 29, 3) := by decide +kernel
theorem dX5_signAt_4 : decode cX5_signAt 4 = .ok (.iload_n 1, 1) := by decide +kernel
theorem dX5_signAt_5 : decode cX5_signAt 5 = .ok (.aload_n 0, 1) := by decide +kernel
theorem dX5_signAt_6 : decode cX5_signAt 6 = .ok (.getfield 15, 3) := by decide +kernel
theorem dX5_signAt_9 : decode cX5_signAt 9 = .ok (.if_icmp .ge 21, 3) := by decide +kernel
theorem dX5_signAt_12 : decode cX5_signAt 12 = .ok (.iload_n 1, 1) := by decide +kernel
theorem dX5_signAt_13 : decode cX5_signAt 13 = .ok (.aload_n 0, 1) := by decide +kernel
theorem dX5_signAt_14 : decode cX5_signAt 14 = .ok (.getfield 9, 3) := by decide +kernel
theorem dX5_signAt_17 : decode cX5_signAt 17 = .ok (.arraylength, 1) := by decide +kernel
theorem dX5_signAt_18 : decode cX5_signAt 18 = .ok (.if_icmp .ge 12, 3) := by decide +kernel
theorem dX5_signAt_21 : decode cX5_signAt 21 = .ok (.aload_n 0, 1) := by decide +kernel
theorem dX5_signAt_22 : decode cX5_signAt 22 = .ok (.getfield 9, 3) := by decide +kernel
theorem dX5_signAt_25 : decode cX5_signAt 25 = .ok (.iload_n 1, 1) := by decide +kernel
theorem dX5_signAt_26 : decode cX5_signAt 26 = .ok (.iaload, 1) := by decide +kernel
theorem dX5_signAt_27 : decode cX5_signAt 27 = .ok (.goto 4, 3) := by decide +kernel
theorem dX5_signAt_30 : decode cX5_signAt 30 = .ok (.iconst 0, 1) := by decide +kernel
theorem dX5_signAt_31 : decode cX5_signAt 31 = .ok (.ireturn, 1) := by decide +kernel
theorem dX5_cut_0 : decode cX5_cut 0 = .ok (.aload_n 0, 1) := by decide +kernel
theorem dX5_cut_1 : decode cX5_cut 1 = .ok (.invokevirtual 58, 3) := by decide +kernel
theorem dX5_cut_4 : decode cX5_cut 4 = .ok (.istore_n 1, 1) := by decide +kernel
theorem dX5_cut_5 : decode cX5_cut 5 = .ok (.iconst 0, 1) := by decide +kernel
theorem dX5_cut_6 : decode cX5_cut 6 = .ok (.istore_n 2, 1) := by decide +kernel
theorem dX5_cut_7 : decode cX5_cut 7 = .ok (.aload_n 0, 1) := by decide +kernel
theorem dX5_cut_8 : decode cX5_cut 8 = .ok (.iconst 1, 1) := by decide +kernel
theorem dX5_cut_9 : decode cX5_cut 9 = .ok (.putfield 29, 3) := by decide +kernel
theorem dX5_cut_12 : decode cX5_cut 12 = .ok (.aload_n 0, 1) := by decide +kernel
theorem dX5_cut_13 : decode cX5_cut 13 = .ok (.getfield 26, 3) := by decide +kernel
theorem dX5_cut_16 : decode cX5_cut 16 = .ok (.iconst 0, 1) := by decide +kernel
theorem dX5_cut_17 : decode cX5_cut 17 = .ok (.iconst 0, 1) := by decide +kernel
theorem dX5_cut_18 : decode cX5_cut 18 = .ok (.iastore, 1) := by decide +kernel
theorem dX5_cut_19 : decode cX5_cut 19 = .ok (.iconst 0, 1) := by decide +kernel
theorem dX5_cut_20 : decode cX5_cut 20 = .ok (.istore_n 3, 1) := by decide +kernel
theorem dX5_cut_21 : decode cX5_cut 21 = .ok (.iload_n 3, 1) := by decide +kernel
theorem dX5_cut_22 : decode cX5_cut 22 = .ok (.aload_n 0, 1) := by decide +kernel
theorem dX5_cut_23 : decode cX5_cut 23 = .ok (.getfield 15, 3) := by decide +kernel
theorem dX5_cut_26 : decode cX5_cut 26 = .ok (.if_icmp .ge 74, 3) := by decide +kernel
theorem dX5_cut_29 : decode cX5_cut 29 = .ok (.aload_n 0, 1) := by decide +kernel
theorem dX5_cut_30 : decode cX5_cut 30 = .ok (.getfield 22, 3) := by decide +kernel
theorem dX5_cut_33 : decode cX5_cut 33 = .ok (.ifCond .eq 7, 3) := by decide +kernel
theorem dX5_cut_36 : decode cX5_cut 36 = .ok (.iconst 1, 1) := by decide +kernel
theorem dX5_cut_37 : decode cX5_cut 37 = .ok (.goto 11, 3) := by decide +kernel
theorem dX5_cut_40 : decode cX5_cut 40 = .ok (.aload_n 0, 1) := by decide +kernel
theorem dX5_cut_41 : decode cX5_cut 41 = .ok (.iload_n 3, 1) := by decide +kernel
theorem dX5_cut_42 : decode cX5_cut 42 = .ok (.invokevirtual 45, 3) := by decide +kernel
theorem dX5_cut_45 : decode cX5_cut 45 = .ok (.invokestatic 32, 3) := by decide +kernel
theorem dX5_cut_48 : decode cX5_cut 48 = .ok (.istore 4, 2) := by decide +kernel
theorem dX5_cut_50 : decode cX5_cut 50 = .ok (.iload_n 2, 1) := by decide +kernel
theorem dX5_cut_51 : decode cX5_cut 51 = .ok (.iload 4, 2) := by decide +kernel
theorem dX5_cut_53 : decode cX5_cut 53 = .ok (.iadd, 1) := by decide +kernel
theorem dX5_cut_54 : decode cX5_cut 54 = .ok (.iload_n 1, 1) := by decide +kernel
theorem dX5_cut_55 : decode cX5_cut 55 = .ok (.if_icmp .le 34, 3) := by decide +kernel
theorem dX5_cut_58 : decode cX5_cut 58 = .ok (.aload_n 0, 1) := by decide +kernel
theorem dX5_cut_59 : decode cX5_cut 59 = .ok (.getfield 29, 3) := by decide +kernel
theorem dX5_cut_62 : decode cX5_cut 62 = .ok (.bipush 6, 2) := by decide +kernel
theorem dX5_cut_64 : decode cX5_cut 64 = .ok (.if_icmp .ge 25, 3) := by decide +kernel
theorem dX5_cut_67 : decode cX5_cut 67 = .ok (.aload_n 0, 1) := by decide +kernel
theorem dX5_cut_68 : decode cX5_cut 68 = .ok (.getfield 26, 3) := by decide +kernel
theorem dX5_cut_71 : decode cX5_cut 71 = .ok (.aload_n 0, 1) := by decide +kernel
theorem dX5_cut_72 : decode cX5_cut 72 = .ok (.getfield 29, 3) := by decide +kernel
theorem dX5_cut_75 : decode cX5_cut 75 = .ok (.iload_n 3, 1) := by decide +kernel
theorem dX5_cut_76 : decode cX5_cut 76 = .ok (.iastore, 1) := by decide +kernel
theorem dX5_cut_77 : decode cX5_cut 77 = .ok (.aload_n 0, 1) := by decide +kernel
theorem dX5_cut_78 : decode cX5_cut 78 = .ok (.dup, 1) := by decide +kernel
theorem dX5_cut_79 : decode cX5_cut 79 = .ok (.getfield 29, 3) := by decide +kernel
theorem dX5_cut_82 : decode cX5_cut 82 = .ok (.iconst 1, 1) := by decide +kernel
theorem dX5_cut_83 : decode cX5_cut 83 = .ok (.iadd, 1) := by decide +kernel
theorem dX5_cut_84 : decode cX5_cut 84 = .ok (.putfield 29, 3) := by decide +kernel
theorem dX5_cut_87 : decode cX5_cut 87 = .ok (.iconst 0, 1) := by decide +kernel
theorem dX5_cut_88 : decode cX5_cut 88 = .ok (.istore_n 2, 1) := by decide +kernel
theorem dX5_cut_89 : decode cX5_cut 89 = .ok (.iload_n 2, 1) := by decide +kernel
theorem dX5_cut_90 : decode cX5_cut 90 = .ok (.iload 4, 2) := by decide +kernel
theorem dX5_cut_92 : decode cX5_cut 92 = .ok (.iadd, 1) := by decide +kernel
theorem dX5_cut_93 : decode cX5_cut 93 = .ok (.istore_n 2, 1) := by decide +kernel
theorem dX5_cut_94 : decode cX5_cut 94 = .ok (.iinc 3 1, 3) := by decide +kernel
theorem dX5_cut_97 : decode cX5_cut 97 = .ok (.goto (-76), 3) := by decide +kernel
theorem dX5_cut_100 : decode cX5_cut 100 = .ok (.aload_n 0, 1) := by decide +kernel
theorem dX5_cut_101 : decode cX5_cut 101 = .ok (.getfield 26, 3) := by decide +kernel
theorem dX5_cut_104 : decode cX5_cut 104 = .ok (.aload_n 0, 1) := by decide +kernel
theorem dX5_cut_105 : decode cX5_cut 105 = .ok (.getfield 29, 3) := by decide +kernel
theorem dX5_cut_108 : decode cX5_cut 108 = .ok (.aload_n 0, 1) := by decide +kernel
theorem dX5_cut_109 : decode cX5_cut 109 = .ok (.getfield 15, 3) := by decide +kernel
theorem dX5_cut_112 : decode cX5_cut 112 = .ok (.iastore, 1) := by decide +kernel
theorem dX5_cut_113 : decode cX5_cut 113 = .ok (.return_, 1) := by decide +kernel
theorem dX5_roomOfAPart_0 : decode cX5_roomOfAPart 0 = .ok (.aload_n 0, 1) := by decide +kernel
theorem dX5_roomOfAPart_1 : decode cX5_roomOfAPart 1 = .ok (.getfield 22, 3) := by decide +kernel
theorem dX5_roomOfAPart_4 : decode cX5_roomOfAPart 4 = .ok (.ifCond .eq 20, 3) := by decide +kernel
theorem dX5_roomOfAPart_7 : decode cX5_roomOfAPart 7 = .ok (.aload_n 0, 1) := by decide +kernel
theorem dX5_roomOfAPart_8 : decode cX5_roomOfAPart 8 = .ok (.getfield 15, 3) := by decide +kernel
theorem dX5_roomOfAPart_11 : decode cX5_roomOfAPart 11 = .ok (.bipush 70, 2) := by decide +kernel
theorem dX5_roomOfAPart_13 : decode cX5_roomOfAPart 13 = .ok (.if_icmp .gt 8, 3) := by decide +kernel
theorem dX5_roomOfAPart_16 : decode cX5_roomOfAPart 16 = .ok (.bipush 70, 2) := by decide +kernel
theorem dX5_roomOfAPart_18 : decode cX5_roomOfAPart 18 = .ok (.goto 5, 3) := by decide +kernel
theorem dX5_roomOfAPart_21 : decode cX5_roomOfAPart 21 = .ok (.bipush 67, 2) := by decide +kernel
theorem dX5_roomOfAPart_23 : decode cX5_roomOfAPart 23 = .ok (.ireturn, 1) := by decide +kernel
theorem dX5_roomOfAPart_24 : decode cX5_roomOfAPart 24 = .ok (.aload_n 0, 1) := by decide +kernel
theorem dX5_roomOfAPart_25 : decode cX5_roomOfAPart 25 = .ok (.getfield 19, 3) := by decide +kernel
theorem dX5_roomOfAPart_28 : decode cX5_roomOfAPart 28 = .ok (.sipush 160, 3) := by decide +kernel
theorem dX5_roomOfAPart_31 : decode cX5_roomOfAPart 31 = .ok (.if_icmp .gt 9, 3) := by decide +kernel
theorem dX5_roomOfAPart_34 : decode cX5_roomOfAPart 34 = .ok (.sipush 160, 3) := by decide +kernel
theorem dX5_roomOfAPart_37 : decode cX5_roomOfAPart 37 = .ok (.goto 6, 3) := by decide +kernel
theorem dX5_roomOfAPart_40 : decode cX5_roomOfAPart 40 = .ok (.sipush 153, 3) := by decide +kernel
theorem dX5_roomOfAPart_43 : decode cX5_roomOfAPart 43 = .ok (.ireturn, 1) := by decide +kernel
theorem dX5_septetsIn_0 : decode cX5_septetsIn 0 = .ok (.iconst 0, 1) := by decide +kernel
theorem dX5_septetsIn_1 : decode cX5_septetsIn 1 = .ok (.istore_n 2, 1) := by decide +kernel
theorem dX5_septetsIn_2 : decode cX5_septetsIn 2 = .ok (.aload_n 0, 1) := by decide +kernel
theorem dX5_septetsIn_3 : decode cX5_septetsIn 3 = .ok (.iload_n 1, 1) := by decide +kernel
theorem dX5_septetsIn_4 : decode cX5_septetsIn 4 = .ok (.iconst 1, 1) := by decide +kernel
theorem dX5_septetsIn_5 : decode cX5_septetsIn 5 = .ok (.iadd, 1) := by decide +kernel
theorem dX5_septetsIn_6 : decode cX5_septetsIn 6 = .ok (.invokevirtual 39, 3) := by decide +kernel
theorem dX5_septetsIn_9 : decode cX5_septetsIn 9 = .ok (.istore_n 3, 1) := by decide +kernel
theorem dX5_septetsIn_10 : decode cX5_septetsIn 10 = .ok (.aload_n 0, 1) := by decide +kernel
theorem dX5_septetsIn_11 : decode cX5_septetsIn 11 = .ok (.iload_n 1, 1) := by decide +kernel
theorem dX5_septetsIn_12 : decode cX5_septetsIn 12 = .ok (.invokevirtual 39, 3) := by decide +kernel
theorem dX5_septetsIn_15 : decode cX5_septetsIn 15 = .ok (.istore 4, 2) := by decide +kernel
theorem dX5_septetsIn_17 : decode cX5_septetsIn 17 = .ok (.iload 4, 2) := by decide +kernel
theorem dX5_septetsIn_19 : decode cX5_septetsIn 19 = .ok (.iload_n 3, 1) := by decide +kernel
theorem dX5_septetsIn_20 : decode cX5_septetsIn 20 = .ok (.if_icmp .ge 21, 3) := by decide +kernel
theorem dX5_septetsIn_23 : decode cX5_septetsIn 23 = .ok (.iload_n 2, 1) := by decide +kernel
theorem dX5_septetsIn_24 : decode cX5_septetsIn 24 = .ok (.aload_n 0, 1) := by decide +kernel
theorem dX5_septetsIn_25 : decode cX5_septetsIn 25 = .ok (.iload 4, 2) := by decide +kernel
theorem dX5_septetsIn_27 : decode cX5_septetsIn 27 = .ok (.invokevirtual 45, 3) := by decide +kernel
theorem dX5_septetsIn_30 : decode cX5_septetsIn 30 = .ok (.invokestatic 32, 3) := by decide +kernel
theorem dX5_septetsIn_33 : decode cX5_septetsIn 33 = .ok (.iadd, 1) := by decide +kernel
theorem dX5_septetsIn_34 : decode cX5_septetsIn 34 = .ok (.istore_n 2, 1) := by decide +kernel
theorem dX5_septetsIn_35 : decode cX5_septetsIn 35 = .ok (.iinc 4 1, 3) := by decide +kernel
theorem dX5_septetsIn_38 : decode cX5_septetsIn 38 = .ok (.goto (-21), 3) := by decide +kernel
theorem dX5_septetsIn_41 : decode cX5_septetsIn 41 = .ok (.iload_n 2, 1) := by decide +kernel
theorem dX5_septetsIn_42 : decode cX5_septetsIn 42 = .ok (.ireturn, 1) := by decide +kernel
theorem dX5_septetAt_0 : decode cX5_septetAt 0 = .ok (.iconst 0, 1) := by decide +kernel
theorem dX5_septetAt_1 : decode cX5_septetAt 1 = .ok (.istore_n 3, 1) := by decide +kernel
theorem dX5_septetAt_2 : decode cX5_septetAt 2 = .ok (.aload_n 0, 1) := by decide +kernel
theorem dX5_septetAt_3 : decode cX5_septetAt 3 = .ok (.iload_n 1, 1) := by decide +kernel
theorem dX5_septetAt_4 : decode cX5_septetAt 4 = .ok (.iconst 1, 1) := by decide +kernel
theorem dX5_septetAt_5 : decode cX5_septetAt 5 = .ok (.iadd, 1) := by decide +kernel
theorem dX5_septetAt_6 : decode cX5_septetAt 6 = .ok (.invokevirtual 39, 3) := by decide +kernel
theorem dX5_septetAt_9 : decode cX5_septetAt 9 = .ok (.istore 4, 2) := by decide +kernel
theorem dX5_septetAt_11 : decode cX5_septetAt 11 = .ok (.aload_n 0, 1) := by decide +kernel
theorem dX5_septetAt_12 : decode cX5_septetAt 12 = .ok (.iload_n 1, 1) := by decide +kernel
theorem dX5_septetAt_13 : decode cX5_septetAt 13 = .ok (.invokevirtual 39, 3) := by decide +kernel
theorem dX5_septetAt_16 : decode cX5_septetAt 16 = .ok (.istore 5, 2) := by decide +kernel
theorem dX5_septetAt_18 : decode cX5_septetAt 18 = .ok (.iload 5, 2) := by decide +kernel
theorem dX5_septetAt_20 : decode cX5_septetAt 20 = .ok (.iload 4, 2) := by decide +kernel
theorem dX5_septetAt_22 : decode cX5_septetAt 22 = .ok (.if_icmp .ge 46, 3) := by decide +kernel
theorem dX5_septetAt_25 : decode cX5_septetAt 25 = .ok (.aload_n 0, 1) := by decide +kernel
theorem dX5_septetAt_26 : decode cX5_septetAt 26 = .ok (.iload 5, 2) := by decide +kernel
theorem dX5_septetAt_28 : decode cX5_septetAt 28 = .ok (.invokevirtual 45, 3) := by decide +kernel
theorem dX5_septetAt_31 : decode cX5_septetAt 31 = .ok (.istore 6, 2) := by decide +kernel
theorem dX5_septetAt_33 : decode cX5_septetAt 33 = .ok (.iload 6, 2) := by decide +kernel
theorem dX5_septetAt_35 : decode cX5_septetAt 35 = .ok (.invokestatic 32, 3) := by decide +kernel
theorem dX5_septetAt_38 : decode cX5_septetAt 38 = .ok (.istore 7, 2) := by decide +kernel
theorem dX5_septetAt_40 : decode cX5_septetAt 40 = .ok (.iload_n 2, 1) := by decide +kernel
theorem dX5_septetAt_41 : decode cX5_septetAt 41 = .ok (.iload_n 3, 1) := by decide +kernel
theorem dX5_septetAt_42 : decode cX5_septetAt 42 = .ok (.iload 7, 2) := by decide +kernel
theorem dX5_septetAt_44 : decode cX5_septetAt 44 = .ok (.iadd, 1) := by decide +kernel
theorem dX5_septetAt_45 : decode cX5_septetAt 45 = .ok (.if_icmp .ge 12, 3) := by decide +kernel
theorem dX5_septetAt_48 : decode cX5_septetAt 48 = .ok (.iload 6, 2) := by decide +kernel
theorem dX5_septetAt_50 : decode cX5_septetAt 50 = .ok (.iload_n 2, 1) := by decide +kernel
theorem dX5_septetAt_51 : decode cX5_septetAt 51 = .ok (.iload_n 3, 1) := by decide +kernel
theorem dX5_septetAt_52 : decode cX5_septetAt 52 = .ok (.isub, 1) := by decide +kernel
theorem dX5_septetAt_53 : decode cX5_septetAt 53 = .ok (.invokestatic 62, 3) := by decide +kernel
theorem dX5_septetAt_56 : decode cX5_septetAt 56 = .ok (.ireturn, 1) := by decide +kernel
theorem dX5_septetAt_57 : decode cX5_septetAt 57 = .ok (.iload_n 3, 1) := by decide +kernel
theorem dX5_septetAt_58 : decode cX5_septetAt 58 = .ok (.iload 7, 2) := by decide +kernel
theorem dX5_septetAt_60 : decode cX5_septetAt 60 = .ok (.iadd, 1) := by decide +kernel
theorem dX5_septetAt_61 : decode cX5_septetAt 61 = .ok (.istore_n 3, 1) := by decide +kernel
theorem dX5_septetAt_62 : decode cX5_septetAt 62 = .ok (.iinc 5 1, 3) := by decide +kernel
theorem dX5_septetAt_65 : decode cX5_septetAt 65 = .ok (.goto (-47), 3) := by decide +kernel
theorem dX5_septetAt_68 : decode cX5_septetAt 68 = .ok (.iconst 0, 1) := by decide +kernel
theorem dX5_septetAt_69 : decode cX5_septetAt 69 = .ok (.ireturn, 1) := by decide +kernel
theorem dX5_septetsOf_0 : decode cX5_septetsOf 0 = .ok (.iload_n 0, 1) := by decide +kernel
theorem dX5_septetsOf_1 : decode cX5_septetsOf 1 = .ok (.sipush 128, 3) := by decide +kernel
theorem dX5_septetsOf_4 : decode cX5_septetsOf 4 = .ok (.if_icmp .ge 7, 3) := by decide +kernel
theorem dX5_septetsOf_7 : decode cX5_septetsOf 7 = .ok (.iconst 1, 1) := by decide +kernel
theorem dX5_septetsOf_8 : decode cX5_septetsOf 8 = .ok (.goto 4, 3) := by decide +kernel
theorem dX5_septetsOf_11 : decode cX5_septetsOf 11 = .ok (.iconst 2, 1) := by decide +kernel
theorem dX5_septetsOf_12 : decode cX5_septetsOf 12 = .ok (.ireturn, 1) := by decide +kernel
theorem dX5_septetOf_0 : decode cX5_septetOf 0 = .ok (.iload_n 0, 1) := by decide +kernel
theorem dX5_septetOf_1 : decode cX5_septetOf 1 = .ok (.sipush 128, 3) := by decide +kernel
theorem dX5_septetOf_4 : decode cX5_septetOf 4 = .ok (.if_icmp .ge 5, 3) := by decide +kernel
theorem dX5_septetOf_7 : decode cX5_septetOf 7 = .ok (.iload_n 0, 1) := by decide +kernel
theorem dX5_septetOf_8 : decode cX5_septetOf 8 = .ok (.ireturn, 1) := by decide +kernel
theorem dX5_septetOf_9 : decode cX5_septetOf 9 = .ok (.iload_n 1, 1) := by decide +kernel
theorem dX5_septetOf_10 : decode cX5_septetOf 10 = .ok (.ifCond .ne 8, 3) := by decide +kernel
theorem dX5_septetOf_13 : decode cX5_septetOf 13 = .ok (.bipush 27, 2) := by decide +kernel
theorem dX5_septetOf_15 : decode cX5_septetOf 15 = .ok (.goto 8, 3) := by decide +kernel
theorem dX5_septetOf_18 : decode cX5_septetOf 18 = .ok (.iload_n 0, 1) := by decide +kernel
theorem dX5_septetOf_19 : decode cX5_septetOf 19 = .ok (.sipush 128, 3) := by decide +kernel
theorem dX5_septetOf_22 : decode cX5_septetOf 22 = .ok (.isub, 1) := by decide +kernel
theorem dX5_septetOf_23 : decode cX5_septetOf 23 = .ok (.ireturn, 1) := by decide +kernel
theorem dX6_init_0 : decode cX6_init 0 = .ok (.aload_n 0, 1) := by decide +kernel
theorem dX6_init_1 : decode cX6_init 1 = .ok (.invokespecial 1, 3) := by decide +kernel
theorem dX6_init_4 : decode cX6_init 4 = .ok (.aload_n 0, 1) := by decide +kernel
theorem dX6_init_5 : decode cX6_init 5 = .ok (.new 7, 3) := by decide +kernel
theorem dX6_init_8 : decode cX6_init 8 = .ok (.dup, 1) := by decide +kernel
theorem dX6_init_9 : decode cX6_init 9 = .ok (.invokespecial 9, 3) := by decide +kernel
theorem dX6_init_12 : decode cX6_init 12 = .ok (.putfield 10, 3) := by decide +kernel
theorem dX6_init_15 : decode cX6_init 15 = .ok (.aload_n 0, 1) := by decide +kernel
theorem dX6_init_16 : decode cX6_init 16 = .ok (.bipush 20, 2) := by decide +kernel
theorem dX6_init_18 : decode cX6_init 18 = .ok (.anewarray 16, 3) := by decide +kernel
theorem dX6_init_21 : decode cX6_init 21 = .ok (.putfield 18, 3) := by decide +kernel
theorem dX6_init_24 : decode cX6_init 24 = .ok (.aload_n 0, 1) := by decide +kernel
theorem dX6_init_25 : decode cX6_init 25 = .ok (.iconst 0, 1) := by decide +kernel
theorem dX6_init_26 : decode cX6_init 26 = .ok (.putfield 22, 3) := by decide +kernel
theorem dX6_init_29 : decode cX6_init 29 = .ok (.aload_n 0, 1) := by decide +kernel
theorem dX6_init_30 : decode cX6_init 30 = .ok (.bipush 20, 2) := by decide +kernel
theorem dX6_init_32 : decode cX6_init 32 = .ok (.newarray .int, 2) := by decide +kernel
theorem dX6_init_34 : decode cX6_init 34 = .ok (.putfield 26, 3) := by decide +kernel
theorem dX6_init_37 : decode cX6_init 37 = .ok (.aload_n 0, 1) := by decide +kernel
theorem dX6_init_38 : decode cX6_init 38 = .ok (.iconst 0, 1) := by decide +kernel
theorem dX6_init_39 : decode cX6_init 39 = .ok (.putfield 30, 3) := by decide +kernel
theorem dX6_init_42 : decode cX6_init 42 = .ok (.aload_n 0, 1) := by decide +kernel
theorem dX6_init_43 : decode cX6_init 43 = .ok (.iconst 3, 1) := by decide +kernel
theorem dX6_init_44 : decode cX6_init 44 = .ok (.anewarray 33, 3) := by decide +kernel
theorem dX6_init_47 : decode cX6_init 47 = .ok (.putfield 35, 3) := by decide +kernel
theorem dX6_init_50 : decode cX6_init 50 = .ok (.aload_n 0, 1) := by decide +kernel
theorem dX6_init_51 : decode cX6_init 51 = .ok (.new 39, 3) := by decide +kernel
theorem dX6_init_54 : decode cX6_init 54 = .ok (.dup, 1) := by decide +kernel
theorem dX6_init_55 : decode cX6_init 55 = .ok (.invokespecial 41, 3) := by decide +kernel
theorem dX6_init_58 : decode cX6_init 58 = .ok (.putfield 42, 3) := by decide +kernel
theorem dX6_init_61 : decode cX6_init 61 = .ok (.aload_n 0, 1) := by decide +kernel
theorem dX6_init_62 : decode cX6_init 62 = .ok (.iconst 0, 1) := by decide +kernel
theorem dX6_init_63 : decode cX6_init 63 = .ok (.putfield 46, 3) := by decide +kernel
theorem dX6_init_66 : decode cX6_init 66 = .ok (.iconst 0, 1) := by decide +kernel
theorem dX6_init_67 : decode cX6_init 67 = .ok (.istore_n 1, 1) := by decide +kernel
theorem dX6_init_68 : decode cX6_init 68 = .ok (.iload_n 1, 1) := by decide +kernel
theorem dX6_init_69 : decode cX6_init 69 = .ok (.aload_n 0, 1) := by decide +kernel
theorem dX6_init_70 : decode cX6_init 70 = .ok (.getfield 35, 3) := by decide +kernel
theorem dX6_init_73 : decode cX6_init 73 = .ok (.arraylength, 1) := by decide +kernel
theorem dX6_init_74 : decode cX6_init 74 = .ok (.if_icmp .ge 22, 3) := by decide +kernel
theorem dX6_init_77 : decode cX6_init 77 = .ok (.aload_n 0, 1) := by decide +kernel
theorem dX6_init_78 : decode cX6_init 78 = .ok (.getfield 35, 3) := by decide +kernel
theorem dX6_init_81 : decode cX6_init 81 = .ok (.iload_n 1, 1) := by decide +kernel
theorem dX6_init_82 : decode cX6_init 82 = .ok (.new 33, 3) := by decide +kernel
theorem dX6_init_85 : decode cX6_init 85 = .ok (.dup, 1) := by decide +kernel
theorem dX6_init_86 : decode cX6_init 86 = .ok (.invokespecial 49, 3) := by decide +kernel
theorem dX6_init_89 : decode cX6_init 89 = .ok (.aastore, 1) := by decide +kernel
theorem dX6_init_90 : decode cX6_init 90 = .ok (.iinc 1 1, 3) := by decide +kernel
theorem dX6_init_93 : decode cX6_init 93 = .ok (.goto (-25), 3) := by decide +kernel
theorem dX6_init_96 : decode cX6_init 96 = .ok (.return_, 1) := by decide +kernel
theorem dX6_write_0 : decode cX6_write 0 = .ok (.iload_n 1, 1) := by decide +kernel
theorem dX6_write_1 : decode cX6_write 1 = .ok (.ifCond .lt 22, 3) := by decide +kernel
theorem dX6_write_4 : decode cX6_write 4 = .ok (.iload_n 1, 1) := by decide +kernel
theorem dX6_write_5 : decode cX6_write 5 = .ok (.sipush 999, 3) := by decide +kernel
theorem dX6_write_8 : decode cX6_write 8 = .ok (.if_icmp .gt 15, 3) := by decide +kernel
theorem dX6_write_11 : decode cX6_write 11 = .ok (.iload_n 2, 1) := by decide +kernel
theorem dX6_write_12 : decode cX6_write 12 = .ok (.iconst 1, 1) := by decide +kernel
theorem dX6_write_13 : decode cX6_write 13 = .ok (.if_icmp .lt 10, 3) := by decide +kernel
theorem dX6_write_16 : decode cX6_write 16 = .ok (.iload_n 2, 1) := by decide +kernel
theorem dX6_write_17 : decode cX6_write 17 = .ok (.sipush 200, 3) := by decide +kernel
theorem dX6_write_20 : decode cX6_write 20 = .ok (.if_icmp .le 13, 3) := by decide +kernel
theorem dX6_write_23 : decode cX6_write 23 = .ok (.new 50, 3) := by decide +kernel
theorem dX6_write_26 : decode cX6_write 26 = .ok (.dup, 1) := by decide +kernel
theorem dX6_write_27 : decode cX6_write 27 = .ok (.ldc 52, 2) := by decide +kernel
theorem dX6_write_29 : decode cX6_write 29 = .ok (.invokespecial 54, 3) := by decide +kernel
theorem dX6_write_32 : decode cX6_write 32 = .ok (.athrow, 1) := by decide +kernel
theorem dX6_write_33 : decode cX6_write 33 = .ok (.aload_n 0, 1) := by decide +kernel
theorem dX6_write_34 : decode cX6_write 34 = .ok (.getfield 10, 3) := by decide +kernel
theorem dX6_write_37 : decode cX6_write 37 = .ok (.getfield 57, 3) := by decide +kernel
theorem dX6_write_40 : decode cX6_write 40 = .ok (.iload_n 2, 1) := by decide +kernel
theorem dX6_write_41 : decode cX6_write 41 = .ok (.iadd, 1) := by decide +kernel
theorem dX6_write_42 : decode cX6_write 42 = .ok (.sipush 400, 3) := by decide +kernel
theorem dX6_write_45 : decode cX6_write 45 = .ok (.if_icmp .le 13, 3) := by decide +kernel
theorem dX6_write_48 : decode cX6_write 48 = .ok (.new 60, 3) := by decide +kernel
theorem dX6_write_51 : decode cX6_write 51 = .ok (.dup, 1) := by decide +kernel
theorem dX6_write_52 : decode cX6_write 52 = .ok (.ldc 62, 2) := by decide +kernel
theorem dX6_write_54 : decode cX6_write 54 = .ok (.invokespecial 64, 3) := by decide +kernel
theorem dX6_write_57 : decode cX6_write 57 = .ok (.athrow, 1) := by decide +kernel
theorem dX6_write_58 : decode cX6_write 58 = .ok (.aload_n 0, 1) := by decide +kernel
theorem dX6_write_59 : decode cX6_write 59 = .ok (.getfield 10, 3) := by decide +kernel
theorem dX6_write_62 : decode cX6_write 62 = .ok (.iload_n 1, 1) := by decide +kernel
theorem dX6_write_63 : decode cX6_write 63 = .ok (.iload_n 2, 1) := by decide +kernel
theorem dX6_write_64 : decode cX6_write 64 = .ok (.invokevirtual 65, 3) := by decide +kernel
theorem dX6_write_67 : decode cX6_write 67 = .ok (.aload_n 0, 1) := by decide +kernel
theorem dX6_write_68 : decode cX6_write 68 = .ok (.getfield 10, 3) := by decide +kernel
theorem dX6_write_71 : decode cX6_write 71 = .ok (.getfield 57, 3) := by decide +kernel
theorem dX6_write_74 : decode cX6_write 74 = .ok (.ireturn, 1) := by decide +kernel
theorem dX6_erase_0 : decode cX6_erase 0 = .ok (.aload_n 0, 1) := by decide +kernel
theorem dX6_erase_1 : decode cX6_erase 1 = .ok (.getfield 10, 3) := by decide +kernel
theorem dX6_erase_4 : decode cX6_erase 4 = .ok (.getfield 57, 3) := by decide +kernel
theorem dX6_erase_7 : decode cX6_erase 7 = .ok (.istore_n 1, 1) := by decide +kernel
theorem dX6_erase_8 : decode cX6_erase 8 = .ok (.aload_n 0, 1) := by decide +kernel
theorem dX6_erase_9 : decode cX6_erase 9 = .ok (.getfield 10, 3) := by decide +kernel
theorem dX6_erase_12 : decode cX6_erase 12 = .ok (.invokevirtual 69, 3) := by decide +kernel
theorem dX6_erase_15 : decode cX6_erase 15 = .ok (.iload_n 1, 1) := by decide +kernel
theorem dX6_erase_16 : decode cX6_erase 16 = .ok (.ireturn, 1) := by decide +kernel
theorem dX6_isWide_0 : decode cX6_isWide 0 = .ok (.aload_n 0, 1) := by decide +kernel
theorem dX6_isWide_1 : decode cX6_isWide 1 = .ok (.getfield 10, 3) := by decide +kernel
theorem dX6_isWide_4 : decode cX6_isWide 4 = .ok (.getfield 72, 3) := by decide +kernel
theorem dX6_isWide_7 : decode cX6_isWide 7 = .ok (.ireturn, 1) := by decide +kernel
theorem dX6_septets_0 : decode cX6_septets 0 = .ok (.aload_n 0, 1) := by decide +kernel
theorem dX6_septets_1 : decode cX6_septets 1 = .ok (.getfield 10, 3) := by decide +kernel
theorem dX6_septets_4 : decode cX6_septets 4 = .ok (.getfield 72, 3) := by decide +kernel
theorem dX6_septets_7 : decode cX6_septets 7 = .ok (.ifCond .eq 13, 3) := by decide +kernel
theorem dX6_septets_10 : decode cX6_septets 10 = .ok (.new 60, 3) := by decide +kernel
theorem dX6_septets_13 : decode cX6_septets 13 = .ok (.dup, 1) := by decide +kernel
theorem dX6_septets_14 : decode cX6_septets 14 = .ok (.ldc 76, 2) := by decide +kernel
theorem dX6_septets_16 : decode cX6_septets 16 = .ok (.invokespecial 64, 3) := by decide +kernel
theorem dX6_septets_19 : decode cX6_septets 19 = .ok (.athrow, 1) := by decide +kernel
theorem dX6_septets_20 : decode cX6_septets 20 = .ok (.aload_n 0, 1) := by decide +kernel
theorem dX6_septets_21 : decode cX6_septets 21 = .ok (.getfield 10, 3) := by decide +kernel
theorem dX6_septets_24 : decode cX6_septets 24 = .ok (.getfield 78, 3) := by decide +kernel
theorem dX6_septets_27 : decode cX6_septets 27 = .ok (.ireturn, 1) := by decide +kernel
theorem dX6_parts_0 : decode cX6_parts 0 = .ok (.aload_n 0, 1) := by decide +kernel
theorem dX6_parts_1 : decode cX6_parts 1 = .ok (.getfield 10, 3) := by decide +kernel
theorem dX6_parts_4 : decode cX6_parts 4 = .ok (.getfield 81, 3) := by decide +kernel
theorem dX6_parts_7 : decode cX6_parts 7 = .ok (.ireturn, 1) := by decide +kernel
theorem dX6_signs_0 : decode cX6_signs 0 = .ok (.aload_n 0, 1) := by decide +kernel
theorem dX6_signs_1 : decode cX6_signs 1 = .ok (.iload_n 1, 1) := by decide +kernel
theorem dX6_signs_2 : decode cX6_signs 2 = .ok (.invokevirtual 84, 3) := by decide +kernel
theorem dX6_signs_5 : decode cX6_signs 5 = .ok (.aload_n 0, 1) := by decide +kernel
theorem dX6_signs_6 : decode cX6_signs 6 = .ok (.getfield 10, 3) := by decide +kernel
theorem dX6_signs_9 : decode cX6_signs 9 = .ok (.iload_n 1, 1) := by decide +kernel
theorem dX6_signs_10 : decode cX6_signs 10 = .ok (.iconst 1, 1) := by decide +kernel
theorem dX6_signs_11 : decode cX6_signs 11 = .ok (.iadd, 1) := by decide +kernel
theorem dX6_signs_12 : decode cX6_signs 12 = .ok (.invokevirtual 88, 3) := by decide +kernel
theorem dX6_signs_15 : decode cX6_signs 15 = .ok (.aload_n 0, 1) := by decide +kernel
theorem dX6_signs_16 : decode cX6_signs 16 = .ok (.getfield 10, 3) := by decide +kernel
theorem dX6_signs_19 : decode cX6_signs 19 = .ok (.iload_n 1, 1) := by decide +kernel
theorem dX6_signs_20 : decode cX6_signs 20 = .ok (.invokevirtual 88, 3) := by decide +kernel
theorem dX6_signs_23 : decode cX6_signs 23 = .ok (.isub, 1) := by decide +kernel
theorem dX6_signs_24 : decode cX6_signs 24 = .ok (.ireturn, 1) := by decide +kernel
theorem dX6_octets_0 : decode cX6_octets 0 = .ok (.aload_n 0, 1) := by decide +kernel
theorem dX6_octets_1 : decode cX6_octets 1 = .ok (.iload_n 1, 1) := by decide +kernel
theorem dX6_octets_2 : decode cX6_octets 2 = .ok (.invokevirtual 84, 3) := by decide +kernel
theorem dX6_octets_5 : decode cX6_octets 5 = .ok (.aload_n 0, 1) := by decide +kernel
theorem dX6_octets_6 : decode cX6_octets 6 = .ok (.getfield 10, 3) := by decide +kernel
theorem dX6_octets_9 : decode cX6_octets 9 = .ok (.iload_n 1, 1) := by decide +kernel
theorem dX6_octets_10 : decode cX6_octets 10 = .ok (.invokevirtual 92, 3) := by decide +kernel
theorem dX6_octets_13 : decode cX6_octets 13 = .ok (.ireturn, 1) := by decide +kernel
theorem dX6_octet_0 : decode cX6_octet 0 = .ok (.aload_n 0, 1) := by decide +kernel
theorem dX6_octet_1 : decode cX6_octet 1 = .ok (.iload_n 1, 1) := by decide +kernel
theorem dX6_octet_2 : decode cX6_octet 2 = .ok (.invokevirtual 84, 3) := by decide +kernel
theorem dX6_octet_5 : decode cX6_octet 5 = .ok (.iload_n 2, 1) := by decide +kernel
theorem dX6_octet_6 : decode cX6_octet 6 = .ok (.ifCond .lt 15, 3) := by decide +kernel
theorem dX6_octet_9 : decode cX6_octet 9 = .ok (.iload_n 2, 1) := by decide +kernel
theorem dX6_octet_10 : decode cX6_octet 10 = .ok (.aload_n 0, 1) := by decide +kernel
theorem dX6_octet_11 : decode cX6_octet 11 = .ok (.getfield 10, 3) := by decide +kernel
theorem dX6_octet_14 : decode cX6_octet 14 = .ok (.iload_n 1, 1) := by decide +kernel
theorem dX6_octet_15 : decode cX6_octet 15 = .ok (.invokevirtual 92, 3) := by decide +kernel
theorem dX6_octet_18 : decode cX6_octet 18 = .ok (.if_icmp .lt 13, 3) := by decide +kernel
theorem dX6_octet_21 : decode cX6_octet 21 = .ok (.new 95, 3) := by decide +kernel
theorem dX6_octet_24 : decode cX6_octet 24 = .ok (.dup, 1) := by decide +kernel
theorem dX6_octet_25 : decode cX6_octet 25 = .ok (.ldc 97, 2) := by decide +kernel
theorem dX6_octet_27 : decode cX6_octet 27 = .ok (.invokespecial 99, 3) := by decide +kernel
theorem dX6_octet_30 : decode cX6_octet 30 = .ok (.athrow, 1) := by decide +kernel
theorem dX6_octet_31 : decode cX6_octet 31 = .ok (.aload_n 0, 1) := by decide +kernel
theorem dX6_octet_32 : decode cX6_octet 32 = .ok (.getfield 10, 3) := by decide +kernel
theorem dX6_octet_35 : decode cX6_octet 35 = .ok (.iload_n 1, 1) := by decide +kernel
theorem dX6_octet_36 : decode cX6_octet 36 = .ok (.iload_n 2, 1) := by decide +kernel
theorem dX6_octet_37 : decode cX6_octet 37 = .ok (.invokevirtual 100, 3) := by decide +kernel
theorem dX6_octet_40 : decode cX6_octet 40 = .ok (.ireturn, 1) := by decide +kernel
theorem dX6_requirePart_0 : decode cX6_requirePart 0 = .ok (.iload_n 1, 1) := by decide +kernel
theorem dX6_requirePart_1 : decode cX6_requirePart 1 = .ok (.ifCond .lt 14, 3) := by decide +kernel
theorem dX6_requirePart_4 : decode cX6_requirePart 4 = .ok (.iload_n 1, 1) := by decide +kernel
theorem dX6_requirePart_5 : decode cX6_requirePart 5 = .ok (.aload_n 0, 1) := by decide +kernel
theorem dX6_requirePart_6 : decode cX6_requirePart 6 = .ok (.getfield 10, 3) := by decide +kernel
theorem dX6_requirePart_9 : decode cX6_requirePart 9 = .ok (.getfield 81, 3) := by decide +kernel
theorem dX6_requirePart_12 : decode cX6_requirePart 12 = .ok (.if_icmp .lt 13, 3) := by decide +kernel
theorem dX6_requirePart_15 : decode cX6_requirePart 15 = .ok (.new 95, 3) := by decide +kernel
theorem dX6_requirePart_18 : decode cX6_requirePart 18 = .ok (.dup, 1) := by decide +kernel
theorem dX6_requirePart_19 : decode cX6_requirePart 19 = .ok (.ldc 104, 2) := by decide +kernel
theorem dX6_requirePart_21 : decode cX6_requirePart 21 = .ok (.invokespecial 99, 3) := by decide +kernel
theorem dX6_requirePart_24 : decode cX6_requirePart 24 = .ok (.athrow, 1) := by decide +kernel
theorem dX6_requirePart_25 : decode cX6_requirePart 25 = .ok (.return_, 1) := by decide +kernel
theorem dX6_submit_0 : decode cX6_submit 0 = .ok (.aload_n 0, 1) := by decide +kernel
theorem dX6_submit_1 : decode cX6_submit 1 = .ok (.iload_n 1, 1) := by decide +kernel
theorem dX6_submit_2 : decode cX6_submit 2 = .ok (.invokevirtual 106, 3) := by decide +kernel
theorem dX6_submit_5 : decode cX6_submit 5 = .ok (.iload_n 2, 1) := by decide +kernel
theorem dX6_submit_6 : decode cX6_submit 6 = .ok (.iconst 1, 1) := by decide +kernel
theorem dX6_submit_7 : decode cX6_submit 7 = .ok (.if_icmp .lt 10, 3) := by decide +kernel
theorem dX6_submit_10 : decode cX6_submit 10 = .ok (.iload_n 2, 1) := by decide +kernel
theorem dX6_submit_11 : decode cX6_submit 11 = .ok (.sipush 1000, 3) := by decide +kernel
theorem dX6_submit_14 : decode cX6_submit 14 = .ok (.if_icmp .le 13, 3) := by decide +kernel
theorem dX6_submit_17 : decode cX6_submit 17 = .ok (.new 50, 3) := by decide +kernel
theorem dX6_submit_20 : decode cX6_submit 20 = .ok (.dup, 1) := by decide +kernel
theorem dX6_submit_21 : decode cX6_submit 21 = .ok (.ldc 109, 2) := by decide +kernel
theorem dX6_submit_23 : decode cX6_submit 23 = .ok (.invokespecial 54, 3) := by decide +kernel
theorem dX6_submit_26 : decode cX6_submit 26 = .ok (.athrow, 1) := by decide +kernel
theorem dX6_submit_27 : decode cX6_submit 27 = .ok (.aload_n 0, 1) := by decide +kernel
theorem dX6_submit_28 : decode cX6_submit 28 = .ok (.getfield 10, 3) := by decide +kernel
theorem dX6_submit_31 : decode cX6_submit 31 = .ok (.getfield 57, 3) := by decide +kernel
theorem dX6_submit_34 : decode cX6_submit 34 = .ok (.ifCond .eq 15, 3) := by decide +kernel
theorem dX6_submit_37 : decode cX6_submit 37 = .ok (.aload_n 0, 1) := by decide +kernel
theorem dX6_submit_38 : decode cX6_submit 38 = .ok (.getfield 22, 3) := by decide +kernel
theorem dX6_submit_41 : decode cX6_submit 41 = .ok (.aload_n 0, 1) := by decide +kernel
theorem dX6_submit_42 : decode cX6_submit 42 = .ok (.getfield 18, 3) := by decide +kernel
theorem dX6_submit_45 : decode cX6_submit 45 = .ok (.arraylength, 1) := by decide +kernel
theorem dX6_submit_46 : decode cX6_submit 46 = .ok (.if_icmp .lt 13, 3) := by decide +kernel
theorem dX6_submit_49 : decode cX6_submit 49 = .ok (.new 60, 3) := by decide +kernel
theorem dX6_submit_52 : decode cX6_submit 52 = .ok (.dup, 1) := by decide +kernel
theorem dX6_submit_53 : decode cX6_submit 53 = .ok (.ldc 111, 2) := by decide +kernel
theorem dX6_submit_55 : decode cX6_submit 55 = .ok (.invokespecial 64, 3) := by decide +kernel
theorem dX6_submit_58 : decode cX6_submit 58 = .ok (.athrow, 1) := by decide +kernel
theorem dX6_submit_59 : decode cX6_submit 59 = .ok (.new 16, 3) := by decide +kernel
theorem dX6_submit_62 : decode cX6_submit 62 = .ok (.dup, 1) := by decide +kernel
theorem dX6_submit_63 : decode cX6_submit 63 = .ok (.aload_n 0, 1) := by decide +kernel
theorem dX6_submit_64 : decode cX6_submit 64 = .ok (.getfield 22, 3) := by decide +kernel
theorem dX6_submit_67 : decode cX6_submit 67 = .ok (.iload_n 1, 1) := by decide +kernel
theorem dX6_submit_68 : decode cX6_submit 68 = .ok (.aload_n 0, 1) := by decide +kernel
theorem dX6_submit_69 : decode cX6_submit 69 = .ok (.getfield 46, 3) := by decide +kernel
theorem dX6_submit_72 : decode cX6_submit 72 = .ok (.iload_n 2, 1) := by decide +kernel
theorem dX6_submit_73 : decode cX6_submit 73 = .ok (.iadd, 1) := by decide +kernel
theorem dX6_submit_74 : decode cX6_submit 74 = .ok (.aload_n 0, 1) := by decide +kernel
theorem dX6_submit_75 : decode cX6_submit 75 = .ok (.iload_n 1, 1) := by decide +kernel
theorem dX6_submit_76 : decode cX6_submit 76 = .ok (.invokevirtual 113, 3) := by decide +kernel
theorem dX6_submit_79 : decode cX6_submit 79 = .ok (.aload_n 0, 1) := by decide +kernel
theorem dX6_submit_80 : decode cX6_submit 80 = .ok (.getfield 10, 3) := by decide +kernel
theorem dX6_submit_83 : decode cX6_submit 83 = .ok (.invokespecial 117, 3) := by decide +kernel
theorem dX6_submit_86 : decode cX6_submit 86 = .ok (.astore_n 3, 1) := by decide +kernel
theorem dX6_submit_87 : decode cX6_submit 87 = .ok (.aload_n 0, 1) := by decide +kernel
theorem dX6_submit_88 : decode cX6_submit 88 = .ok (.getfield 18, 3) := by decide +kernel
theorem dX6_submit_91 : decode cX6_submit 91 = .ok (.aload_n 0, 1) := by decide +kernel
theorem dX6_submit_92 : decode cX6_submit 92 = .ok (.getfield 22, 3) := by decide +kernel
theorem dX6_submit_95 : decode cX6_submit 95 = .ok (.aload_n 3, 1) := by decide +kernel
theorem dX6_submit_96 : decode cX6_submit 96 = .ok (.aastore, 1) := by decide +kernel
theorem dX6_submit_97 : decode cX6_submit 97 = .ok (.aload_n 0, 1) := by decide +kernel
theorem dX6_submit_98 : decode cX6_submit 98 = .ok (.dup, 1) := by decide +kernel
theorem dX6_submit_99 : decode cX6_submit 99 = .ok (.getfield 22, 3) := by decide +kernel
theorem dX6_submit_102 : decode cX6_submit 102 = .ok (.iconst 1, 1) := by decide +kernel
theorem dX6_submit_103 : decode cX6_submit 103 = .ok (.iadd, 1) := by decide +kernel
theorem dX6_submit_104 : decode cX6_submit 104 = .ok (.putfield 22, 3) := by decide +kernel
theorem dX6_submit_107 : decode cX6_submit 107 = .ok (.iconst 0, 1) := by decide +kernel
theorem dX6_submit_108 : decode cX6_submit 108 = .ok (.istore 4, 2) := by decide +kernel
theorem dX6_submit_110 : decode cX6_submit 110 = .ok (.iload 4, 2) := by decide +kernel
theorem dX6_submit_112 : decode cX6_submit 112 = .ok (.aload_n 3, 1) := by decide +kernel
theorem dX6_submit_113 : decode cX6_submit 113 = .ok (.getfield 120, 3) := by decide +kernel
theorem dX6_submit_116 : decode cX6_submit 116 = .ok (.if_icmp .ge 33, 3) := by decide +kernel
theorem dX6_submit_119 : decode cX6_submit 119 = .ok (.aload_n 3, 1) := by decide +kernel
theorem dX6_submit_120 : decode cX6_submit 120 = .ok (.getfield 121, 3) := by decide +kernel
theorem dX6_submit_123 : decode cX6_submit 123 = .ok (.getfield 125, 3) := by decide +kernel
theorem dX6_submit_126 : decode cX6_submit 126 = .ok (.new 129, 3) := by decide +kernel
theorem dX6_submit_129 : decode cX6_submit 129 = .ok (.dup, 1) := by decide +kernel
theorem dX6_submit_130 : decode cX6_submit 130 = .ok (.aload_n 3, 1) := by decide +kernel
theorem dX6_submit_131 : decode cX6_submit 131 = .ok (.iload 4, 2) := by decide +kernel
theorem dX6_submit_133 : decode cX6_submit 133 = .ok (.aload_n 0, 1) := by decide +kernel
theorem dX6_submit_134 : decode cX6_submit 134 = .ok (.getfield 46, 3) := by decide +kernel
theorem dX6_submit_137 : decode cX6_submit 137 = .ok (.invokespecial 131, 3) := by decide +kernel
theorem dX6_submit_140 : decode cX6_submit 140 = .ok (.invokevirtual 134, 3) := by decide +kernel
theorem dX6_submit_143 : decode cX6_submit 143 = .ok (.iinc 4 1, 3) := by decide +kernel
theorem dX6_submit_146 : decode cX6_submit 146 = .ok (.goto (-36), 3) := by decide +kernel
theorem dX6_submit_149 : decode cX6_submit 149 = .ok (.aload_n 0, 1) := by decide +kernel
theorem dX6_submit_150 : decode cX6_submit 150 = .ok (.getfield 10, 3) := by decide +kernel
theorem dX6_submit_153 : decode cX6_submit 153 = .ok (.invokevirtual 69, 3) := by decide +kernel
theorem dX6_submit_156 : decode cX6_submit 156 = .ok (.aload_n 3, 1) := by decide +kernel
theorem dX6_submit_157 : decode cX6_submit 157 = .ok (.getfield 140, 3) := by decide +kernel
theorem dX6_submit_160 : decode cX6_submit 160 = .ok (.ireturn, 1) := by decide +kernel
theorem dX6_state_0 : decode cX6_state 0 = .ok (.aload_n 0, 1) := by decide +kernel
theorem dX6_state_1 : decode cX6_state 1 = .ok (.iload_n 1, 1) := by decide +kernel
theorem dX6_state_2 : decode cX6_state 2 = .ok (.invokevirtual 143, 3) := by decide +kernel
theorem dX6_state_5 : decode cX6_state 5 = .ok (.getfield 147, 3) := by decide +kernel
theorem dX6_state_8 : decode cX6_state 8 = .ok (.ireturn, 1) := by decide +kernel
theorem dX6_missing_0 : decode cX6_missing 0 = .ok (.aload_n 0, 1) := by decide +kernel
theorem dX6_missing_1 : decode cX6_missing 1 = .ok (.iload_n 1, 1) := by decide +kernel
theorem dX6_missing_2 : decode cX6_missing 2 = .ok (.invokevirtual 143, 3) := by decide +kernel
theorem dX6_missing_5 : decode cX6_missing 5 = .ok (.getfield 150, 3) := by decide +kernel
theorem dX6_missing_8 : decode cX6_missing 8 = .ok (.ireturn, 1) := by decide +kernel
theorem dX6_joined_0 : decode cX6_joined 0 = .ok (.aload_n 0, 1) := by decide +kernel
theorem dX6_joined_1 : decode cX6_joined 1 = .ok (.iload_n 1, 1) := by decide +kernel
theorem dX6_joined_2 : decode cX6_joined 2 = .ok (.invokevirtual 143, 3) := by decide +kernel
theorem dX6_joined_5 : decode cX6_joined 5 = .ok (.astore_n 3, 1) := by decide +kernel
theorem dX6_joined_6 : decode cX6_joined 6 = .ok (.iload_n 2, 1) := by decide +kernel
theorem dX6_joined_7 : decode cX6_joined 7 = .ok (.ifCond .lt 12, 3) := by decide +kernel
theorem dX6_joined_10 : decode cX6_joined 10 = .ok (.iload_n 2, 1) := by decide +kernel
theorem dX6_joined_11 : decode cX6_joined 11 = .ok (.aload_n 3, 1) := by decide +kernel
theorem dX6_joined_12 : decode cX6_joined 12 = .ok (.getfield 153, 3) := by decide +kernel
theorem dX6_joined_15 : decode cX6_joined 15 = .ok (.arraylength, 1) := by decide +kernel
theorem dX6_joined_16 : decode cX6_joined 16 = .ok (.if_icmp .lt 13, 3) := by decide +kernel
theorem dX6_joined_19 : decode cX6_joined 19 = .ok (.new 95, 3) := by decide +kernel
theorem dX6_joined_22 : decode cX6_joined 22 = .ok (.dup, 1) := by decide +kernel
theorem dX6_joined_23 : decode cX6_joined 23 = .ok (.ldc 97, 2) := by decide +kernel
theorem dX6_joined_25 : decode cX6_joined 25 = .ok (.invokespecial 99, 3) := by decide +kernel
theorem dX6_joined_28 : decode cX6_joined 28 = .ok (.athrow, 1) := by decide +kernel
theorem dX6_joined_29 : decode cX6_joined 29 = .ok (.aload_n 3, 1) := by decide +kernel
theorem dX6_joined_30 : decode cX6_joined 30 = .ok (.aload_n 3, 1) := by decide +kernel
theorem dX6_joined_31 : decode cX6_joined 31 = .ok (.iload_n 2, 1) := by decide +kernel
theorem dX6_joined_32 : decode cX6_joined 32 = .ok (.invokevirtual 156, 3) := by decide +kernel
theorem dX6_joined_35 : decode cX6_joined 35 = .ok (.invokevirtual 159, 3) := by decide +kernel
theorem dX6_joined_38 : decode cX6_joined 38 = .ok (.ifCond .eq 7, 3) := by decide +kernel
theorem dX6_joined_41 : decode cX6_joined 41 = .ok (.iconst (-1), 1) := by decide +kernel
theorem dX6_joined_42 : decode cX6_joined 42 = .ok (.goto 9, 3) := by decide +kernel
theorem dX6_joined_45 : decode cX6_joined 45 = .ok (.aload_n 3, 1) := by decide +kernel
theorem dX6_joined_46 : decode cX6_joined 46 = .ok (.getfield 153, 3) := by decide +kernel
theorem dX6_joined_49 : decode cX6_joined 49 = .ok (.iload_n 2, 1) := by decide +kernel
theorem dX6_joined_50 : decode cX6_joined 50 = .ok (.iaload, 1) := by decide +kernel
theorem dX6_joined_51 : decode cX6_joined 51 = .ok (.ireturn, 1) := by decide +kernel
theorem dX6_receipts_0 : decode cX6_receipts 0 = .ok (.aload_n 0, 1) := by decide +kernel
theorem dX6_receipts_1 : decode cX6_receipts 1 = .ok (.getfield 30, 3) := by decide +kernel
theorem dX6_receipts_4 : decode cX6_receipts 4 = .ok (.ireturn, 1) := by decide +kernel
theorem dX6_receipt_0 : decode cX6_receipt 0 = .ok (.iload_n 1, 1) := by decide +kernel
theorem dX6_receipt_1 : decode cX6_receipt 1 = .ok (.ifCond .lt 20, 3) := by decide +kernel
theorem dX6_receipt_4 : decode cX6_receipt 4 = .ok (.iload_n 1, 1) := by decide +kernel
theorem dX6_receipt_5 : decode cX6_receipt 5 = .ok (.aload_n 0, 1) := by decide +kernel
theorem dX6_receipt_6 : decode cX6_receipt 6 = .ok (.getfield 30, 3) := by decide +kernel
theorem dX6_receipt_9 : decode cX6_receipt 9 = .ok (.if_icmp .ge 12, 3) := by decide +kernel
theorem dX6_receipt_12 : decode cX6_receipt 12 = .ok (.iload_n 1, 1) := by decide +kernel
theorem dX6_receipt_13 : decode cX6_receipt 13 = .ok (.aload_n 0, 1) := by decide +kernel
theorem dX6_receipt_14 : decode cX6_receipt 14 = .ok (.getfield 26, 3) := by decide +kernel
theorem dX6_receipt_17 : decode cX6_receipt 17 = .ok (.arraylength, 1) := by decide +kernel
theorem dX6_receipt_18 : decode cX6_receipt 18 = .ok (.if_icmp .lt 13, 3) := by decide +kernel
theorem dX6_receipt_21 : decode cX6_receipt 21 = .ok (.new 95, 3) := by decide +kernel
theorem dX6_receipt_24 : decode cX6_receipt 24 = .ok (.dup, 1) := by decide +kernel
theorem dX6_receipt_25 : decode cX6_receipt 25 = .ok (.ldc 163, 2) := by decide +kernel
theorem dX6_receipt_27 : decode cX6_receipt 27 = .ok (.invokespecial 99, 3) := by decide +kernel
theorem dX6_receipt_30 : decode cX6_receipt 30 = .ok (.athrow, 1) := by decide +kernel
theorem dX6_receipt_31 : decode cX6_receipt 31 = .ok (.aload_n 0, 1) := by decide +kernel
theorem dX6_receipt_32 : decode cX6_receipt 32 = .ok (.getfield 26, 3) := by decide +kernel
theorem dX6_receipt_35 : decode cX6_receipt 35 = .ok (.iload_n 1, 1) := by decide +kernel
theorem dX6_receipt_36 : decode cX6_receipt 36 = .ok (.iaload, 1) := by decide +kernel
theorem dX6_receipt_37 : decode cX6_receipt 37 = .ok (.ireturn, 1) := by decide +kernel
theorem dX6_messageAt_0 : decode cX6_messageAt 0 = .ok (.iload_n 1, 1) := by decide +kernel
theorem dX6_messageAt_1 : decode cX6_messageAt 1 = .ok (.ifCond .lt 29, 3) := by decide +kernel
theorem dX6_messageAt_4 : decode cX6_messageAt 4 = .ok (.iload_n 1, 1) := by decide +kernel
theorem dX6_messageAt_5 : decode cX6_messageAt 5 = .ok (.aload_n 0, 1) := by decide +kernel
theorem dX6_messageAt_6 : decode cX6_messageAt 6 = .ok (.getfield 22, 3) := by decide +kernel
theorem dX6_messageAt_9 : decode cX6_messageAt 9 = .ok (.if_icmp .ge 21, 3) := by decide +kernel
theorem dX6_messageAt_12 : decode cX6_messageAt 12 = .ok (.iload_n 1, 1) := by decide +kernel
theorem dX6_messageAt_13 : decode cX6_messageAt 13 = .ok (.aload_n 0, 1) := by decide +kernel
theorem dX6_messageAt_14 : decode cX6_messageAt 14 = .ok (.getfield 18, 3) := by decide +kernel
theorem dX6_messageAt_17 : decode cX6_messageAt 17 = .ok (.arraylength, 1) := by decide +kernel
theorem dX6_messageAt_18 : decode cX6_messageAt 18 = .ok (.if_icmp .ge 12, 3) := by decide +kernel
theorem dX6_messageAt_21 : decode cX6_messageAt 21 = .ok (.aload_n 0, 1) := by decide +kernel
theorem dX6_messageAt_22 : decode cX6_messageAt 22 = .ok (.getfield 18, 3) := by decide +kernel
theorem dX6_messageAt_25 : decode cX6_messageAt 25 = .ok (.iload_n 1, 1) := by decide +kernel
theorem dX6_messageAt_26 : decode cX6_messageAt 26 = .ok (.aaload, 1) := by decide +kernel
theorem dX6_messageAt_27 : decode cX6_messageAt 27 = .ok (.ifnonnull 13, 3) := by decide +kernel
theorem dX6_messageAt_30 : decode cX6_messageAt 30 = .ok (.new 95, 3) := by decide +kernel
theorem dX6_messageAt_33 : decode cX6_messageAt 33 = .ok (.dup, 1) := by decide +kernel
theorem dX6_messageAt_34 : decode cX6_messageAt 34 = .ok (.ldc 165, 2) := by decide +kernel
theorem dX6_messageAt_36 : decode cX6_messageAt 36 = .ok (.invokespecial 99, 3) := by decide +kernel
theorem dX6_messageAt_39 : decode cX6_messageAt 39 = .ok (.athrow, 1) := by decide +kernel
theorem dX6_messageAt_40 : decode cX6_messageAt 40 = .ok (.aload_n 0, 1) := by decide +kernel
theorem dX6_messageAt_41 : decode cX6_messageAt 41 = .ok (.getfield 18, 3) := by decide +kernel
theorem dX6_messageAt_44 : decode cX6_messageAt 44 = .ok (.iload_n 1, 1) := by decide +kernel
theorem dX6_messageAt_45 : decode cX6_messageAt 45 = .ok (.aaload, 1) := by decide +kernel
theorem dX6_messageAt_46 : decode cX6_messageAt 46 = .ok (.areturn, 1) := by decide +kernel
theorem dX6_requireReceiver_0 : decode cX6_requireReceiver 0 = .ok (.iload_n 1, 1) := by decide +kernel
theorem dX6_requireReceiver_1 : decode cX6_requireReceiver 1 = .ok (.ifCond .lt 9, 3) := by decide +kernel
theorem dX6_requireReceiver_4 : decode cX6_requireReceiver 4 = .ok (.iload_n 1, 1) := by decide +kernel
theorem dX6_requireReceiver_5 : decode cX6_requireReceiver 5 = .ok (.bipush 9, 2) := by decide +kernel
theorem dX6_requireReceiver_7 : decode cX6_requireReceiver 7 = .ok (.if_icmp .lt 13, 3) := by decide +kernel
theorem dX6_requireReceiver_10 : decode cX6_requireReceiver 10 = .ok (.new 50, 3) := by decide +kernel
theorem dX6_requireReceiver_13 : decode cX6_requireReceiver 13 = .ok (.dup, 1) := by decide +kernel
theorem dX6_requireReceiver_14 : decode cX6_requireReceiver 14 = .ok (.ldc 167, 2) := by decide +kernel
theorem dX6_requireReceiver_16 : decode cX6_requireReceiver 16 = .ok (.invokespecial 54, 3) := by decide +kernel
theorem dX6_requireReceiver_19 : decode cX6_requireReceiver 19 = .ok (.athrow, 1) := by decide +kernel
theorem dX6_requireReceiver_20 : decode cX6_requireReceiver 20 = .ok (.return_, 1) := by decide +kernel
theorem dX6_finish_0 : decode cX6_finish 0 = .ok (.aload_n 1, 1) := by decide +kernel
theorem dX6_finish_1 : decode cX6_finish 1 = .ok (.iload_n 2, 1) := by decide +kernel
theorem dX6_finish_2 : decode cX6_finish 2 = .ok (.putfield 147, 3) := by decide +kernel
theorem dX6_finish_5 : decode cX6_finish 5 = .ok (.aload_n 1, 1) := by decide +kernel
theorem dX6_finish_6 : decode cX6_finish 6 = .ok (.getfield 121, 3) := by decide +kernel
theorem dX6_finish_9 : decode cX6_finish 9 = .ok (.getfield 125, 3) := by decide +kernel
theorem dX6_finish_12 : decode cX6_finish 12 = .ok (.aload_n 1, 1) := by decide +kernel
theorem dX6_finish_13 : decode cX6_finish 13 = .ok (.invokevirtual 169, 3) := by decide +kernel
theorem dX6_finish_16 : decode cX6_finish 16 = .ok (.aload_n 0, 1) := by decide +kernel
theorem dX6_finish_17 : decode cX6_finish 17 = .ok (.getfield 30, 3) := by decide +kernel
theorem dX6_finish_20 : decode cX6_finish 20 = .ok (.aload_n 0, 1) := by decide +kernel
theorem dX6_finish_21 : decode cX6_finish 21 = .ok (.getfield 26, 3) := by decide +kernel
theorem dX6_finish_24 : decode cX6_finish 24 = .ok (.arraylength, 1) := by decide +kernel
theorem dX6_finish_25 : decode cX6_finish 25 = .ok (.if_icmp .ge 31, 3) := by decide +kernel
theorem dX6_finish_28 : decode cX6_finish 28 = .ok (.aload_n 0, 1) := by decide +kernel
theorem dX6_finish_29 : decode cX6_finish 29 = .ok (.getfield 26, 3) := by decide +kernel
theorem dX6_finish_32 : decode cX6_finish 32 = .ok (.aload_n 0, 1) := by decide +kernel
theorem dX6_finish_33 : decode cX6_finish 33 = .ok (.getfield 30, 3) := by decide +kernel
theorem dX6_finish_36 : decode cX6_finish 36 = .ok (.bipush 10, 2) := by decide +kernel
theorem dX6_finish_38 : decode cX6_finish 38 = .ok (.aload_n 1, 1) := by decide +kernel
theorem dX6_finish_39 : decode cX6_finish 39 = .ok (.getfield 140, 3) := by decide +kernel
theorem dX6_finish_42 : decode cX6_finish 42 = .ok (.imul, 1) := by decide +kernel
theorem dX6_finish_43 : decode cX6_finish 43 = .ok (.iload_n 2, 1) := by decide +kernel
theorem dX6_finish_44 : decode cX6_finish 44 = .ok (.iadd, 1) := by decide +kernel
theorem dX6_finish_45 : decode cX6_finish 45 = .ok (.iastore, 1) := by decide +kernel
theorem dX6_finish_46 : decode cX6_finish 46 = .ok (.aload_n 0, 1) := by decide +kernel
theorem dX6_finish_47 : decode cX6_finish 47 = .ok (.dup, 1) := by decide +kernel
theorem dX6_finish_48 : decode cX6_finish 48 = .ok (.getfield 30, 3) := by decide +kernel
theorem dX6_finish_51 : decode cX6_finish 51 = .ok (.iconst 1, 1) := by decide +kernel
theorem dX6_finish_52 : decode cX6_finish 52 = .ok (.iadd, 1) := by decide +kernel
theorem dX6_finish_53 : decode cX6_finish 53 = .ok (.putfield 30, 3) := by decide +kernel
theorem dX6_finish_56 : decode cX6_finish 56 = .ok (.return_, 1) := by decide +kernel
theorem dX6_pass_0 : decode cX6_pass 0 = .ok (.iload_n 1, 1) := by decide +kernel
theorem dX6_pass_1 : decode cX6_pass 1 = .ok (.iconst 1, 1) := by decide +kernel
theorem dX6_pass_2 : decode cX6_pass 2 = .ok (.if_icmp .lt 10, 3) := by decide +kernel
theorem dX6_pass_5 : decode cX6_pass 5 = .ok (.iload_n 1, 1) := by decide +kernel
theorem dX6_pass_6 : decode cX6_pass 6 = .ok (.sipush 200, 3) := by decide +kernel
theorem dX6_pass_9 : decode cX6_pass 9 = .ok (.if_icmp .le 13, 3) := by decide +kernel
theorem dX6_pass_12 : decode cX6_pass 12 = .ok (.new 50, 3) := by decide +kernel
theorem dX6_pass_15 : decode cX6_pass 15 = .ok (.dup, 1) := by decide +kernel
theorem dX6_pass_16 : decode cX6_pass 16 = .ok (.ldc 173, 2) := by decide +kernel
theorem dX6_pass_18 : decode cX6_pass 18 = .ok (.invokespecial 54, 3) := by decide +kernel
theorem dX6_pass_21 : decode cX6_pass 21 = .ok (.athrow, 1) := by decide +kernel
theorem dX6_pass_22 : decode cX6_pass 22 = .ok (.iconst 0, 1) := by decide +kernel
theorem dX6_pass_23 : decode cX6_pass 23 = .ok (.istore_n 2, 1) := by decide +kernel
theorem dX6_pass_24 : decode cX6_pass 24 = .ok (.iconst 0, 1) := by decide +kernel
theorem dX6_pass_25 : decode cX6_pass 25 = .ok (.istore_n 3, 1) := by decide +kernel
theorem dX6_pass_26 : decode cX6_pass 26 = .ok (.iload_n 3, 1) := by decide +kernel
theorem dX6_pass_27 : decode cX6_pass 27 = .ok (.iload_n 1, 1) := by decide +kernel
theorem dX6_pass_28 : decode cX6_pass 28 = .ok (.if_icmp .ge 30, 3) := by decide +kernel
theorem dX6_pass_31 : decode cX6_pass 31 = .ok (.aload_n 0, 1) := by decide +kernel
theorem dX6_pass_32 : decode cX6_pass 32 = .ok (.dup, 1) := by decide +kernel
theorem dX6_pass_33 : decode cX6_pass 33 = .ok (.getfield 46, 3) := by decide +kernel
theorem dX6_pass_36 : decode cX6_pass 36 = .ok (.iconst 1, 1) := by decide +kernel
theorem dX6_pass_37 : decode cX6_pass 37 = .ok (.iadd, 1) := by decide +kernel
theorem dX6_pass_38 : decode cX6_pass 38 = .ok (.putfield 46, 3) := by decide +kernel
theorem dX6_pass_41 : decode cX6_pass 41 = .ok (.aload_n 0, 1) := by decide +kernel
theorem dX6_pass_42 : decode cX6_pass 42 = .ok (.invokevirtual 175, 3) := by decide +kernel
theorem dX6_pass_45 : decode cX6_pass 45 = .ok (.iload_n 2, 1) := by decide +kernel
theorem dX6_pass_46 : decode cX6_pass 46 = .ok (.aload_n 0, 1) := by decide +kernel
theorem dX6_pass_47 : decode cX6_pass 47 = .ok (.invokevirtual 178, 3) := by decide +kernel
theorem dX6_pass_50 : decode cX6_pass 50 = .ok (.iadd, 1) := by decide +kernel
theorem dX6_pass_51 : decode cX6_pass 51 = .ok (.istore_n 2, 1) := by decide +kernel
theorem dX6_pass_52 : decode cX6_pass 52 = .ok (.iinc 3 1, 3) := by decide +kernel
theorem dX6_pass_55 : decode cX6_pass 55 = .ok (.goto (-29), 3) := by decide +kernel
theorem dX6_pass_58 : decode cX6_pass 58 = .ok (.iload_n 2, 1) := by decide +kernel
theorem dX6_pass_59 : decode cX6_pass 59 = .ok (.ireturn, 1) := by decide +kernel
theorem dX6_time_0 : decode cX6_time 0 = .ok (.aload_n 0, 1) := by decide +kernel
theorem dX6_time_1 : decode cX6_time 1 = .ok (.getfield 46, 3) := by decide +kernel
theorem dX6_time_4 : decode cX6_time 4 = .ok (.ireturn, 1) := by decide +kernel
theorem dX6_toggleLink_0 : decode cX6_toggleLink 0 = .ok (.aload_n 0, 1) := by decide +kernel
theorem dX6_toggleLink_1 : decode cX6_toggleLink 1 = .ok (.iload_n 1, 1) := by decide +kernel
theorem dX6_toggleLink_2 : decode cX6_toggleLink 2 = .ok (.invokevirtual 182, 3) := by decide +kernel
theorem dX6_toggleLink_5 : decode cX6_toggleLink 5 = .ok (.astore_n 2, 1) := by decide +kernel
theorem dX6_toggleLink_6 : decode cX6_toggleLink 6 = .ok (.aload_n 2, 1) := by decide +kernel
theorem dX6_toggleLink_7 : decode cX6_toggleLink 7 = .ok (.getfield 185, 3) := by decide +kernel
theorem dX6_toggleLink_10 : decode cX6_toggleLink 10 = .ok (.ifCond .eq 14, 3) := by decide +kernel
theorem dX6_toggleLink_13 : decode cX6_toggleLink 13 = .ok (.aload_n 2, 1) := by decide +kernel
theorem dX6_toggleLink_14 : decode cX6_toggleLink 14 = .ok (.aload_n 0, 1) := by decide +kernel
theorem dX6_toggleLink_15 : decode cX6_toggleLink 15 = .ok (.getfield 46, 3) := by decide +kernel
theorem dX6_toggleLink_18 : decode cX6_toggleLink 18 = .ok (.invokevirtual 188, 3) := by decide +kernel
theorem dX6_toggleLink_21 : decode cX6_toggleLink 21 = .ok (.goto 8, 3) := by decide +kernel
theorem dX6_toggleLink_24 : decode cX6_toggleLink 24 = .ok (.aload_n 2, 1) := by decide +kernel
theorem dX6_toggleLink_25 : decode cX6_toggleLink 25 = .ok (.iconst 1, 1) := by decide +kernel
theorem dX6_toggleLink_26 : decode cX6_toggleLink 26 = .ok (.putfield 185, 3) := by decide +kernel
theorem dX6_toggleLink_29 : decode cX6_toggleLink 29 = .ok (.aload_n 2, 1) := by decide +kernel
theorem dX6_toggleLink_30 : decode cX6_toggleLink 30 = .ok (.getfield 185, 3) := by decide +kernel
theorem dX6_toggleLink_33 : decode cX6_toggleLink 33 = .ok (.ireturn, 1) := by decide +kernel
theorem dX6_setWindow_0 : decode cX6_setWindow 0 = .ok (.aload_n 0, 1) := by decide +kernel
theorem dX6_setWindow_1 : decode cX6_setWindow 1 = .ok (.iload_n 1, 1) := by decide +kernel
theorem dX6_setWindow_2 : decode cX6_setWindow 2 = .ok (.invokevirtual 182, 3) := by decide +kernel
theorem dX6_setWindow_5 : decode cX6_setWindow 5 = .ok (.astore_n 3, 1) := by decide +kernel
theorem dX6_setWindow_6 : decode cX6_setWindow 6 = .ok (.iload_n 2, 1) := by decide +kernel
theorem dX6_setWindow_7 : decode cX6_setWindow 7 = .ok (.iconst 1, 1) := by decide +kernel
theorem dX6_setWindow_8 : decode cX6_setWindow 8 = .ok (.if_icmp .lt 9, 3) := by decide +kernel
theorem dX6_setWindow_11 : decode cX6_setWindow 11 = .ok (.iload_n 2, 1) := by decide +kernel
theorem dX6_setWindow_12 : decode cX6_setWindow 12 = .ok (.bipush 10, 2) := by decide +kernel
theorem dX6_setWindow_14 : decode cX6_setWindow 14 = .ok (.if_icmp .le 13, 3) := by decide +kernel
theorem dX6_setWindow_17 : decode cX6_setWindow 17 = .ok (.new 50, 3) := by decide +kernel
theorem dX6_setWindow_20 : decode cX6_setWindow 20 = .ok (.dup, 1) := by decide +kernel
theorem dX6_setWindow_21 : decode cX6_setWindow 21 = .ok (.ldc 191, 2) := by decide +kernel
theorem dX6_setWindow_23 : decode cX6_setWindow 23 = .ok (.invokespecial 54, 3) := by decide +kernel
theorem dX6_setWindow_26 : decode cX6_setWindow 26 = .ok (.athrow, 1) := by decide +kernel
theorem dX6_setWindow_27 : decode cX6_setWindow 27 = .ok (.aload_n 3, 1) := by decide +kernel
theorem dX6_setWindow_28 : decode cX6_setWindow 28 = .ok (.getfield 193, 3) := by decide +kernel
theorem dX6_setWindow_31 : decode cX6_setWindow 31 = .ok (.istore 4, 2) := by decide +kernel
theorem dX6_setWindow_33 : decode cX6_setWindow 33 = .ok (.aload_n 3, 1) := by decide +kernel
theorem dX6_setWindow_34 : decode cX6_setWindow 34 = .ok (.iload_n 2, 1) := by decide +kernel
theorem dX6_setWindow_35 : decode cX6_setWindow 35 = .ok (.putfield 193, 3) := by decide +kernel
theorem dX6_setWindow_38 : decode cX6_setWindow 38 = .ok (.iload 4, 2) := by decide +kernel
theorem dX6_setWindow_40 : decode cX6_setWindow 40 = .ok (.ireturn, 1) := by decide +kernel
theorem dX6_queued_0 : decode cX6_queued 0 = .ok (.aload_n 0, 1) := by decide +kernel
theorem dX6_queued_1 : decode cX6_queued 1 = .ok (.iload_n 1, 1) := by decide +kernel
theorem dX6_queued_2 : decode cX6_queued 2 = .ok (.invokevirtual 182, 3) := by decide +kernel
theorem dX6_queued_5 : decode cX6_queued 5 = .ok (.getfield 125, 3) := by decide +kernel
theorem dX6_queued_8 : decode cX6_queued 8 = .ok (.getfield 196, 3) := by decide +kernel
theorem dX6_queued_11 : decode cX6_queued 11 = .ok (.ireturn, 1) := by decide +kernel
theorem dX6_underWay_0 : decode cX6_underWay 0 = .ok (.aload_n 0, 1) := by decide +kernel
theorem dX6_underWay_1 : decode cX6_underWay 1 = .ok (.iload_n 1, 1) := by decide +kernel
theorem dX6_underWay_2 : decode cX6_underWay 2 = .ok (.invokevirtual 182, 3) := by decide +kernel
theorem dX6_underWay_5 : decode cX6_underWay 5 = .ok (.getfield 197, 3) := by decide +kernel
theorem dX6_underWay_8 : decode cX6_underWay 8 = .ok (.getfield 196, 3) := by decide +kernel
theorem dX6_underWay_11 : decode cX6_underWay 11 = .ok (.ireturn, 1) := by decide +kernel
theorem dX6_tokens_0 : decode cX6_tokens 0 = .ok (.aload_n 0, 1) := by decide +kernel
theorem dX6_tokens_1 : decode cX6_tokens 1 = .ok (.iload_n 1, 1) := by decide +kernel
theorem dX6_tokens_2 : decode cX6_tokens 2 = .ok (.invokevirtual 182, 3) := by decide +kernel
theorem dX6_tokens_5 : decode cX6_tokens 5 = .ok (.getfield 200, 3) := by decide +kernel
theorem dX6_tokens_8 : decode cX6_tokens 8 = .ok (.ireturn, 1) := by decide +kernel
theorem dX6_acknowledge_0 : decode cX6_acknowledge 0 = .ok (.aload_n 0, 1) := by decide +kernel
theorem dX6_acknowledge_1 : decode cX6_acknowledge 1 = .ok (.iload_n 1, 1) := by decide +kernel
theorem dX6_acknowledge_2 : decode cX6_acknowledge 2 = .ok (.invokevirtual 182, 3) := by decide +kernel
theorem dX6_acknowledge_5 : decode cX6_acknowledge 5 = .ok (.astore_n 3, 1) := by decide +kernel
theorem dX6_acknowledge_6 : decode cX6_acknowledge 6 = .ok (.iload_n 2, 1) := by decide +kernel
theorem dX6_acknowledge_7 : decode cX6_acknowledge 7 = .ok (.ifCond .lt 8, 3) := by decide +kernel
theorem dX6_acknowledge_10 : decode cX6_acknowledge 10 = .ok (.iload_n 2, 1) := by decide +kernel
theorem dX6_acknowledge_11 : decode cX6_acknowledge 11 = .ok (.iconst 3, 1) := by decide +kernel
theorem dX6_acknowledge_12 : decode cX6_acknowledge 12 = .ok (.if_icmp .le 13, 3) := by decide +kernel
theorem dX6_acknowledge_15 : decode cX6_acknowledge 15 = .ok (.new 50, 3) := by decide +kernel
theorem dX6_acknowledge_18 : decode cX6_acknowledge 18 = .ok (.dup, 1) := by decide +kernel
theorem dX6_acknowledge_19 : decode cX6_acknowledge 19 = .ok (.ldc 203, 2) := by decide +kernel
theorem dX6_acknowledge_21 : decode cX6_acknowledge 21 = .ok (.invokespecial 54, 3) := by decide +kernel
theorem dX6_acknowledge_24 : decode cX6_acknowledge 24 = .ok (.athrow, 1) := by decide +kernel
theorem dX6_acknowledge_25 : decode cX6_acknowledge 25 = .ok (.aload_n 3, 1) := by decide +kernel
theorem dX6_acknowledge_26 : decode cX6_acknowledge 26 = .ok (.getfield 197, 3) := by decide +kernel
theorem dX6_acknowledge_29 : decode cX6_acknowledge 29 = .ok (.iconst 0, 1) := by decide +kernel
theorem dX6_acknowledge_30 : decode cX6_acknowledge 30 = .ok (.invokevirtual 205, 3) := by decide +kernel
theorem dX6_acknowledge_33 : decode cX6_acknowledge 33 = .ok (.astore 4, 2) := by decide +kernel
theorem dX6_acknowledge_35 : decode cX6_acknowledge 35 = .ok (.aload 4, 2) := by decide +kernel
theorem dX6_acknowledge_37 : decode cX6_acknowledge 37 = .ok (.ifnonnull 13, 3) := by decide +kernel
theorem dX6_acknowledge_40 : decode cX6_acknowledge 40 = .ok (.new 60, 3) := by decide +kernel
theorem dX6_acknowledge_43 : decode cX6_acknowledge 43 = .ok (.dup, 1) := by decide +kernel
theorem dX6_acknowledge_44 : decode cX6_acknowledge 44 = .ok (.ldc 209, 2) := by decide +kernel
theorem dX6_acknowledge_46 : decode cX6_acknowledge 46 = .ok (.invokespecial 64, 3) := by decide +kernel
theorem dX6_acknowledge_49 : decode cX6_acknowledge 49 = .ok (.athrow, 1) := by decide +kernel
theorem dX6_acknowledge_50 : decode cX6_acknowledge 50 = .ok (.aload 4, 2) := by decide +kernel
theorem dX6_acknowledge_52 : decode cX6_acknowledge 52 = .ok (.getfield 211, 3) := by decide +kernel
theorem dX6_acknowledge_55 : decode cX6_acknowledge 55 = .ok (.getfield 147, 3) := by decide +kernel
theorem dX6_acknowledge_58 : decode cX6_acknowledge 58 = .ok (.ifCond .ne 10, 3) := by decide +kernel
theorem dX6_acknowledge_61 : decode cX6_acknowledge 61 = .ok (.aload_n 0, 1) := by decide +kernel
theorem dX6_acknowledge_62 : decode cX6_acknowledge 62 = .ok (.aload 4, 2) := by decide +kernel
theorem dX6_acknowledge_64 : decode cX6_acknowledge 64 = .ok (.iload_n 2, 1) := by decide +kernel
theorem dX6_acknowledge_65 : decode cX6_acknowledge 65 = .ok (.invokevirtual 215, 3) := by decide +kernel
theorem dX6_acknowledge_68 : decode cX6_acknowledge 68 = .ok (.bipush 10, 2) := by decide +kernel
theorem dX6_acknowledge_70 : decode cX6_acknowledge 70 = .ok (.aload 4, 2) := by decide +kernel
theorem dX6_acknowledge_72 : decode cX6_acknowledge 72 = .ok (.getfield 211, 3) := by decide +kernel
theorem dX6_acknowledge_75 : decode cX6_acknowledge 75 = .ok (.getfield 140, 3) := by decide +kernel
theorem dX6_acknowledge_78 : decode cX6_acknowledge 78 = .ok (.imul, 1) := by decide +kernel
theorem dX6_acknowledge_79 : decode cX6_acknowledge 79 = .ok (.aload 4, 2) := by decide +kernel
theorem dX6_acknowledge_81 : decode cX6_acknowledge 81 = .ok (.getfield 219, 3) := by decide +kernel
theorem dX6_acknowledge_84 : decode cX6_acknowledge 84 = .ok (.iadd, 1) := by decide +kernel
theorem dX6_acknowledge_85 : decode cX6_acknowledge 85 = .ok (.ireturn, 1) := by decide +kernel
theorem dX6_alert_0 : decode cX6_alert 0 = .ok (.aload_n 0, 1) := by decide +kernel
theorem dX6_alert_1 : decode cX6_alert 1 = .ok (.iload_n 1, 1) := by decide +kernel
theorem dX6_alert_2 : decode cX6_alert 2 = .ok (.invokevirtual 106, 3) := by decide +kernel
theorem dX6_alert_5 : decode cX6_alert 5 = .ok (.aload_n 0, 1) := by decide +kernel
theorem dX6_alert_6 : decode cX6_alert 6 = .ok (.iload_n 1, 1) := by decide +kernel
theorem dX6_alert_7 : decode cX6_alert 7 = .ok (.invokevirtual 113, 3) := by decide +kernel
theorem dX6_alert_10 : decode cX6_alert 10 = .ok (.getfield 125, 3) := by decide +kernel
theorem dX6_alert_13 : decode cX6_alert 13 = .ok (.iload_n 1, 1) := by decide +kernel
theorem dX6_alert_14 : decode cX6_alert 14 = .ok (.invokevirtual 220, 3) := by decide +kernel
theorem dX6_alert_17 : decode cX6_alert 17 = .ok (.ireturn, 1) := by decide +kernel
theorem dX6_linkAt_0 : decode cX6_linkAt 0 = .ok (.iload_n 1, 1) := by decide +kernel
theorem dX6_linkAt_1 : decode cX6_linkAt 1 = .ok (.ifCond .lt 12, 3) := by decide +kernel
theorem dX6_linkAt_4 : decode cX6_linkAt 4 = .ok (.iload_n 1, 1) := by decide +kernel
theorem dX6_linkAt_5 : decode cX6_linkAt 5 = .ok (.aload_n 0, 1) := by decide +kernel
theorem dX6_linkAt_6 : decode cX6_linkAt 6 = .ok (.getfield 35, 3) := by decide +kernel
theorem dX6_linkAt_9 : decode cX6_linkAt 9 = .ok (.arraylength, 1) := by decide +kernel
theorem dX6_linkAt_10 : decode cX6_linkAt 10 = .ok (.if_icmp .lt 13, 3) := by decide +kernel
theorem dX6_linkAt_13 : decode cX6_linkAt 13 = .ok (.new 95, 3) := by decide +kernel
theorem dX6_linkAt_16 : decode cX6_linkAt 16 = .ok (.dup, 1) := by decide +kernel
theorem dX6_linkAt_17 : decode cX6_linkAt 17 = .ok (.ldc 223, 2) := by decide +kernel
theorem dX6_linkAt_19 : decode cX6_linkAt 19 = .ok (.invokespecial 99, 3) := by decide +kernel
theorem dX6_linkAt_22 : decode cX6_linkAt 22 = .ok (.athrow, 1) := by decide +kernel
theorem dX6_linkAt_23 : decode cX6_linkAt 23 = .ok (.aload_n 0, 1) := by decide +kernel
theorem dX6_linkAt_24 : decode cX6_linkAt 24 = .ok (.getfield 35, 3) := by decide +kernel
theorem dX6_linkAt_27 : decode cX6_linkAt 27 = .ok (.iload_n 1, 1) := by decide +kernel
theorem dX6_linkAt_28 : decode cX6_linkAt 28 = .ok (.aaload, 1) := by decide +kernel
theorem dX6_linkAt_29 : decode cX6_linkAt 29 = .ok (.areturn, 1) := by decide +kernel
theorem dX6_linkOf_0 : decode cX6_linkOf 0 = .ok (.aload_n 0, 1) := by decide +kernel
theorem dX6_linkOf_1 : decode cX6_linkOf 1 = .ok (.iload_n 1, 1) := by decide +kernel
theorem dX6_linkOf_2 : decode cX6_linkOf 2 = .ok (.iconst 3, 1) := by decide +kernel
theorem dX6_linkOf_3 : decode cX6_linkOf 3 = .ok (.irem, 1) := by decide +kernel
theorem dX6_linkOf_4 : decode cX6_linkOf 4 = .ok (.invokevirtual 182, 3) := by decide +kernel
theorem dX6_linkOf_7 : decode cX6_linkOf 7 = .ok (.areturn, 1) := by decide +kernel
theorem dX6_expireMessages_0 : decode cX6_expireMessages 0 = .ok (.iconst 0, 1) := by decide +kernel
theorem dX6_expireMessages_1 : decode cX6_expireMessages 1 = .ok (.istore_n 1, 1) := by decide +kernel
theorem dX6_expireMessages_2 : decode cX6_expireMessages 2 = .ok (.iload_n 1, 1) := by decide +kernel
theorem dX6_expireMessages_3 : decode cX6_expireMessages 3 = .ok (.aload_n 0, 1) := by decide +kernel
theorem dX6_expireMessages_4 : decode cX6_expireMessages 4 = .ok (.getfield 22, 3) := by decide +kernel
theorem dX6_expireMessages_7 : decode cX6_expireMessages 7 = .ok (.if_icmp .ge 53, 3) := by decide +kernel
theorem dX6_expireMessages_10 : decode cX6_expireMessages 10 = .ok (.iload_n 1, 1) := by decide +kernel
theorem dX6_expireMessages_11 : decode cX6_expireMessages 11 = .ok (.aload_n 0, 1) := by decide +kernel
theorem dX6_expireMessages_12 : decode cX6_expireMessages 12 = .ok (.getfield 18, 3) := by decide +kernel
theorem dX6_expireMessages_15 : decode cX6_expireMessages 15 = .ok (.arraylength, 1) := by decide +kernel
theorem dX6_expireMessages_16 : decode cX6_expireMessages 16 = .ok (.if_icmp .ge 44, 3) := by decide +kernel
theorem dX6_expireMessages_19 : decode cX6_expireMessages 19 = .ok (.aload_n 0, 1) := by decide +kernel
theorem dX6_expireMessages_20 : decode cX6_expireMessages 20 = .ok (.getfield 18, 3) := by decide +kernel
theorem dX6_expireMessages_23 : decode cX6_expireMessages 23 = .ok (.iload_n 1, 1) := by decide +kernel
theorem dX6_expireMessages_24 : decode cX6_expireMessages 24 = .ok (.aaload, 1) := by decide +kernel
theorem dX6_expireMessages_25 : decode cX6_expireMessages 25 = .ok (.astore_n 2, 1) := by decide +kernel
theorem dX6_expireMessages_26 : decode cX6_expireMessages 26 = .ok (.aload_n 2, 1) := by decide +kernel
theorem dX6_expireMessages_27 : decode cX6_expireMessages 27 = .ok (.ifnull 27, 3) := by decide +kernel
theorem dX6_expireMessages_30 : decode cX6_expireMessages 30 = .ok (.aload_n 2, 1) := by decide +kernel
theorem dX6_expireMessages_31 : decode cX6_expireMessages 31 = .ok (.getfield 147, 3) := by decide +kernel
theorem dX6_expireMessages_34 : decode cX6_expireMessages 34 = .ok (.ifCond .ne 20, 3) := by decide +kernel
theorem dX6_expireMessages_37 : decode cX6_expireMessages 37 = .ok (.aload_n 0, 1) := by decide +kernel
theorem dX6_expireMessages_38 : decode cX6_expireMessages 38 = .ok (.getfield 46, 3) := by decide +kernel
theorem dX6_expireMessages_41 : decode cX6_expireMessages 41 = .ok (.aload_n 2, 1) := by decide +kernel
theorem dX6_expireMessages_42 : decode cX6_expireMessages 42 = .ok (.getfield 225, 3) := by decide +kernel
theorem dX6_expireMessages_45 : decode cX6_expireMessages 45 = .ok (.if_icmp .lt 9, 3) := by decide +kernel
theorem dX6_expireMessages_48 : decode cX6_expireMessages 48 = .ok (.aload_n 0, 1) := by decide +kernel
theorem dX6_expireMessages_49 : decode cX6_expireMessages 49 = .ok (.aload_n 2, 1) := by decide +kernel
theorem dX6_expireMessages_50 : decode cX6_expireMessages 50 = .ok (.iconst 3, 1) := by decide +kernel
theorem dX6_expireMessages_51 : decode cX6_expireMessages 51 = .ok (.invokevirtual 228, 3) := by decide +kernel
theorem dX6_expireMessages_54 : decode cX6_expireMessages 54 = .ok (.iinc 1 1, 3) := by decide +kernel
theorem dX6_expireMessages_57 : decode cX6_expireMessages 57 = .ok (.goto (-55), 3) := by decide +kernel
theorem dX6_expireMessages_60 : decode cX6_expireMessages 60 = .ok (.return_, 1) := by decide +kernel
theorem dX6_sendParts_0 : decode cX6_sendParts 0 = .ok (.iconst 0, 1) := by decide +kernel
theorem dX6_sendParts_1 : decode cX6_sendParts 1 = .ok (.istore_n 1, 1) := by decide +kernel
theorem dX6_sendParts_2 : decode cX6_sendParts 2 = .ok (.iconst 0, 1) := by decide +kernel
theorem dX6_sendParts_3 : decode cX6_sendParts 3 = .ok (.istore_n 2, 1) := by decide +kernel
theorem dX6_sendParts_4 : decode cX6_sendParts 4 = .ok (.iload_n 2, 1) := by decide +kernel
theorem dX6_sendParts_5 : decode cX6_sendParts 5 = .ok (.aload_n 0, 1) := by decide +kernel
theorem dX6_sendParts_6 : decode cX6_sendParts 6 = .ok (.getfield 35, 3) := by decide +kernel
theorem dX6_sendParts_9 : decode cX6_sendParts 9 = .ok (.arraylength, 1) := by decide +kernel
theorem dX6_sendParts_10 : decode cX6_sendParts 10 = .ok (.if_icmp .ge 34, 3) := by decide +kernel
theorem dX6_sendParts_13 : decode cX6_sendParts 13 = .ok (.aload_n 0, 1) := by decide +kernel
theorem dX6_sendParts_14 : decode cX6_sendParts 14 = .ok (.getfield 35, 3) := by decide +kernel
theorem dX6_sendParts_17 : decode cX6_sendParts 17 = .ok (.iload_n 2, 1) := by decide +kernel
theorem dX6_sendParts_18 : decode cX6_sendParts 18 = .ok (.aaload, 1) := by decide +kernel
theorem dX6_sendParts_19 : decode cX6_sendParts 19 = .ok (.invokevirtual 232, 3) := by decide +kernel
theorem dX6_sendParts_22 : decode cX6_sendParts 22 = .ok (.iload_n 1, 1) := by decide +kernel
theorem dX6_sendParts_23 : decode cX6_sendParts 23 = .ok (.aload_n 0, 1) := by decide +kernel
theorem dX6_sendParts_24 : decode cX6_sendParts 24 = .ok (.getfield 35, 3) := by decide +kernel
theorem dX6_sendParts_27 : decode cX6_sendParts 27 = .ok (.iload_n 2, 1) := by decide +kernel
theorem dX6_sendParts_28 : decode cX6_sendParts 28 = .ok (.aaload, 1) := by decide +kernel
theorem dX6_sendParts_29 : decode cX6_sendParts 29 = .ok (.aload_n 0, 1) := by decide +kernel
theorem dX6_sendParts_30 : decode cX6_sendParts 30 = .ok (.getfield 46, 3) := by decide +kernel
theorem dX6_sendParts_33 : decode cX6_sendParts 33 = .ok (.invokevirtual 235, 3) := by decide +kernel
theorem dX6_sendParts_36 : decode cX6_sendParts 36 = .ok (.iadd, 1) := by decide +kernel
theorem dX6_sendParts_37 : decode cX6_sendParts 37 = .ok (.istore_n 1, 1) := by decide +kernel
theorem dX6_sendParts_38 : decode cX6_sendParts 38 = .ok (.iinc 2 1, 3) := by decide +kernel
theorem dX6_sendParts_41 : decode cX6_sendParts 41 = .ok (.goto (-37), 3) := by decide +kernel
theorem dX6_sendParts_44 : decode cX6_sendParts 44 = .ok (.iload_n 1, 1) := by decide +kernel
theorem dX6_sendParts_45 : decode cX6_sendParts 45 = .ok (.ireturn, 1) := by decide +kernel
theorem dX6_settle_0 : decode cX6_settle 0 = .ok (.aload_n 1, 1) := by decide +kernel
theorem dX6_settle_1 : decode cX6_settle 1 = .ok (.getfield 211, 3) := by decide +kernel
theorem dX6_settle_4 : decode cX6_settle 4 = .ok (.astore_n 3, 1) := by decide +kernel
theorem dX6_settle_5 : decode cX6_settle 5 = .ok (.iload_n 2, 1) := by decide +kernel
theorem dX6_settle_6 : decode cX6_settle 6 = .ok (.tableswitch 125 0 2 #[26, 50, 106], 26) := by decide +kernel
theorem dX6_settle_32 : decode cX6_settle 32 = .ok (.aload_n 3, 1) := by decide +kernel
theorem dX6_settle_33 : decode cX6_settle 33 = .ok (.aload_n 1, 1) := by decide +kernel
theorem dX6_settle_34 : decode cX6_settle 34 = .ok (.getfield 219, 3) := by decide +kernel
theorem dX6_settle_37 : decode cX6_settle 37 = .ok (.invokevirtual 238, 3) := by decide +kernel
theorem dX6_settle_40 : decode cX6_settle 40 = .ok (.aload_n 3, 1) := by decide +kernel
theorem dX6_settle_41 : decode cX6_settle 41 = .ok (.getfield 150, 3) := by decide +kernel
theorem dX6_settle_44 : decode cX6_settle 44 = .ok (.ifCond .ne 93, 3) := by decide +kernel
theorem dX6_settle_47 : decode cX6_settle 47 = .ok (.aload_n 0, 1) := by decide +kernel
theorem dX6_settle_48 : decode cX6_settle 48 = .ok (.aload_n 3, 1) := by decide +kernel
theorem dX6_settle_49 : decode cX6_settle 49 = .ok (.iconst 1, 1) := by decide +kernel
theorem dX6_settle_50 : decode cX6_settle 50 = .ok (.invokevirtual 228, 3) := by decide +kernel
theorem dX6_settle_53 : decode cX6_settle 53 = .ok (.goto 84, 3) := by decide +kernel
theorem dX6_settle_56 : decode cX6_settle 56 = .ok (.aload_n 1, 1) := by decide +kernel
theorem dX6_settle_57 : decode cX6_settle 57 = .ok (.dup, 1) := by decide +kernel
theorem dX6_settle_58 : decode cX6_settle 58 = .ok (.getfield 241, 3) := by decide +kernel
theorem dX6_settle_61 : decode cX6_settle 61 = .ok (.iconst 1, 1) := by decide +kernel
theorem dX6_settle_62 : decode cX6_settle 62 = .ok (.iadd, 1) := by decide +kernel
theorem dX6_settle_63 : decode cX6_settle 63 = .ok (.putfield 241, 3) := by decide +kernel
theorem dX6_settle_66 : decode cX6_settle 66 = .ok (.aload_n 1, 1) := by decide +kernel
theorem dX6_settle_67 : decode cX6_settle 67 = .ok (.getfield 241, 3) := by decide +kernel
theorem dX6_settle_70 : decode cX6_settle 70 = .ok (.iconst 4, 1) := by decide +kernel
theorem dX6_settle_71 : decode cX6_settle 71 = .ok (.if_icmp .lt 12, 3) := by decide +kernel
theorem dX6_settle_74 : decode cX6_settle 74 = .ok (.aload_n 0, 1) := by decide +kernel
theorem dX6_settle_75 : decode cX6_settle 75 = .ok (.aload_n 3, 1) := by decide +kernel
theorem dX6_settle_76 : decode cX6_settle 76 = .ok (.iconst 2, 1) := by decide +kernel
theorem dX6_settle_77 : decode cX6_settle 77 = .ok (.invokevirtual 228, 3) := by decide +kernel
theorem dX6_settle_80 : decode cX6_settle 80 = .ok (.goto 57, 3) := by decide +kernel
theorem dX6_settle_83 : decode cX6_settle 83 = .ok (.aload_n 1, 1) := by decide +kernel
theorem dX6_settle_84 : decode cX6_settle 84 = .ok (.aload_n 0, 1) := by decide +kernel
theorem dX6_settle_85 : decode cX6_settle 85 = .ok (.getfield 46, 3) := by decide +kernel
theorem dX6_settle_88 : decode cX6_settle 88 = .ok (.iconst 1, 1) := by decide +kernel
theorem dX6_settle_89 : decode cX6_settle 89 = .ok (.aload_n 1, 1) := by decide +kernel
theorem dX6_settle_90 : decode cX6_settle 90 = .ok (.getfield 241, 3) := by decide +kernel
theorem dX6_settle_93 : decode cX6_settle 93 = .ok (.ishl, 1) := by decide +kernel
theorem dX6_settle_94 : decode cX6_settle 94 = .ok (.iadd, 1) := by decide +kernel
theorem dX6_settle_95 : decode cX6_settle 95 = .ok (.putfield 244, 3) := by decide +kernel
theorem dX6_settle_98 : decode cX6_settle 98 = .ok (.aload_n 3, 1) := by decide +kernel
theorem dX6_settle_99 : decode cX6_settle 99 = .ok (.getfield 121, 3) := by decide +kernel
theorem dX6_settle_102 : decode cX6_settle 102 = .ok (.getfield 125, 3) := by decide +kernel
theorem dX6_settle_105 : decode cX6_settle 105 = .ok (.aload_n 1, 1) := by decide +kernel
theorem dX6_settle_106 : decode cX6_settle 106 = .ok (.invokevirtual 134, 3) := by decide +kernel
theorem dX6_settle_109 : decode cX6_settle 109 = .ok (.goto 28, 3) := by decide +kernel
theorem dX6_settle_112 : decode cX6_settle 112 = .ok (.aload_n 1, 1) := by decide +kernel
theorem dX6_settle_113 : decode cX6_settle 113 = .ok (.iconst 1, 1) := by decide +kernel
theorem dX6_settle_114 : decode cX6_settle 114 = .ok (.putfield 247, 3) := by decide +kernel
theorem dX6_settle_117 : decode cX6_settle 117 = .ok (.aload_n 3, 1) := by decide +kernel
theorem dX6_settle_118 : decode cX6_settle 118 = .ok (.getfield 121, 3) := by decide +kernel
theorem dX6_settle_121 : decode cX6_settle 121 = .ok (.getfield 125, 3) := by decide +kernel
theorem dX6_settle_124 : decode cX6_settle 124 = .ok (.aload_n 1, 1) := by decide +kernel
theorem dX6_settle_125 : decode cX6_settle 125 = .ok (.invokevirtual 134, 3) := by decide +kernel
theorem dX6_settle_128 : decode cX6_settle 128 = .ok (.goto 9, 3) := by decide +kernel
theorem dX6_settle_131 : decode cX6_settle 131 = .ok (.aload_n 0, 1) := by decide +kernel
theorem dX6_settle_132 : decode cX6_settle 132 = .ok (.aload_n 3, 1) := by decide +kernel
theorem dX6_settle_133 : decode cX6_settle 133 = .ok (.iconst 2, 1) := by decide +kernel
theorem dX6_settle_134 : decode cX6_settle 134 = .ok (.invokevirtual 228, 3) := by decide +kernel
theorem dX6_settle_137 : decode cX6_settle 137 = .ok (.return_, 1) := by decide +kernel
theorem dX6_setKeyword_0 : decode cX6_setKeyword 0 = .ok (.iload_n 1, 1) := by decide +kernel
theorem dX6_setKeyword_1 : decode cX6_setKeyword 1 = .ok (.ifCond .le 20, 3) := by decide +kernel
theorem dX6_setKeyword_4 : decode cX6_setKeyword 4 = .ok (.iload_n 1, 1) := by decide +kernel
theorem dX6_setKeyword_5 : decode cX6_setKeyword 5 = .ok (.iconst 5, 1) := by decide +kernel
theorem dX6_setKeyword_6 : decode cX6_setKeyword 6 = .ok (.if_icmp .ge 15, 3) := by decide +kernel
theorem dX6_setKeyword_9 : decode cX6_setKeyword 9 = .ok (.iload_n 2, 1) := by decide +kernel
theorem dX6_setKeyword_10 : decode cX6_setKeyword 10 = .ok (.iconst (-1), 1) := by decide +kernel
theorem dX6_setKeyword_11 : decode cX6_setKeyword 11 = .ok (.if_icmp .lt 10, 3) := by decide +kernel
theorem dX6_setKeyword_14 : decode cX6_setKeyword 14 = .ok (.iload_n 2, 1) := by decide +kernel
theorem dX6_setKeyword_15 : decode cX6_setKeyword 15 = .ok (.sipush 999, 3) := by decide +kernel
theorem dX6_setKeyword_18 : decode cX6_setKeyword 18 = .ok (.if_icmp .le 13, 3) := by decide +kernel
theorem dX6_setKeyword_21 : decode cX6_setKeyword 21 = .ok (.new 50, 3) := by decide +kernel
theorem dX6_setKeyword_24 : decode cX6_setKeyword 24 = .ok (.dup, 1) := by decide +kernel
theorem dX6_setKeyword_25 : decode cX6_setKeyword 25 = .ok (.ldc 250, 2) := by decide +kernel
theorem dX6_setKeyword_27 : decode cX6_setKeyword 27 = .ok (.invokespecial 54, 3) := by decide +kernel
theorem dX6_setKeyword_30 : decode cX6_setKeyword 30 = .ok (.athrow, 1) := by decide +kernel
theorem dX6_setKeyword_31 : decode cX6_setKeyword 31 = .ok (.aload_n 0, 1) := by decide +kernel
theorem dX6_setKeyword_32 : decode cX6_setKeyword 32 = .ok (.getfield 42, 3) := by decide +kernel
theorem dX6_setKeyword_35 : decode cX6_setKeyword 35 = .ok (.iload_n 1, 1) := by decide +kernel
theorem dX6_setKeyword_36 : decode cX6_setKeyword 36 = .ok (.iload_n 2, 1) := by decide +kernel
theorem dX6_setKeyword_37 : decode cX6_setKeyword 37 = .ok (.invokevirtual 252, 3) := by decide +kernel
theorem dX6_setKeyword_40 : decode cX6_setKeyword 40 = .ok (.return_, 1) := by decide +kernel
theorem dX6_come_0 : decode cX6_come 0 = .ok (.iload_n 1, 1) := by decide +kernel
theorem dX6_come_1 : decode cX6_come 1 = .ok (.ifCond .lt 20, 3) := by decide +kernel
theorem dX6_come_4 : decode cX6_come 4 = .ok (.iload_n 1, 1) := by decide +kernel
theorem dX6_come_5 : decode cX6_come 5 = .ok (.bipush 9, 2) := by decide +kernel
theorem dX6_come_7 : decode cX6_come 7 = .ok (.if_icmp .ge 14, 3) := by decide +kernel
theorem dX6_come_10 : decode cX6_come 10 = .ok (.iload_n 2, 1) := by decide +kernel
theorem dX6_come_11 : decode cX6_come 11 = .ok (.ifCond .lt 10, 3) := by decide +kernel
theorem dX6_come_14 : decode cX6_come 14 = .ok (.iload_n 2, 1) := by decide +kernel
theorem dX6_come_15 : decode cX6_come 15 = .ok (.sipush 999, 3) := by decide +kernel
theorem dX6_come_18 : decode cX6_come 18 = .ok (.if_icmp .le 13, 3) := by decide +kernel
theorem dX6_come_21 : decode cX6_come 21 = .ok (.new 50, 3) := by decide +kernel
theorem dX6_come_24 : decode cX6_come 24 = .ok (.dup, 1) := by decide +kernel
theorem dX6_come_25 : decode cX6_come 25 = .ok (.ldc 255, 2) := by decide +kernel
theorem dX6_come_27 : decode cX6_come 27 = .ok (.invokespecial 54, 3) := by decide +kernel
theorem dX6_come_30 : decode cX6_come 30 = .ok (.athrow, 1) := by decide +kernel
theorem dX6_come_31 : decode cX6_come 31 = .ok (.aload_n 0, 1) := by decide +kernel
theorem dX6_come_32 : decode cX6_come 32 = .ok (.getfield 42, 3) := by decide +kernel
theorem dX6_come_35 : decode cX6_come 35 = .ok (.iload_n 1, 1) := by decide +kernel
theorem dX6_come_36 : decode cX6_come 36 = .ok (.iload_n 2, 1) := by decide +kernel
theorem dX6_come_37 : decode cX6_come 37 = .ok (.aload_n 0, 1) := by decide +kernel
theorem dX6_come_38 : decode cX6_come 38 = .ok (.getfield 46, 3) := by decide +kernel
theorem dX6_come_41 : decode cX6_come 41 = .ok (.invokevirtual 257, 3) := by decide +kernel
theorem dX6_come_44 : decode cX6_come 44 = .ok (.ireturn, 1) := by decide +kernel
theorem dJ9_min_7cf53_0 : decode cJ9_min_7cf53 0 = .ok (.iload_n 0, 1) := by decide +kernel
theorem dJ9_min_7cf53_1 : decode cJ9_min_7cf53 1 = .ok (.iload_n 1, 1) := by decide +kernel
theorem dJ9_min_7cf53_2 : decode cJ9_min_7cf53 2 = .ok (.if_icmp .gt 7, 3) := by decide +kernel
theorem dJ9_min_7cf53_5 : decode cJ9_min_7cf53 5 = .ok (.iload_n 0, 1) := by decide +kernel
theorem dJ9_min_7cf53_6 : decode cJ9_min_7cf53 6 = .ok (.goto 4, 3) := by decide +kernel
theorem dJ9_min_7cf53_9 : decode cJ9_min_7cf53 9 = .ok (.iload_n 1, 1) := by decide +kernel
theorem dJ9_min_7cf53_10 : decode cJ9_min_7cf53 10 = .ok (.ireturn, 1) := by decide +kernel
theorem dJ7_fill_53178_0 : decode cJ7_fill_53178 0 = .ok (.iconst 0, 1) := by decide +kernel
theorem dJ7_fill_53178_1 : decode cJ7_fill_53178 1 = .ok (.istore_n 2, 1) := by decide +kernel
theorem dJ7_fill_53178_2 : decode cJ7_fill_53178 2 = .ok (.aload_n 0, 1) := by decide +kernel
theorem dJ7_fill_53178_3 : decode cJ7_fill_53178 3 = .ok (.arraylength, 1) := by decide +kernel
theorem dJ7_fill_53178_4 : decode cJ7_fill_53178 4 = .ok (.istore_n 3, 1) := by decide +kernel
theorem dJ7_fill_53178_5 : decode cJ7_fill_53178 5 = .ok (.iload_n 2, 1) := by decide +kernel
theorem dJ7_fill_53178_6 : decode cJ7_fill_53178 6 = .ok (.iload_n 3, 1) := by decide +kernel
theorem dJ7_fill_53178_7 : decode cJ7_fill_53178 7 = .ok (.if_icmp .ge 13, 3) := by decide +kernel
theorem dJ7_fill_53178_10 : decode cJ7_fill_53178 10 = .ok (.aload_n 0, 1) := by decide +kernel
theorem dJ7_fill_53178_11 : decode cJ7_fill_53178 11 = .ok (.iload_n 2, 1) := by decide +kernel
theorem dJ7_fill_53178_12 : decode cJ7_fill_53178 12 = .ok (.iload_n 1, 1) := by decide +kernel
theorem dJ7_fill_53178_13 : decode cJ7_fill_53178 13 = .ok (.iastore, 1) := by decide +kernel
theorem dJ7_fill_53178_14 : decode cJ7_fill_53178 14 = .ok (.iinc 2 1, 3) := by decide +kernel
theorem dJ7_fill_53178_17 : decode cJ7_fill_53178 17 = .ok (.goto (-12), 3) := by decide +kernel
theorem dJ7_fill_53178_20 : decode cJ7_fill_53178 20 = .ok (.return_, 1) := by decide +kernel
theorem dJ7_copyOf_59c91_0 : decode cJ7_copyOf_59c91 0 = .ok (.iload_n 1, 1) := by decide +kernel
theorem dJ7_copyOf_59c91_1 : decode cJ7_copyOf_59c91 1 = .ok (.aload_n 0, 1) := by decide +kernel
theorem dJ7_copyOf_59c91_2 : decode cJ7_copyOf_59c91 2 = .ok (.arraylength, 1) := by decide +kernel
theorem dJ7_copyOf_59c91_3 : decode cJ7_copyOf_59c91 3 = .ok (.if_icmp .ne 11, 3) := by decide +kernel
theorem dJ7_copyOf_59c91_6 : decode cJ7_copyOf_59c91 6 = .ok (.aload_n 0, 1) := by decide +kernel
theorem dJ7_copyOf_59c91_7 : decode cJ7_copyOf_59c91 7 = .ok (.invokevirtual 316, 3) := by decide +kernel
theorem dJ7_copyOf_59c91_10 : decode cJ7_copyOf_59c91 10 = .ok (.checkcast 317, 3) := by decide +kernel
theorem dJ7_copyOf_59c91_13 : decode cJ7_copyOf_59c91 13 = .ok (.areturn, 1) := by decide +kernel
theorem dJ7_copyOf_59c91_14 : decode cJ7_copyOf_59c91 14 = .ok (.iload_n 1, 1) := by decide +kernel
theorem dJ7_copyOf_59c91_15 : decode cJ7_copyOf_59c91 15 = .ok (.newarray .int, 2) := by decide +kernel
theorem dJ7_copyOf_59c91_17 : decode cJ7_copyOf_59c91 17 = .ok (.astore_n 2, 1) := by decide +kernel
theorem dJ7_copyOf_59c91_18 : decode cJ7_copyOf_59c91 18 = .ok (.aload_n 0, 1) := by decide +kernel
theorem dJ7_copyOf_59c91_19 : decode cJ7_copyOf_59c91 19 = .ok (.iconst 0, 1) := by decide +kernel
theorem dJ7_copyOf_59c91_20 : decode cJ7_copyOf_59c91 20 = .ok (.aload_n 2, 1) := by decide +kernel
theorem dJ7_copyOf_59c91_21 : decode cJ7_copyOf_59c91 21 = .ok (.iconst 0, 1) := by decide +kernel
theorem dJ7_copyOf_59c91_22 : decode cJ7_copyOf_59c91 22 = .ok (.aload_n 0, 1) := by decide +kernel
theorem dJ7_copyOf_59c91_23 : decode cJ7_copyOf_59c91 23 = .ok (.arraylength, 1) := by decide +kernel
theorem dJ7_copyOf_59c91_24 : decode cJ7_copyOf_59c91 24 = .ok (.iload_n 1, 1) := by decide +kernel
theorem dJ7_copyOf_59c91_25 : decode cJ7_copyOf_59c91 25 = .ok (.invokestatic 304, 3) := by decide +kernel
theorem dJ7_copyOf_59c91_28 : decode cJ7_copyOf_59c91 28 = .ok (.invokestatic 150, 3) := by decide +kernel
theorem dJ7_copyOf_59c91_31 : decode cJ7_copyOf_59c91 31 = .ok (.aload_n 2, 1) := by decide +kernel
theorem dJ7_copyOf_59c91_32 : decode cJ7_copyOf_59c91 32 = .ok (.areturn, 1) := by decide +kernel
