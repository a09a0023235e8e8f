theorem dX0_init_0 : decode cX0_init 0 = .ok (.aload_n 0, 1) := by decide +kernel
theorem dX0_init_1 : decode cX0_init 1 = .ok (.invokespecial 3, 3) := by decide +kernel
theorem dX0_init_4 : decode cX0_init 4 = .ok (.aload_n 0, 1) := by decide +kernel
theorem dX0_init_5 : decode cX0_init 5 = .ok (.bipush 8, 2) := by decide +kernel
theorem dX0_init_7 : decode cX0_init 7 = .ok (.newarray .int, 2) := by decide +kernel
theorem dX0_init_9 : decode cX0_init 9 = .ok (.putfield 9, 3) := by decide +kernel
theorem dX0_init_12 : decode cX0_init 12 = .ok (.aload_n 0, 1) := by decide +kernel
theorem dX0_init_13 : decode cX0_init 13 = .ok (.bipush 16, 2) := by decide +kernel
theorem dX0_init_15 : decode cX0_init 15 = .ok (.newarray .int, 2) := by decide +kernel
theorem dX0_init_17 : decode cX0_init 17 = .ok (.putfield 15, 3) := by decide +kernel
theorem dX0_init_20 : decode cX0_init 20 = .ok (.aload_n 0, 1) := by decide +kernel
theorem dX0_init_21 : decode cX0_init 21 = .ok (.bipush 16, 2) := by decide +kernel
theorem dX0_init_23 : decode cX0_init 23 = .ok (.newarray .int, 2) := by decide +kernel
theorem dX0_init_25 : decode cX0_init 25 = .ok (.putfield 18, 3) := by decide +kernel
theorem dX0_init_28 : decode cX0_init 28 = .ok (.aload_n 0, 1) := by decide +kernel
theorem dX0_init_29 : decode cX0_init 29 = .ok (.bipush 16, 2) := by decide +kernel
theorem dX0_init_31 : decode cX0_init 31 = .ok (.newarray .int, 2) := by decide +kernel
theorem dX0_init_33 : decode cX0_init 33 = .ok (.putfield 21, 3) := by decide +kernel
theorem dX0_init_36 : decode cX0_init 36 = .ok (.return_, 1) := by decide +kernel
theorem dX0_hasStation_0 : decode cX0_hasStation 0 = .ok (.iload_n 1, 1) := by decide +kernel
theorem dX0_hasStation_1 : decode cX0_hasStation 1 = .ok (.iconst 0, 1) := by decide +kernel
theorem dX0_hasStation_2 : decode cX0_hasStation 2 = .ok (.aload_n 0, 1) := by decide +kernel
theorem dX0_hasStation_3 : decode cX0_hasStation 3 = .ok (.getfield 24, 3) := by decide +kernel
theorem dX0_hasStation_6 : decode cX0_hasStation 6 = .ok (.iconst 1, 1) := by decide +kernel
theorem dX0_hasStation_7 : decode cX0_hasStation 7 = .ok (.isub, 1) := by decide +kernel
theorem dX0_hasStation_8 : decode cX0_hasStation 8 = .ok (.invokestatic 28, 3) := by decide +kernel
theorem dX0_hasStation_11 : decode cX0_hasStation 11 = .ok (.ireturn, 1) := by decide +kernel
theorem dX0_hasArc_0 : decode cX0_hasArc 0 = .ok (.iload_n 1, 1) := by decide +kernel
theorem dX0_hasArc_1 : decode cX0_hasArc 1 = .ok (.iconst 0, 1) := by decide +kernel
theorem dX0_hasArc_2 : decode cX0_hasArc 2 = .ok (.aload_n 0, 1) := by decide +kernel
theorem dX0_hasArc_3 : decode cX0_hasArc 3 = .ok (.getfield 32, 3) := by decide +kernel
theorem dX0_hasArc_6 : decode cX0_hasArc 6 = .ok (.iconst 1, 1) := by decide +kernel
theorem dX0_hasArc_7 : decode cX0_hasArc 7 = .ok (.isub, 1) := by decide +kernel
theorem dX0_hasArc_8 : decode cX0_hasArc 8 = .ok (.invokestatic 28, 3) := by decide +kernel
theorem dX0_hasArc_11 : decode cX0_hasArc 11 = .ok (.ireturn, 1) := by decide +kernel
theorem dX0_addStation_0 : decode cX0_addStation 0 = .ok (.aload_n 0, 1) := by decide +kernel
theorem dX0_addStation_1 : decode cX0_addStation 1 = .ok (.getfield 9, 3) := by decide +kernel
theorem dX0_addStation_4 : decode cX0_addStation 4 = .ok (.aload_n 0, 1) := by decide +kernel
theorem dX0_addStation_5 : decode cX0_addStation 5 = .ok (.getfield 24, 3) := by decide +kernel
theorem dX0_addStation_8 : decode cX0_addStation 8 = .ok (.iload_n 1, 1) := by decide +kernel
theorem dX0_addStation_9 : decode cX0_addStation 9 = .ok (.iastore, 1) := by decide +kernel
theorem dX0_addStation_10 : decode cX0_addStation 10 = .ok (.aload_n 0, 1) := by decide +kernel
theorem dX0_addStation_11 : decode cX0_addStation 11 = .ok (.dup, 1) := by decide +kernel
theorem dX0_addStation_12 : decode cX0_addStation 12 = .ok (.getfield 24, 3) := by decide +kernel
theorem dX0_addStation_15 : decode cX0_addStation 15 = .ok (.dup_x1, 1) := by decide +kernel
theorem dX0_addStation_16 : decode cX0_addStation 16 = .ok (.iconst 1, 1) := by decide +kernel
theorem dX0_addStation_17 : decode cX0_addStation 17 = .ok (.iadd, 1) := by decide +kernel
theorem dX0_addStation_18 : decode cX0_addStation 18 = .ok (.putfield 24, 3) := by decide +kernel
theorem dX0_addStation_21 : decode cX0_addStation 21 = .ok (.ireturn, 1) := by decide +kernel
theorem dX0_addArc_0 : decode cX0_addArc 0 = .ok (.aload_n 0, 1) := by decide +kernel
theorem dX0_addArc_1 : decode cX0_addArc 1 = .ok (.getfield 15, 3) := by decide +kernel
theorem dX0_addArc_4 : decode cX0_addArc 4 = .ok (.aload_n 0, 1) := by decide +kernel
theorem dX0_addArc_5 : decode cX0_addArc 5 = .ok (.getfield 32, 3) := by decide +kernel
theorem dX0_addArc_8 : decode cX0_addArc 8 = .ok (.iload_n 1, 1) := by decide +kernel
theorem dX0_addArc_9 : decode cX0_addArc 9 = .ok (.iastore, 1) := by decide +kernel
theorem dX0_addArc_10 : decode cX0_addArc 10 = .ok (.aload_n 0, 1) := by decide +kernel
theorem dX0_addArc_11 : decode cX0_addArc 11 = .ok (.getfield 18, 3) := by decide +kernel
theorem dX0_addArc_14 : decode cX0_addArc 14 = .ok (.aload_n 0, 1) := by decide +kernel
theorem dX0_addArc_15 : decode cX0_addArc 15 = .ok (.getfield 32, 3) := by decide +kernel
theorem dX0_addArc_18 : decode cX0_addArc 18 = .ok (.iload_n 2, 1) := by decide +kernel
theorem dX0_addArc_19 : decode cX0_addArc 19 = .ok (.iastore, 1) := by decide +kernel
theorem dX0_addArc_20 : decode cX0_addArc 20 = .ok (.aload_n 0, 1) := by decide +kernel
theorem dX0_addArc_21 : decode cX0_addArc 21 = .ok (.getfield 21, 3) := by decide +kernel
theorem dX0_addArc_24 : decode cX0_addArc 24 = .ok (.aload_n 0, 1) := by decide +kernel
theorem dX0_addArc_25 : decode cX0_addArc 25 = .ok (.getfield 32, 3) := by decide +kernel
theorem dX0_addArc_28 : decode cX0_addArc 28 = .ok (.iload_n 3, 1) := by decide +kernel
theorem dX0_addArc_29 : decode cX0_addArc 29 = .ok (.iastore, 1) := by decide +kernel
theorem dX0_addArc_30 : decode cX0_addArc 30 = .ok (.aload_n 0, 1) := by decide +kernel
theorem dX0_addArc_31 : decode cX0_addArc 31 = .ok (.dup, 1) := by decide +kernel
theorem dX0_addArc_32 : decode cX0_addArc 32 = .ok (.getfield 32, 3) := by decide +kernel
theorem dX0_addArc_35 : decode cX0_addArc 35 = .ok (.dup_x1, 1) := by decide +kernel
theorem dX0_addArc_36 : decode cX0_addArc 36 = .ok (.iconst 1, 1) := by decide +kernel
theorem dX0_addArc_37 : decode cX0_addArc 37 = .ok (.iadd, 1) := by decide +kernel
theorem dX0_addArc_38 : decode cX0_addArc 38 = .ok (.putfield 32, 3) := by decide +kernel
theorem dX0_addArc_41 : decode cX0_addArc 41 = .ok (.ireturn, 1) := by decide +kernel
theorem dX0_isReady_0 : decode cX0_isReady 0 = .ok (.iconst 0, 1) := by decide +kernel
theorem dX0_isReady_1 : decode cX0_isReady 1 = .ok (.istore_n 2, 1) := by decide +kernel
theorem dX0_isReady_2 : decode cX0_isReady 2 = .ok (.iload_n 2, 1) := by decide +kernel
theorem dX0_isReady_3 : decode cX0_isReady 3 = .ok (.aload_n 0, 1) := by decide +kernel
theorem dX0_isReady_4 : decode cX0_isReady 4 = .ok (.getfield 32, 3) := by decide +kernel
theorem dX0_isReady_7 : decode cX0_isReady 7 = .ok (.if_icmp .ge 30, 3) := by decide +kernel
theorem dX0_isReady_10 : decode cX0_isReady 10 = .ok (.aload_n 0, 1) := by decide +kernel
theorem dX0_isReady_11 : decode cX0_isReady 11 = .ok (.getfield 18, 3) := by decide +kernel
theorem dX0_isReady_14 : decode cX0_isReady 14 = .ok (.iload_n 2, 1) := by decide +kernel
theorem dX0_isReady_15 : decode cX0_isReady 15 = .ok (.iaload, 1) := by decide +kernel
theorem dX0_isReady_16 : decode cX0_isReady 16 = .ok (.iload_n 1, 1) := by decide +kernel
theorem dX0_isReady_17 : decode cX0_isReady 17 = .ok (.if_icmp .ne 14, 3) := by decide +kernel
theorem dX0_isReady_20 : decode cX0_isReady 20 = .ok (.aload_n 0, 1) := by decide +kernel
theorem dX0_isReady_21 : decode cX0_isReady 21 = .ok (.getfield 21, 3) := by decide +kernel
theorem dX0_isReady_24 : decode cX0_isReady 24 = .ok (.iload_n 2, 1) := by decide +kernel
theorem dX0_isReady_25 : decode cX0_isReady 25 = .ok (.iaload, 1) := by decide +kernel
theorem dX0_isReady_26 : decode cX0_isReady 26 = .ok (.ifCond .ne 5, 3) := by decide +kernel
theorem dX0_isReady_29 : decode cX0_isReady 29 = .ok (.iconst 0, 1) := by decide +kernel
theorem dX0_isReady_30 : decode cX0_isReady 30 = .ok (.ireturn, 1) := by decide +kernel
theorem dX0_isReady_31 : decode cX0_isReady 31 = .ok (.iinc 2 1, 3) := by decide +kernel
theorem dX0_isReady_34 : decode cX0_isReady 34 = .ok (.goto (-32), 3) := by decide +kernel
theorem dX0_isReady_37 : decode cX0_isReady 37 = .ok (.iconst 1, 1) := by decide +kernel
theorem dX0_isReady_38 : decode cX0_isReady 38 = .ok (.ireturn, 1) := by decide +kernel
theorem dX0_hasRoom_0 : decode cX0_hasRoom 0 = .ok (.iconst 0, 1) := by decide +kernel
theorem dX0_hasRoom_1 : decode cX0_hasRoom 1 = .ok (.istore_n 2, 1) := by decide +kernel
theorem dX0_hasRoom_2 : decode cX0_hasRoom 2 = .ok (.iload_n 2, 1) := by decide +kernel
theorem dX0_hasRoom_3 : decode cX0_hasRoom 3 = .ok (.aload_n 0, 1) := by decide +kernel
theorem dX0_hasRoom_4 : decode cX0_hasRoom 4 = .ok (.getfield 32, 3) := by decide +kernel
theorem dX0_hasRoom_7 : decode cX0_hasRoom 7 = .ok (.if_icmp .ge 52, 3) := by decide +kernel
theorem dX0_hasRoom_10 : decode cX0_hasRoom 10 = .ok (.aload_n 0, 1) := by decide +kernel
theorem dX0_hasRoom_11 : decode cX0_hasRoom 11 = .ok (.getfield 15, 3) := by decide +kernel
theorem dX0_hasRoom_14 : decode cX0_hasRoom 14 = .ok (.iload_n 2, 1) := by decide +kernel
theorem dX0_hasRoom_15 : decode cX0_hasRoom 15 = .ok (.iaload, 1) := by decide +kernel
theorem dX0_hasRoom_16 : decode cX0_hasRoom 16 = .ok (.iload_n 1, 1) := by decide +kernel
theorem dX0_hasRoom_17 : decode cX0_hasRoom 17 = .ok (.if_icmp .ne 17, 3) := by decide +kernel
theorem dX0_hasRoom_20 : decode cX0_hasRoom 20 = .ok (.aload_n 0, 1) := by decide +kernel
theorem dX0_hasRoom_21 : decode cX0_hasRoom 21 = .ok (.getfield 18, 3) := by decide +kernel
theorem dX0_hasRoom_24 : decode cX0_hasRoom 24 = .ok (.iload_n 2, 1) := by decide +kernel
theorem dX0_hasRoom_25 : decode cX0_hasRoom 25 = .ok (.iaload, 1) := by decide +kernel
theorem dX0_hasRoom_26 : decode cX0_hasRoom 26 = .ok (.iload_n 1, 1) := by decide +kernel
theorem dX0_hasRoom_27 : decode cX0_hasRoom 27 = .ok (.if_icmp .eq 7, 3) := by decide +kernel
theorem dX0_hasRoom_30 : decode cX0_hasRoom 30 = .ok (.iconst 1, 1) := by decide +kernel
theorem dX0_hasRoom_31 : decode cX0_hasRoom 31 = .ok (.goto 4, 3) := by decide +kernel
theorem dX0_hasRoom_34 : decode cX0_hasRoom 34 = .ok (.iconst 0, 1) := by decide +kernel
theorem dX0_hasRoom_35 : decode cX0_hasRoom 35 = .ok (.istore_n 3, 1) := by decide +kernel
theorem dX0_hasRoom_36 : decode cX0_hasRoom 36 = .ok (.iload_n 3, 1) := by decide +kernel
theorem dX0_hasRoom_37 : decode cX0_hasRoom 37 = .ok (.ifCond .eq 16, 3) := by decide +kernel
theorem dX0_hasRoom_40 : decode cX0_hasRoom 40 = .ok (.aload_n 0, 1) := by decide +kernel
theorem dX0_hasRoom_41 : decode cX0_hasRoom 41 = .ok (.getfield 21, 3) := by decide +kernel
theorem dX0_hasRoom_44 : decode cX0_hasRoom 44 = .ok (.iload_n 2, 1) := by decide +kernel
theorem dX0_hasRoom_45 : decode cX0_hasRoom 45 = .ok (.iaload, 1) := by decide +kernel
theorem dX0_hasRoom_46 : decode cX0_hasRoom 46 = .ok (.bipush 9, 2) := by decide +kernel
theorem dX0_hasRoom_48 : decode cX0_hasRoom 48 = .ok (.if_icmp .lt 5, 3) := by decide +kernel
theorem dX0_hasRoom_51 : decode cX0_hasRoom 51 = .ok (.iconst 0, 1) := by decide +kernel
theorem dX0_hasRoom_52 : decode cX0_hasRoom 52 = .ok (.ireturn, 1) := by decide +kernel
theorem dX0_hasRoom_53 : decode cX0_hasRoom 53 = .ok (.iinc 2 1, 3) := by decide +kernel
theorem dX0_hasRoom_56 : decode cX0_hasRoom 56 = .ok (.goto (-54), 3) := by decide +kernel
theorem dX0_hasRoom_59 : decode cX0_hasRoom 59 = .ok (.iconst 1, 1) := by decide +kernel
theorem dX0_hasRoom_60 : decode cX0_hasRoom 60 = .ok (.ireturn, 1) := by decide +kernel
theorem dX0_moveCards_0 : decode cX0_moveCards 0 = .ok (.iconst 0, 1) := by decide +kernel
theorem dX0_moveCards_1 : decode cX0_moveCards 1 = .ok (.istore_n 2, 1) := by decide +kernel
theorem dX0_moveCards_2 : decode cX0_moveCards 2 = .ok (.iload_n 2, 1) := by decide +kernel
theorem dX0_moveCards_3 : decode cX0_moveCards 3 = .ok (.aload_n 0, 1) := by decide +kernel
theorem dX0_moveCards_4 : decode cX0_moveCards 4 = .ok (.getfield 32, 3) := by decide +kernel
theorem dX0_moveCards_7 : decode cX0_moveCards 7 = .ok (.if_icmp .ge 49, 3) := by decide +kernel
theorem dX0_moveCards_10 : decode cX0_moveCards 10 = .ok (.aload_n 0, 1) := by decide +kernel
theorem dX0_moveCards_11 : decode cX0_moveCards 11 = .ok (.getfield 18, 3) := by decide +kernel
theorem dX0_moveCards_14 : decode cX0_moveCards 14 = .ok (.iload_n 2, 1) := by decide +kernel
theorem dX0_moveCards_15 : decode cX0_moveCards 15 = .ok (.iaload, 1) := by decide +kernel
theorem dX0_moveCards_16 : decode cX0_moveCards 16 = .ok (.iload_n 1, 1) := by decide +kernel
theorem dX0_moveCards_17 : decode cX0_moveCards 17 = .ok (.if_icmp .ne 13, 3) := by decide +kernel
theorem dX0_moveCards_20 : decode cX0_moveCards 20 = .ok (.aload_n 0, 1) := by decide +kernel
theorem dX0_moveCards_21 : decode cX0_moveCards 21 = .ok (.getfield 21, 3) := by decide +kernel
theorem dX0_moveCards_24 : decode cX0_moveCards 24 = .ok (.iload_n 2, 1) := by decide +kernel
theorem dX0_moveCards_25 : decode cX0_moveCards 25 = .ok (.dup2, 1) := by decide +kernel
theorem dX0_moveCards_26 : decode cX0_moveCards 26 = .ok (.iaload, 1) := by decide +kernel
theorem dX0_moveCards_27 : decode cX0_moveCards 27 = .ok (.iconst 1, 1) := by decide +kernel
theorem dX0_moveCards_28 : decode cX0_moveCards 28 = .ok (.isub, 1) := by decide +kernel
theorem dX0_moveCards_29 : decode cX0_moveCards 29 = .ok (.iastore, 1) := by decide +kernel
theorem dX0_moveCards_30 : decode cX0_moveCards 30 = .ok (.aload_n 0, 1) := by decide +kernel
theorem dX0_moveCards_31 : decode cX0_moveCards 31 = .ok (.getfield 15, 3) := by decide +kernel
theorem dX0_moveCards_34 : decode cX0_moveCards 34 = .ok (.iload_n 2, 1) := by decide +kernel
theorem dX0_moveCards_35 : decode cX0_moveCards 35 = .ok (.iaload, 1) := by decide +kernel
theorem dX0_moveCards_36 : decode cX0_moveCards 36 = .ok (.iload_n 1, 1) := by decide +kernel
theorem dX0_moveCards_37 : decode cX0_moveCards 37 = .ok (.if_icmp .ne 13, 3) := by decide +kernel
theorem dX0_moveCards_40 : decode cX0_moveCards 40 = .ok (.aload_n 0, 1) := by decide +kernel
theorem dX0_moveCards_41 : decode cX0_moveCards 41 = .ok (.getfield 21, 3) := by decide +kernel
theorem dX0_moveCards_44 : decode cX0_moveCards 44 = .ok (.iload_n 2, 1) := by decide +kernel
theorem dX0_moveCards_45 : decode cX0_moveCards 45 = .ok (.dup2, 1) := by decide +kernel
theorem dX0_moveCards_46 : decode cX0_moveCards 46 = .ok (.iaload, 1) := by decide +kernel
theorem dX0_moveCards_47 : decode cX0_moveCards 47 = .ok (.iconst 1, 1) := by decide +kernel
theorem dX0_moveCards_48 : decode cX0_moveCards 48 = .ok (.iadd, 1) := by decide +kernel
theorem dX0_moveCards_49 : decode cX0_moveCards 49 = .ok (.iastore, 1) := by decide +kernel
theorem dX0_moveCards_50 : decode cX0_moveCards 50 = .ok (.iinc 2 1, 3) := by decide +kernel
theorem dX0_moveCards_53 : decode cX0_moveCards 53 = .ok (.goto (-51), 3) := by decide +kernel
theorem dX0_moveCards_56 : decode cX0_moveCards 56 = .ok (.return_, 1) := by decide +kernel
theorem dX0_countReady_0 : decode cX0_countReady 0 = .ok (.iconst 0, 1) := by decide +kernel
theorem dX0_countReady_1 : decode cX0_countReady 1 = .ok (.istore_n 1, 1) := by decide +kernel
theorem dX0_countReady_2 : decode cX0_countReady 2 = .ok (.iconst 0, 1) := by decide +kernel
theorem dX0_countReady_3 : decode cX0_countReady 3 = .ok (.istore_n 2, 1) := by decide +kernel
theorem dX0_countReady_4 : decode cX0_countReady 4 = .ok (.iload_n 2, 1) := by decide +kernel
theorem dX0_countReady_5 : decode cX0_countReady 5 = .ok (.aload_n 0, 1) := by decide +kernel
theorem dX0_countReady_6 : decode cX0_countReady 6 = .ok (.getfield 24, 3) := by decide +kernel
theorem dX0_countReady_9 : decode cX0_countReady 9 = .ok (.if_icmp .ge 20, 3) := by decide +kernel
theorem dX0_countReady_12 : decode cX0_countReady 12 = .ok (.aload_n 0, 1) := by decide +kernel
theorem dX0_countReady_13 : decode cX0_countReady 13 = .ok (.iload_n 2, 1) := by decide +kernel
theorem dX0_countReady_14 : decode cX0_countReady 14 = .ok (.invokevirtual 35, 3) := by decide +kernel
theorem dX0_countReady_17 : decode cX0_countReady 17 = .ok (.ifCond .eq 6, 3) := by decide +kernel
theorem dX0_countReady_20 : decode cX0_countReady 20 = .ok (.iinc 1 1, 3) := by decide +kernel
theorem dX0_countReady_23 : decode cX0_countReady 23 = .ok (.iinc 2 1, 3) := by decide +kernel
theorem dX0_countReady_26 : decode cX0_countReady 26 = .ok (.goto (-22), 3) := by decide +kernel
theorem dX0_countReady_29 : decode cX0_countReady 29 = .ok (.iload_n 1, 1) := by decide +kernel
theorem dX0_countReady_30 : decode cX0_countReady 30 = .ok (.ireturn, 1) := by decide +kernel
theorem dX0_countCards_0 : decode cX0_countCards 0 = .ok (.iconst 0, 1) := by decide +kernel
theorem dX0_countCards_1 : decode cX0_countCards 1 = .ok (.istore_n 1, 1) := by decide +kernel
theorem dX0_countCards_2 : decode cX0_countCards 2 = .ok (.iconst 0, 1) := by decide +kernel
theorem dX0_countCards_3 : decode cX0_countCards 3 = .ok (.istore_n 2, 1) := by decide +kernel
theorem dX0_countCards_4 : decode cX0_countCards 4 = .ok (.iload_n 2, 1) := by decide +kernel
theorem dX0_countCards_5 : decode cX0_countCards 5 = .ok (.aload_n 0, 1) := by decide +kernel
theorem dX0_countCards_6 : decode cX0_countCards 6 = .ok (.getfield 32, 3) := by decide +kernel
theorem dX0_countCards_9 : decode cX0_countCards 9 = .ok (.if_icmp .ge 18, 3) := by decide +kernel
theorem dX0_countCards_12 : decode cX0_countCards 12 = .ok (.iload_n 1, 1) := by decide +kernel
theorem dX0_countCards_13 : decode cX0_countCards 13 = .ok (.aload_n 0, 1) := by decide +kernel
theorem dX0_countCards_14 : decode cX0_countCards 14 = .ok (.getfield 21, 3) := by decide +kernel
theorem dX0_countCards_17 : decode cX0_countCards 17 = .ok (.iload_n 2, 1) := by decide +kernel
theorem dX0_countCards_18 : decode cX0_countCards 18 = .ok (.iaload, 1) := by decide +kernel
theorem dX0_countCards_19 : decode cX0_countCards 19 = .ok (.iadd, 1) := by decide +kernel
theorem dX0_countCards_20 : decode cX0_countCards 20 = .ok (.istore_n 1, 1) := by decide +kernel
theorem dX0_countCards_21 : decode cX0_countCards 21 = .ok (.iinc 2 1, 3) := by decide +kernel
theorem dX0_countCards_24 : decode cX0_countCards 24 = .ok (.goto (-20), 3) := by decide +kernel
theorem dX0_countCards_27 : decode cX0_countCards 27 = .ok (.iload_n 1, 1) := by decide +kernel
theorem dX0_countCards_28 : decode cX0_countCards 28 = .ok (.ireturn, 1) := by decide +kernel
theorem dX1_init_0 : decode cX1_init 0 = .ok (.aload_n 0, 1) := by decide +kernel
theorem dX1_init_1 : decode cX1_init 1 = .ok (.invokespecial 3, 3) := by decide +kernel
theorem dX1_init_4 : decode cX1_init 4 = .ok (.aload_n 0, 1) := by decide +kernel
theorem dX1_init_5 : decode cX1_init 5 = .ok (.sipush 5088, 3) := by decide +kernel
theorem dX1_init_8 : decode cX1_init 8 = .ok (.newarray .int, 2) := by decide +kernel
theorem dX1_init_10 : decode cX1_init 10 = .ok (.putfield 11, 3) := by decide +kernel
theorem dX1_init_13 : decode cX1_init 13 = .ok (.aload_n 0, 1) := by decide +kernel
theorem dX1_init_14 : decode cX1_init 14 = .ok (.sipush 636, 3) := by decide +kernel
theorem dX1_init_17 : decode cX1_init 17 = .ok (.newarray .int, 2) := by decide +kernel
theorem dX1_init_19 : decode cX1_init 19 = .ok (.putfield 15, 3) := by decide +kernel
theorem dX1_init_22 : decode cX1_init 22 = .ok (.aload_n 0, 1) := by decide +kernel
theorem dX1_init_23 : decode cX1_init 23 = .ok (.bipush 8, 2) := by decide +kernel
theorem dX1_init_25 : decode cX1_init 25 = .ok (.newarray .int, 2) := by decide +kernel
theorem dX1_init_27 : decode cX1_init 27 = .ok (.putfield 18, 3) := by decide +kernel
theorem dX1_init_30 : decode cX1_init 30 = .ok (.aload_n 0, 1) := by decide +kernel
theorem dX1_init_31 : decode cX1_init 31 = .ok (.bipush 16, 2) := by decide +kernel
theorem dX1_init_33 : decode cX1_init 33 = .ok (.newarray .int, 2) := by decide +kernel
theorem dX1_init_35 : decode cX1_init 35 = .ok (.putfield 21, 3) := by decide +kernel
theorem dX1_init_38 : decode cX1_init 38 = .ok (.aload_n 0, 1) := by decide +kernel
theorem dX1_init_39 : decode cX1_init 39 = .ok (.aload_n 1, 1) := by decide +kernel
theorem dX1_init_40 : decode cX1_init 40 = .ok (.putfield 24, 3) := by decide +kernel
theorem dX1_init_43 : decode cX1_init 43 = .ok (.return_, 1) := by decide +kernel
theorem dX1_has_0 : decode cX1_has 0 = .ok (.iload_n 1, 1) := by decide +kernel
theorem dX1_has_1 : decode cX1_has 1 = .ok (.iconst 0, 1) := by decide +kernel
theorem dX1_has_2 : decode cX1_has 2 = .ok (.aload_n 0, 1) := by decide +kernel
theorem dX1_has_3 : decode cX1_has 3 = .ok (.getfield 28, 3) := by decide +kernel
theorem dX1_has_6 : decode cX1_has 6 = .ok (.iconst 1, 1) := by decide +kernel
theorem dX1_has_7 : decode cX1_has 7 = .ok (.isub, 1) := by decide +kernel
theorem dX1_has_8 : decode cX1_has 8 = .ok (.invokestatic 32, 3) := by decide +kernel
theorem dX1_has_11 : decode cX1_has 11 = .ok (.ireturn, 1) := by decide +kernel
theorem dX1_find_0 : decode cX1_find 0 = .ok (.aload_n 0, 1) := by decide +kernel
theorem dX1_find_1 : decode cX1_find 1 = .ok (.iconst 0, 1) := by decide +kernel
theorem dX1_find_2 : decode cX1_find 2 = .ok (.putfield 28, 3) := by decide +kernel
theorem dX1_find_5 : decode cX1_find 5 = .ok (.iconst 0, 1) := by decide +kernel
theorem dX1_find_6 : decode cX1_find 6 = .ok (.istore_n 1, 1) := by decide +kernel
theorem dX1_find_7 : decode cX1_find 7 = .ok (.iload_n 1, 1) := by decide +kernel
theorem dX1_find_8 : decode cX1_find 8 = .ok (.aload_n 0, 1) := by decide +kernel
theorem dX1_find_9 : decode cX1_find 9 = .ok (.getfield 24, 3) := by decide +kernel
theorem dX1_find_12 : decode cX1_find 12 = .ok (.getfield 36, 3) := by decide +kernel
theorem dX1_find_15 : decode cX1_find 15 = .ok (.if_icmp .ge 17, 3) := by decide +kernel
theorem dX1_find_18 : decode cX1_find 18 = .ok (.aload_n 0, 1) := by decide +kernel
theorem dX1_find_19 : decode cX1_find 19 = .ok (.iload_n 1, 1) := by decide +kernel
theorem dX1_find_20 : decode cX1_find 20 = .ok (.iload_n 1, 1) := by decide +kernel
theorem dX1_find_21 : decode cX1_find 21 = .ok (.iconst 0, 1) := by decide +kernel
theorem dX1_find_22 : decode cX1_find 22 = .ok (.iconst 0, 1) := by decide +kernel
theorem dX1_find_23 : decode cX1_find 23 = .ok (.invokestatic 41, 3) := by decide +kernel
theorem dX1_find_26 : decode cX1_find 26 = .ok (.iinc 1 1, 3) := by decide +kernel
theorem dX1_find_29 : decode cX1_find 29 = .ok (.goto (-22), 3) := by decide +kernel
theorem dX1_find_32 : decode cX1_find 32 = .ok (.return_, 1) := by decide +kernel
theorem dX1_extend_0 : decode cX1_extend 0 = .ok (.iload 4, 2) := by decide +kernel
theorem dX1_extend_2 : decode cX1_extend 2 = .ok (.bipush 8, 2) := by decide +kernel
theorem dX1_extend_4 : decode cX1_extend 4 = .ok (.if_icmp .lt 4, 3) := by decide +kernel
theorem dX1_extend_7 : decode cX1_extend 7 = .ok (.return_, 1) := by decide +kernel
theorem dX1_extend_8 : decode cX1_extend 8 = .ok (.aload_n 0, 1) := by decide +kernel
theorem dX1_extend_9 : decode cX1_extend 9 = .ok (.getfield 24, 3) := by decide +kernel
theorem dX1_extend_12 : decode cX1_extend 12 = .ok (.astore 5, 2) := by decide +kernel
theorem dX1_extend_14 : decode cX1_extend 14 = .ok (.iconst 0, 1) := by decide +kernel
theorem dX1_extend_15 : decode cX1_extend 15 = .ok (.istore 6, 2) := by decide +kernel
theorem dX1_extend_17 : decode cX1_extend 17 = .ok (.iload 6, 2) := by decide +kernel
theorem dX1_extend_19 : decode cX1_extend 19 = .ok (.aload 5, 2) := by decide +kernel
theorem dX1_extend_21 : decode cX1_extend 21 = .ok (.getfield 45, 3) := by decide +kernel
theorem dX1_extend_24 : decode cX1_extend 24 = .ok (.if_icmp .ge 92, 3) := by decide +kernel
theorem dX1_extend_27 : decode cX1_extend 27 = .ok (.aload 5, 2) := by decide +kernel
theorem dX1_extend_29 : decode cX1_extend 29 = .ok (.getfield 48, 3) := by decide +kernel
theorem dX1_extend_32 : decode cX1_extend 32 = .ok (.iload 6, 2) := by decide +kernel
theorem dX1_extend_34 : decode cX1_extend 34 = .ok (.iaload, 1) := by decide +kernel
theorem dX1_extend_35 : decode cX1_extend 35 = .ok (.iload_n 2, 1) := by decide +kernel
theorem dX1_extend_36 : decode cX1_extend 36 = .ok (.if_icmp .eq 6, 3) := by decide +kernel
theorem dX1_extend_39 : decode cX1_extend 39 = .ok (.goto 71, 3) := by decide +kernel
theorem dX1_extend_42 : decode cX1_extend 42 = .ok (.aload 5, 2) := by decide +kernel
theorem dX1_extend_44 : decode cX1_extend 44 = .ok (.getfield 51, 3) := by decide +kernel
theorem dX1_extend_47 : decode cX1_extend 47 = .ok (.iload 6, 2) := by decide +kernel
theorem dX1_extend_49 : decode cX1_extend 49 = .ok (.iaload, 1) := by decide +kernel
theorem dX1_extend_50 : decode cX1_extend 50 = .ok (.istore 7, 2) := by decide +kernel
theorem dX1_extend_52 : decode cX1_extend 52 = .ok (.aload_n 0, 1) := by decide +kernel
theorem dX1_extend_53 : decode cX1_extend 53 = .ok (.getfield 18, 3) := by decide +kernel
theorem dX1_extend_56 : decode cX1_extend 56 = .ok (.iload 4, 2) := by decide +kernel
theorem dX1_extend_58 : decode cX1_extend 58 = .ok (.iload 6, 2) := by decide +kernel
theorem dX1_extend_60 : decode cX1_extend 60 = .ok (.iastore, 1) := by decide +kernel
theorem dX1_extend_61 : decode cX1_extend 61 = .ok (.iload 7, 2) := by decide +kernel
theorem dX1_extend_63 : decode cX1_extend 63 = .ok (.iload_n 1, 1) := by decide +kernel
theorem dX1_extend_64 : decode cX1_extend 64 = .ok (.if_icmp .ne 14, 3) := by decide +kernel
theorem dX1_extend_67 : decode cX1_extend 67 = .ok (.aload_n 0, 1) := by decide +kernel
theorem dX1_extend_68 : decode cX1_extend 68 = .ok (.iload 4, 2) := by decide +kernel
theorem dX1_extend_70 : decode cX1_extend 70 = .ok (.iconst 1, 1) := by decide +kernel
theorem dX1_extend_71 : decode cX1_extend 71 = .ok (.iadd, 1) := by decide +kernel
theorem dX1_extend_72 : decode cX1_extend 72 = .ok (.invokevirtual 54, 3) := by decide +kernel
theorem dX1_extend_75 : decode cX1_extend 75 = .ok (.goto 35, 3) := by decide +kernel
theorem dX1_extend_78 : decode cX1_extend 78 = .ok (.iload 7, 2) := by decide +kernel
theorem dX1_extend_80 : decode cX1_extend 80 = .ok (.iload_n 1, 1) := by decide +kernel
theorem dX1_extend_81 : decode cX1_extend 81 = .ok (.if_icmp .le 29, 3) := by decide +kernel
theorem dX1_extend_84 : decode cX1_extend 84 = .ok (.iload_n 3, 1) := by decide +kernel
theorem dX1_extend_85 : decode cX1_extend 85 = .ok (.iload 7, 2) := by decide +kernel
theorem dX1_extend_87 : decode cX1_extend 87 = .ok (.ishr, 1) := by decide +kernel
theorem dX1_extend_88 : decode cX1_extend 88 = .ok (.iconst 1, 1) := by decide +kernel
theorem dX1_extend_89 : decode cX1_extend 89 = .ok (.iand, 1) := by decide +kernel
theorem dX1_extend_90 : decode cX1_extend 90 = .ok (.ifCond .ne 20, 3) := by decide +kernel
theorem dX1_extend_93 : decode cX1_extend 93 = .ok (.aload_n 0, 1) := by decide +kernel
theorem dX1_extend_94 : decode cX1_extend 94 = .ok (.iload_n 1, 1) := by decide +kernel
theorem dX1_extend_95 : decode cX1_extend 95 = .ok (.iload 7, 2) := by decide +kernel
theorem dX1_extend_97 : decode cX1_extend 97 = .ok (.iload_n 3, 1) := by decide +kernel
theorem dX1_extend_98 : decode cX1_extend 98 = .ok (.iconst 1, 1) := by decide +kernel
theorem dX1_extend_99 : decode cX1_extend 99 = .ok (.iload 7, 2) := by decide +kernel
theorem dX1_extend_101 : decode cX1_extend 101 = .ok (.ishl, 1) := by decide +kernel
theorem dX1_extend_102 : decode cX1_extend 102 = .ok (.ior, 1) := by decide +kernel
theorem dX1_extend_103 : decode cX1_extend 103 = .ok (.iload 4, 2) := by decide +kernel
theorem dX1_extend_105 : decode cX1_extend 105 = .ok (.iconst 1, 1) := by decide +kernel
theorem dX1_extend_106 : decode cX1_extend 106 = .ok (.iadd, 1) := by decide +kernel
theorem dX1_extend_107 : decode cX1_extend 107 = .ok (.invokestatic 41, 3) := by decide +kernel
theorem dX1_extend_110 : decode cX1_extend 110 = .ok (.iinc 6 1, 3) := by decide +kernel
theorem dX1_extend_113 : decode cX1_extend 113 = .ok (.goto (-96), 3) := by decide +kernel
theorem dX1_extend_116 : decode cX1_extend 116 = .ok (.return_, 1) := by decide +kernel
theorem dX1_keepPath_0 : decode cX1_keepPath 0 = .ok (.aload_n 0, 1) := by decide +kernel
theorem dX1_keepPath_1 : decode cX1_keepPath 1 = .ok (.getfield 28, 3) := by decide +kernel
theorem dX1_keepPath_4 : decode cX1_keepPath 4 = .ok (.sipush 636, 3) := by decide +kernel
theorem dX1_keepPath_7 : decode cX1_keepPath 7 = .ok (.if_icmp .lt 4, 3) := by decide +kernel
theorem dX1_keepPath_10 : decode cX1_keepPath 10 = .ok (.return_, 1) := by decide +kernel
theorem dX1_keepPath_11 : decode cX1_keepPath 11 = .ok (.iconst 0, 1) := by decide +kernel
theorem dX1_keepPath_12 : decode cX1_keepPath 12 = .ok (.istore_n 2, 1) := by decide +kernel
theorem dX1_keepPath_13 : decode cX1_keepPath 13 = .ok (.iload_n 2, 1) := by decide +kernel
theorem dX1_keepPath_14 : decode cX1_keepPath 14 = .ok (.iload_n 1, 1) := by decide +kernel
theorem dX1_keepPath_15 : decode cX1_keepPath 15 = .ok (.if_icmp .ge 29, 3) := by decide +kernel
theorem dX1_keepPath_18 : decode cX1_keepPath 18 = .ok (.aload_n 0, 1) := by decide +kernel
theorem dX1_keepPath_19 : decode cX1_keepPath 19 = .ok (.getfield 11, 3) := by decide +kernel
theorem dX1_keepPath_22 : decode cX1_keepPath 22 = .ok (.aload_n 0, 1) := by decide +kernel
theorem dX1_keepPath_23 : decode cX1_keepPath 23 = .ok (.getfield 28, 3) := by decide +kernel
theorem dX1_keepPath_26 : decode cX1_keepPath 26 = .ok (.bipush 8, 2) := by decide +kernel
theorem dX1_keepPath_28 : decode cX1_keepPath 28 = .ok (.imul, 1) := by decide +kernel
theorem dX1_keepPath_29 : decode cX1_keepPath 29 = .ok (.iload_n 2, 1) := by decide +kernel
theorem dX1_keepPath_30 : decode cX1_keepPath 30 = .ok (.iadd, 1) := by decide +kernel
theorem dX1_keepPath_31 : decode cX1_keepPath 31 = .ok (.aload_n 0, 1) := by decide +kernel
theorem dX1_keepPath_32 : decode cX1_keepPath 32 = .ok (.getfield 18, 3) := by decide +kernel
theorem dX1_keepPath_35 : decode cX1_keepPath 35 = .ok (.iload_n 2, 1) := by decide +kernel
theorem dX1_keepPath_36 : decode cX1_keepPath 36 = .ok (.iaload, 1) := by decide +kernel
theorem dX1_keepPath_37 : decode cX1_keepPath 37 = .ok (.iastore, 1) := by decide +kernel
theorem dX1_keepPath_38 : decode cX1_keepPath 38 = .ok (.iinc 2 1, 3) := by decide +kernel
theorem dX1_keepPath_41 : decode cX1_keepPath 41 = .ok (.goto (-28), 3) := by decide +kernel
theorem dX1_keepPath_44 : decode cX1_keepPath 44 = .ok (.aload_n 0, 1) := by decide +kernel
theorem dX1_keepPath_45 : decode cX1_keepPath 45 = .ok (.getfield 15, 3) := by decide +kernel
theorem dX1_keepPath_48 : decode cX1_keepPath 48 = .ok (.aload_n 0, 1) := by decide +kernel
theorem dX1_keepPath_49 : decode cX1_keepPath 49 = .ok (.getfield 28, 3) := by decide +kernel
theorem dX1_keepPath_52 : decode cX1_keepPath 52 = .ok (.iload_n 1, 1) := by decide +kernel
theorem dX1_keepPath_53 : decode cX1_keepPath 53 = .ok (.iastore, 1) := by decide +kernel
theorem dX1_keepPath_54 : decode cX1_keepPath 54 = .ok (.aload_n 0, 1) := by decide +kernel
theorem dX1_keepPath_55 : decode cX1_keepPath 55 = .ok (.dup, 1) := by decide +kernel
theorem dX1_keepPath_56 : decode cX1_keepPath 56 = .ok (.getfield 28, 3) := by decide +kernel
theorem dX1_keepPath_59 : decode cX1_keepPath 59 = .ok (.iconst 1, 1) := by decide +kernel
theorem dX1_keepPath_60 : decode cX1_keepPath 60 = .ok (.iadd, 1) := by decide +kernel
theorem dX1_keepPath_61 : decode cX1_keepPath 61 = .ok (.putfield 28, 3) := by decide +kernel
theorem dX1_keepPath_64 : decode cX1_keepPath 64 = .ok (.return_, 1) := by decide +kernel
theorem dX1_arcOf_0 : decode cX1_arcOf 0 = .ok (.iload_n 2, 1) := by decide +kernel
theorem dX1_arcOf_1 : decode cX1_arcOf 1 = .ok (.iconst 0, 1) := by decide +kernel
theorem dX1_arcOf_2 : decode cX1_arcOf 2 = .ok (.aload_n 0, 1) := by decide +kernel
theorem dX1_arcOf_3 : decode cX1_arcOf 3 = .ok (.getfield 15, 3) := by decide +kernel
theorem dX1_arcOf_6 : decode cX1_arcOf 6 = .ok (.iload_n 1, 1) := by decide +kernel
theorem dX1_arcOf_7 : decode cX1_arcOf 7 = .ok (.iaload, 1) := by decide +kernel
theorem dX1_arcOf_8 : decode cX1_arcOf 8 = .ok (.iconst 1, 1) := by decide +kernel
theorem dX1_arcOf_9 : decode cX1_arcOf 9 = .ok (.isub, 1) := by decide +kernel
theorem dX1_arcOf_10 : decode cX1_arcOf 10 = .ok (.invokestatic 32, 3) := by decide +kernel
theorem dX1_arcOf_13 : decode cX1_arcOf 13 = .ok (.ifCond .eq 17, 3) := by decide +kernel
theorem dX1_arcOf_16 : decode cX1_arcOf 16 = .ok (.aload_n 0, 1) := by decide +kernel
theorem dX1_arcOf_17 : decode cX1_arcOf 17 = .ok (.getfield 11, 3) := by decide +kernel
theorem dX1_arcOf_20 : decode cX1_arcOf 20 = .ok (.iload_n 1, 1) := by decide +kernel
theorem dX1_arcOf_21 : decode cX1_arcOf 21 = .ok (.bipush 8, 2) := by decide +kernel
theorem dX1_arcOf_23 : decode cX1_arcOf 23 = .ok (.imul, 1) := by decide +kernel
theorem dX1_arcOf_24 : decode cX1_arcOf 24 = .ok (.iload_n 2, 1) := by decide +kernel
theorem dX1_arcOf_25 : decode cX1_arcOf 25 = .ok (.iadd, 1) := by decide +kernel
theorem dX1_arcOf_26 : decode cX1_arcOf 26 = .ok (.iaload, 1) := by decide +kernel
theorem dX1_arcOf_27 : decode cX1_arcOf 27 = .ok (.goto 5, 3) := by decide +kernel
theorem dX1_arcOf_30 : decode cX1_arcOf 30 = .ok (.bipush (-9), 2) := by decide +kernel
theorem dX1_arcOf_32 : decode cX1_arcOf 32 = .ok (.ireturn, 1) := by decide +kernel
theorem dX1_timeOf_0 : decode cX1_timeOf 0 = .ok (.iconst 0, 1) := by decide +kernel
theorem dX1_timeOf_1 : decode cX1_timeOf 1 = .ok (.istore_n 2, 1) := by decide +kernel
theorem dX1_timeOf_2 : decode cX1_timeOf 2 = .ok (.iconst 0, 1) := by decide +kernel
theorem dX1_timeOf_3 : decode cX1_timeOf 3 = .ok (.istore_n 3, 1) := by decide +kernel
theorem dX1_timeOf_4 : decode cX1_timeOf 4 = .ok (.iload_n 3, 1) := by decide +kernel
theorem dX1_timeOf_5 : decode cX1_timeOf 5 = .ok (.aload_n 0, 1) := by decide +kernel
theorem dX1_timeOf_6 : decode cX1_timeOf 6 = .ok (.getfield 15, 3) := by decide +kernel
theorem dX1_timeOf_9 : decode cX1_timeOf 9 = .ok (.iload_n 1, 1) := by decide +kernel
theorem dX1_timeOf_10 : decode cX1_timeOf 10 = .ok (.iaload, 1) := by decide +kernel
theorem dX1_timeOf_11 : decode cX1_timeOf 11 = .ok (.if_icmp .ge 39, 3) := by decide +kernel
theorem dX1_timeOf_14 : decode cX1_timeOf 14 = .ok (.iload_n 2, 1) := by decide +kernel
theorem dX1_timeOf_15 : decode cX1_timeOf 15 = .ok (.aload_n 0, 1) := by decide +kernel
theorem dX1_timeOf_16 : decode cX1_timeOf 16 = .ok (.getfield 24, 3) := by decide +kernel
theorem dX1_timeOf_19 : decode cX1_timeOf 19 = .ok (.getfield 58, 3) := by decide +kernel
theorem dX1_timeOf_22 : decode cX1_timeOf 22 = .ok (.aload_n 0, 1) := by decide +kernel
theorem dX1_timeOf_23 : decode cX1_timeOf 23 = .ok (.getfield 24, 3) := by decide +kernel
theorem dX1_timeOf_26 : decode cX1_timeOf 26 = .ok (.getfield 48, 3) := by decide +kernel
theorem dX1_timeOf_29 : decode cX1_timeOf 29 = .ok (.aload_n 0, 1) := by decide +kernel
theorem dX1_timeOf_30 : decode cX1_timeOf 30 = .ok (.getfield 11, 3) := by decide +kernel
theorem dX1_timeOf_33 : decode cX1_timeOf 33 = .ok (.iload_n 1, 1) := by decide +kernel
theorem dX1_timeOf_34 : decode cX1_timeOf 34 = .ok (.bipush 8, 2) := by decide +kernel
theorem dX1_timeOf_36 : decode cX1_timeOf 36 = .ok (.imul, 1) := by decide +kernel
theorem dX1_timeOf_37 : decode cX1_timeOf 37 = .ok (.iload_n 3, 1) := by decide +kernel
theorem dX1_timeOf_38 : decode cX1_timeOf 38 = .ok (.iadd, 1) := by decide +kernel
theorem dX1_timeOf_39 : decode cX1_timeOf 39 = .ok (.iaload, 1) := by decide +kernel
theorem dX1_timeOf_40 : decode cX1_timeOf 40 = .ok (.iaload, 1) := by decide +kernel
theorem dX1_timeOf_41 : decode cX1_timeOf 41 = .ok (.iaload, 1) := by decide +kernel
theorem dX1_timeOf_42 : decode cX1_timeOf 42 = .ok (.iadd, 1) := by decide +kernel
theorem dX1_timeOf_43 : decode cX1_timeOf 43 = .ok (.istore_n 2, 1) := by decide +kernel
theorem dX1_timeOf_44 : decode cX1_timeOf 44 = .ok (.iinc 3 1, 3) := by decide +kernel
theorem dX1_timeOf_47 : decode cX1_timeOf 47 = .ok (.goto (-43), 3) := by decide +kernel
theorem dX1_timeOf_50 : decode cX1_timeOf 50 = .ok (.iload_n 2, 1) := by decide +kernel
theorem dX1_timeOf_51 : decode cX1_timeOf 51 = .ok (.ireturn, 1) := by decide +kernel
theorem dX1_cardsOf_0 : decode cX1_cardsOf 0 = .ok (.iconst 0, 1) := by decide +kernel
theorem dX1_cardsOf_1 : decode cX1_cardsOf 1 = .ok (.istore_n 3, 1) := by decide +kernel
theorem dX1_cardsOf_2 : decode cX1_cardsOf 2 = .ok (.iconst 0, 1) := by decide +kernel
theorem dX1_cardsOf_3 : decode cX1_cardsOf 3 = .ok (.istore 4, 2) := by decide +kernel
theorem dX1_cardsOf_5 : decode cX1_cardsOf 5 = .ok (.iload 4, 2) := by decide +kernel
theorem dX1_cardsOf_7 : decode cX1_cardsOf 7 = .ok (.aload_n 0, 1) := by decide +kernel
theorem dX1_cardsOf_8 : decode cX1_cardsOf 8 = .ok (.getfield 15, 3) := by decide +kernel
theorem dX1_cardsOf_11 : decode cX1_cardsOf 11 = .ok (.iload_n 1, 1) := by decide +kernel
theorem dX1_cardsOf_12 : decode cX1_cardsOf 12 = .ok (.iaload, 1) := by decide +kernel
theorem dX1_cardsOf_13 : decode cX1_cardsOf 13 = .ok (.if_icmp .ge 26, 3) := by decide +kernel
theorem dX1_cardsOf_16 : decode cX1_cardsOf 16 = .ok (.iload_n 3, 1) := by decide +kernel
theorem dX1_cardsOf_17 : decode cX1_cardsOf 17 = .ok (.aload_n 2, 1) := by decide +kernel
theorem dX1_cardsOf_18 : decode cX1_cardsOf 18 = .ok (.aload_n 0, 1) := by decide +kernel
theorem dX1_cardsOf_19 : decode cX1_cardsOf 19 = .ok (.getfield 11, 3) := by decide +kernel
theorem dX1_cardsOf_22 : decode cX1_cardsOf 22 = .ok (.iload_n 1, 1) := by decide +kernel
theorem dX1_cardsOf_23 : decode cX1_cardsOf 23 = .ok (.bipush 8, 2) := by decide +kernel
theorem dX1_cardsOf_25 : decode cX1_cardsOf 25 = .ok (.imul, 1) := by decide +kernel
theorem dX1_cardsOf_26 : decode cX1_cardsOf 26 = .ok (.iload 4, 2) := by decide +kernel
theorem dX1_cardsOf_28 : decode cX1_cardsOf 28 = .ok (.iadd, 1) := by decide +kernel
theorem dX1_cardsOf_29 : decode cX1_cardsOf 29 = .ok (.iaload, 1) := by decide +kernel
theorem dX1_cardsOf_30 : decode cX1_cardsOf 30 = .ok (.iaload, 1) := by decide +kernel
theorem dX1_cardsOf_31 : decode cX1_cardsOf 31 = .ok (.iadd, 1) := by decide +kernel
theorem dX1_cardsOf_32 : decode cX1_cardsOf 32 = .ok (.istore_n 3, 1) := by decide +kernel
theorem dX1_cardsOf_33 : decode cX1_cardsOf 33 = .ok (.iinc 4 1, 3) := by decide +kernel
theorem dX1_cardsOf_36 : decode cX1_cardsOf 36 = .ok (.goto (-31), 3) := by decide +kernel
theorem dX1_cardsOf_39 : decode cX1_cardsOf 39 = .ok (.iload_n 3, 1) := by decide +kernel
theorem dX1_cardsOf_40 : decode cX1_cardsOf 40 = .ok (.ireturn, 1) := by decide +kernel
theorem dX1_passes_0 : decode cX1_passes 0 = .ok (.iconst 0, 1) := by decide +kernel
theorem dX1_passes_1 : decode cX1_passes 1 = .ok (.istore_n 3, 1) := by decide +kernel
theorem dX1_passes_2 : decode cX1_passes 2 = .ok (.iload_n 3, 1) := by decide +kernel
theorem dX1_passes_3 : decode cX1_passes 3 = .ok (.aload_n 0, 1) := by decide +kernel
theorem dX1_passes_4 : decode cX1_passes 4 = .ok (.getfield 15, 3) := by decide +kernel
theorem dX1_passes_7 : decode cX1_passes 7 = .ok (.iload_n 1, 1) := by decide +kernel
theorem dX1_passes_8 : decode cX1_passes 8 = .ok (.iaload, 1) := by decide +kernel
theorem dX1_passes_9 : decode cX1_passes 9 = .ok (.if_icmp .ge 26, 3) := by decide +kernel
theorem dX1_passes_12 : decode cX1_passes 12 = .ok (.aload_n 0, 1) := by decide +kernel
theorem dX1_passes_13 : decode cX1_passes 13 = .ok (.getfield 11, 3) := by decide +kernel
theorem dX1_passes_16 : decode cX1_passes 16 = .ok (.iload_n 1, 1) := by decide +kernel
theorem dX1_passes_17 : decode cX1_passes 17 = .ok (.bipush 8, 2) := by decide +kernel
theorem dX1_passes_19 : decode cX1_passes 19 = .ok (.imul, 1) := by decide +kernel
theorem dX1_passes_20 : decode cX1_passes 20 = .ok (.iload_n 3, 1) := by decide +kernel
theorem dX1_passes_21 : decode cX1_passes 21 = .ok (.iadd, 1) := by decide +kernel
theorem dX1_passes_22 : decode cX1_passes 22 = .ok (.iaload, 1) := by decide +kernel
theorem dX1_passes_23 : decode cX1_passes 23 = .ok (.iload_n 2, 1) := by decide +kernel
theorem dX1_passes_24 : decode cX1_passes 24 = .ok (.if_icmp .ne 5, 3) := by decide +kernel
theorem dX1_passes_27 : decode cX1_passes 27 = .ok (.iconst 1, 1) := by decide +kernel
theorem dX1_passes_28 : decode cX1_passes 28 = .ok (.ireturn, 1) := by decide +kernel
theorem dX1_passes_29 : decode cX1_passes 29 = .ok (.iinc 3 1, 3) := by decide +kernel
theorem dX1_passes_32 : decode cX1_passes 32 = .ok (.goto (-30), 3) := by decide +kernel
theorem dX1_passes_35 : decode cX1_passes 35 = .ok (.iconst 0, 1) := by decide +kernel
theorem dX1_passes_36 : decode cX1_passes 36 = .ok (.ireturn, 1) := by decide +kernel
theorem dX1_findSlowest_0 : decode cX1_findSlowest 0 = .ok (.bipush (-9), 2) := by decide +kernel
theorem dX1_findSlowest_2 : decode cX1_findSlowest 2 = .ok (.istore_n 1, 1) := by decide +kernel
theorem dX1_findSlowest_3 : decode cX1_findSlowest 3 = .ok (.iconst 0, 1) := by decide +kernel
theorem dX1_findSlowest_4 : decode cX1_findSlowest 4 = .ok (.istore_n 2, 1) := by decide +kernel
theorem dX1_findSlowest_5 : decode cX1_findSlowest 5 = .ok (.iconst 1, 1) := by decide +kernel
theorem dX1_findSlowest_6 : decode cX1_findSlowest 6 = .ok (.istore_n 3, 1) := by decide +kernel
theorem dX1_findSlowest_7 : decode cX1_findSlowest 7 = .ok (.iconst 0, 1) := by decide +kernel
theorem dX1_findSlowest_8 : decode cX1_findSlowest 8 = .ok (.istore 4, 2) := by decide +kernel
theorem dX1_findSlowest_10 : decode cX1_findSlowest 10 = .ok (.iload 4, 2) := by decide +kernel
theorem dX1_findSlowest_12 : decode cX1_findSlowest 12 = .ok (.aload_n 0, 1) := by decide +kernel
theorem dX1_findSlowest_13 : decode cX1_findSlowest 13 = .ok (.getfield 28, 3) := by decide +kernel
theorem dX1_findSlowest_16 : decode cX1_findSlowest 16 = .ok (.if_icmp .ge 52, 3) := by decide +kernel
theorem dX1_findSlowest_19 : decode cX1_findSlowest 19 = .ok (.aload_n 0, 1) := by decide +kernel
theorem dX1_findSlowest_20 : decode cX1_findSlowest 20 = .ok (.iload 4, 2) := by decide +kernel
theorem dX1_findSlowest_22 : decode cX1_findSlowest 22 = .ok (.invokevirtual 61, 3) := by decide +kernel
theorem dX1_findSlowest_25 : decode cX1_findSlowest 25 = .ok (.istore 5, 2) := by decide +kernel
theorem dX1_findSlowest_27 : decode cX1_findSlowest 27 = .ok (.aload_n 0, 1) := by decide +kernel
theorem dX1_findSlowest_28 : decode cX1_findSlowest 28 = .ok (.iload 4, 2) := by decide +kernel
theorem dX1_findSlowest_30 : decode cX1_findSlowest 30 = .ok (.aload_n 0, 1) := by decide +kernel
theorem dX1_findSlowest_31 : decode cX1_findSlowest 31 = .ok (.getfield 24, 3) := by decide +kernel
theorem dX1_findSlowest_34 : decode cX1_findSlowest 34 = .ok (.getfield 65, 3) := by decide +kernel
theorem dX1_findSlowest_37 : decode cX1_findSlowest 37 = .ok (.invokevirtual 68, 3) := by decide +kernel
theorem dX1_findSlowest_40 : decode cX1_findSlowest 40 = .ok (.istore 6, 2) := by decide +kernel
theorem dX1_findSlowest_42 : decode cX1_findSlowest 42 = .ok (.iload 5, 2) := by decide +kernel
theorem dX1_findSlowest_44 : decode cX1_findSlowest 44 = .ok (.iload_n 3, 1) := by decide +kernel
theorem dX1_findSlowest_45 : decode cX1_findSlowest 45 = .ok (.imul, 1) := by decide +kernel
theorem dX1_findSlowest_46 : decode cX1_findSlowest 46 = .ok (.iload_n 2, 1) := by decide +kernel
theorem dX1_findSlowest_47 : decode cX1_findSlowest 47 = .ok (.iload 6, 2) := by decide +kernel
theorem dX1_findSlowest_49 : decode cX1_findSlowest 49 = .ok (.imul, 1) := by decide +kernel
theorem dX1_findSlowest_50 : decode cX1_findSlowest 50 = .ok (.if_icmp .le 12, 3) := by decide +kernel
theorem dX1_findSlowest_53 : decode cX1_findSlowest 53 = .ok (.iload 4, 2) := by decide +kernel
theorem dX1_findSlowest_55 : decode cX1_findSlowest 55 = .ok (.istore_n 1, 1) := by decide +kernel
theorem dX1_findSlowest_56 : decode cX1_findSlowest 56 = .ok (.iload 5, 2) := by decide +kernel
theorem dX1_findSlowest_58 : decode cX1_findSlowest 58 = .ok (.istore_n 2, 1) := by decide +kernel
theorem dX1_findSlowest_59 : decode cX1_findSlowest 59 = .ok (.iload 6, 2) := by decide +kernel
theorem dX1_findSlowest_61 : decode cX1_findSlowest 61 = .ok (.istore_n 3, 1) := by decide +kernel
theorem dX1_findSlowest_62 : decode cX1_findSlowest 62 = .ok (.iinc 4 1, 3) := by decide +kernel
theorem dX1_findSlowest_65 : decode cX1_findSlowest 65 = .ok (.goto (-55), 3) := by decide +kernel
theorem dX1_findSlowest_68 : decode cX1_findSlowest 68 = .ok (.iload_n 1, 1) := by decide +kernel
theorem dX1_findSlowest_69 : decode cX1_findSlowest 69 = .ok (.ireturn, 1) := by decide +kernel
theorem dX1_forgetNote_0 : decode cX1_forgetNote 0 = .ok (.aload_n 0, 1) := by decide +kernel
theorem dX1_forgetNote_1 : decode cX1_forgetNote 1 = .ok (.iconst 0, 1) := by decide +kernel
theorem dX1_forgetNote_2 : decode cX1_forgetNote 2 = .ok (.putfield 72, 3) := by decide +kernel
theorem dX1_forgetNote_5 : decode cX1_forgetNote 5 = .ok (.return_, 1) := by decide +kernel
theorem dX1_takeNote_0 : decode cX1_takeNote 0 = .ok (.aload_n 0, 1) := by decide +kernel
theorem dX1_takeNote_1 : decode cX1_takeNote 1 = .ok (.getfield 24, 3) := by decide +kernel
theorem dX1_takeNote_4 : decode cX1_takeNote 4 = .ok (.getfield 65, 3) := by decide +kernel
theorem dX1_takeNote_7 : decode cX1_takeNote 7 = .ok (.iconst 0, 1) := by decide +kernel
theorem dX1_takeNote_8 : decode cX1_takeNote 8 = .ok (.aload_n 0, 1) := by decide +kernel
theorem dX1_takeNote_9 : decode cX1_takeNote 9 = .ok (.getfield 21, 3) := by decide +kernel
theorem dX1_takeNote_12 : decode cX1_takeNote 12 = .ok (.iconst 0, 1) := by decide +kernel
theorem dX1_takeNote_13 : decode cX1_takeNote 13 = .ok (.bipush 16, 2) := by decide +kernel
theorem dX1_takeNote_15 : decode cX1_takeNote 15 = .ok (.invokestatic 76, 3) := by decide +kernel
theorem dX1_takeNote_18 : decode cX1_takeNote 18 = .ok (.aload_n 0, 1) := by decide +kernel
theorem dX1_takeNote_19 : decode cX1_takeNote 19 = .ok (.iconst 1, 1) := by decide +kernel
theorem dX1_takeNote_20 : decode cX1_takeNote 20 = .ok (.putfield 72, 3) := by decide +kernel
theorem dX1_takeNote_23 : decode cX1_takeNote 23 = .ok (.return_, 1) := by decide +kernel
theorem dX1_countChanged_0 : decode cX1_countChanged 0 = .ok (.iconst 0, 1) := by decide +kernel
theorem dX1_countChanged_1 : decode cX1_countChanged 1 = .ok (.istore_n 2, 1) := by decide +kernel
theorem dX1_countChanged_2 : decode cX1_countChanged 2 = .ok (.iconst 0, 1) := by decide +kernel
theorem dX1_countChanged_3 : decode cX1_countChanged 3 = .ok (.istore_n 3, 1) := by decide +kernel
theorem dX1_countChanged_4 : decode cX1_countChanged 4 = .ok (.iload_n 3, 1) := by decide +kernel
theorem dX1_countChanged_5 : decode cX1_countChanged 5 = .ok (.aload_n 0, 1) := by decide +kernel
theorem dX1_countChanged_6 : decode cX1_countChanged 6 = .ok (.getfield 28, 3) := by decide +kernel
theorem dX1_countChanged_9 : decode cX1_countChanged 9 = .ok (.if_icmp .ge 53, 3) := by decide +kernel
theorem dX1_countChanged_12 : decode cX1_countChanged 12 = .ok (.aload_n 0, 1) := by decide +kernel
theorem dX1_countChanged_13 : decode cX1_countChanged 13 = .ok (.iload_n 3, 1) := by decide +kernel
theorem dX1_countChanged_14 : decode cX1_countChanged 14 = .ok (.aload_n 0, 1) := by decide +kernel
theorem dX1_countChanged_15 : decode cX1_countChanged 15 = .ok (.getfield 24, 3) := by decide +kernel
theorem dX1_countChanged_18 : decode cX1_countChanged 18 = .ok (.getfield 65, 3) := by decide +kernel
theorem dX1_countChanged_21 : decode cX1_countChanged 21 = .ok (.invokevirtual 68, 3) := by decide +kernel
theorem dX1_countChanged_24 : decode cX1_countChanged 24 = .ok (.aload_n 0, 1) := by decide +kernel
theorem dX1_countChanged_25 : decode cX1_countChanged 25 = .ok (.iload_n 3, 1) := by decide +kernel
theorem dX1_countChanged_26 : decode cX1_countChanged 26 = .ok (.aload_n 0, 1) := by decide +kernel
theorem dX1_countChanged_27 : decode cX1_countChanged 27 = .ok (.getfield 21, 3) := by decide +kernel
theorem dX1_countChanged_30 : decode cX1_countChanged 30 = .ok (.invokevirtual 68, 3) := by decide +kernel
theorem dX1_countChanged_33 : decode cX1_countChanged 33 = .ok (.isub, 1) := by decide +kernel
theorem dX1_countChanged_34 : decode cX1_countChanged 34 = .ok (.istore 4, 2) := by decide +kernel
theorem dX1_countChanged_36 : decode cX1_countChanged 36 = .ok (.iload_n 1, 1) := by decide +kernel
theorem dX1_countChanged_37 : decode cX1_countChanged 37 = .ok (.ifCond .eq 11, 3) := by decide +kernel
theorem dX1_countChanged_40 : decode cX1_countChanged 40 = .ok (.iload 4, 2) := by decide +kernel
theorem dX1_countChanged_42 : decode cX1_countChanged 42 = .ok (.ifCond .ge 14, 3) := by decide +kernel
theorem dX1_countChanged_45 : decode cX1_countChanged 45 = .ok (.goto 8, 3) := by decide +kernel
theorem dX1_countChanged_48 : decode cX1_countChanged 48 = .ok (.iload 4, 2) := by decide +kernel
theorem dX1_countChanged_50 : decode cX1_countChanged 50 = .ok (.ifCond .le 6, 3) := by decide +kernel
theorem dX1_countChanged_53 : decode cX1_countChanged 53 = .ok (.iinc 2 1, 3) := by decide +kernel
theorem dX1_countChanged_56 : decode cX1_countChanged 56 = .ok (.iinc 3 1, 3) := by decide +kernel
theorem dX1_countChanged_59 : decode cX1_countChanged 59 = .ok (.goto (-55), 3) := by decide +kernel
theorem dX1_countChanged_62 : decode cX1_countChanged 62 = .ok (.iload_n 2, 1) := by decide +kernel
theorem dX1_countChanged_63 : decode cX1_countChanged 63 = .ok (.ireturn, 1) := by decide +kernel
theorem dX1_cardsToReach_0 : decode cX1_cardsToReach 0 = .ok (.iconst 0, 1) := by decide +kernel
theorem dX1_cardsToReach_1 : decode cX1_cardsToReach 1 = .ok (.istore 4, 2) := by decide +kernel
theorem dX1_cardsToReach_3 : decode cX1_cardsToReach 3 = .ok (.iconst 0, 1) := by decide +kernel
theorem dX1_cardsToReach_4 : decode cX1_cardsToReach 4 = .ok (.istore 5, 2) := by decide +kernel
theorem dX1_cardsToReach_6 : decode cX1_cardsToReach 6 = .ok (.iload 5, 2) := by decide +kernel
theorem dX1_cardsToReach_8 : decode cX1_cardsToReach 8 = .ok (.aload_n 0, 1) := by decide +kernel
theorem dX1_cardsToReach_9 : decode cX1_cardsToReach 9 = .ok (.getfield 28, 3) := by decide +kernel
theorem dX1_cardsToReach_12 : decode cX1_cardsToReach 12 = .ok (.if_icmp .ge 70, 3) := by decide +kernel
theorem dX1_cardsToReach_15 : decode cX1_cardsToReach 15 = .ok (.aload_n 0, 1) := by decide +kernel
theorem dX1_cardsToReach_16 : decode cX1_cardsToReach 16 = .ok (.iload 5, 2) := by decide +kernel
theorem dX1_cardsToReach_18 : decode cX1_cardsToReach 18 = .ok (.invokevirtual 61, 3) := by decide +kernel
theorem dX1_cardsToReach_21 : decode cX1_cardsToReach 21 = .ok (.iload_n 3, 1) := by decide +kernel
theorem dX1_cardsToReach_22 : decode cX1_cardsToReach 22 = .ok (.imul, 1) := by decide +kernel
theorem dX1_cardsToReach_23 : decode cX1_cardsToReach 23 = .ok (.iload_n 2, 1) := by decide +kernel
theorem dX1_cardsToReach_24 : decode cX1_cardsToReach 24 = .ok (.iadd, 1) := by decide +kernel
theorem dX1_cardsToReach_25 : decode cX1_cardsToReach 25 = .ok (.iconst 1, 1) := by decide +kernel
theorem dX1_cardsToReach_26 : decode cX1_cardsToReach 26 = .ok (.isub, 1) := by decide +kernel
theorem dX1_cardsToReach_27 : decode cX1_cardsToReach 27 = .ok (.iload_n 2, 1) := by decide +kernel
theorem dX1_cardsToReach_28 : decode cX1_cardsToReach 28 = .ok (.idiv, 1) := by decide +kernel
theorem dX1_cardsToReach_29 : decode cX1_cardsToReach 29 = .ok (.istore 6, 2) := by decide +kernel
theorem dX1_cardsToReach_31 : decode cX1_cardsToReach 31 = .ok (.iload 6, 2) := by decide +kernel
theorem dX1_cardsToReach_33 : decode cX1_cardsToReach 33 = .ok (.aload_n 0, 1) := by decide +kernel
theorem dX1_cardsToReach_34 : decode cX1_cardsToReach 34 = .ok (.iload 5, 2) := by decide +kernel
theorem dX1_cardsToReach_36 : decode cX1_cardsToReach 36 = .ok (.aload_n 0, 1) := by decide +kernel
theorem dX1_cardsToReach_37 : decode cX1_cardsToReach 37 = .ok (.getfield 24, 3) := by decide +kernel
theorem dX1_cardsToReach_40 : decode cX1_cardsToReach 40 = .ok (.getfield 65, 3) := by decide +kernel
theorem dX1_cardsToReach_43 : decode cX1_cardsToReach 43 = .ok (.invokevirtual 68, 3) := by decide +kernel
theorem dX1_cardsToReach_46 : decode cX1_cardsToReach 46 = .ok (.isub, 1) := by decide +kernel
theorem dX1_cardsToReach_47 : decode cX1_cardsToReach 47 = .ok (.istore 7, 2) := by decide +kernel
theorem dX1_cardsToReach_49 : decode cX1_cardsToReach 49 = .ok (.iload 7, 2) := by decide +kernel
theorem dX1_cardsToReach_51 : decode cX1_cardsToReach 51 = .ok (.ifCond .le 16, 3) := by decide +kernel
theorem dX1_cardsToReach_54 : decode cX1_cardsToReach 54 = .ok (.aload_n 0, 1) := by decide +kernel
theorem dX1_cardsToReach_55 : decode cX1_cardsToReach 55 = .ok (.iload 5, 2) := by decide +kernel
theorem dX1_cardsToReach_57 : decode cX1_cardsToReach 57 = .ok (.iload_n 1, 1) := by decide +kernel
theorem dX1_cardsToReach_58 : decode cX1_cardsToReach 58 = .ok (.invokevirtual 82, 3) := by decide +kernel
theorem dX1_cardsToReach_61 : decode cX1_cardsToReach 61 = .ok (.ifCond .ne 6, 3) := by decide +kernel
theorem dX1_cardsToReach_64 : decode cX1_cardsToReach 64 = .ok (.bipush (-9), 2) := by decide +kernel
theorem dX1_cardsToReach_66 : decode cX1_cardsToReach 66 = .ok (.ireturn, 1) := by decide +kernel
theorem dX1_cardsToReach_67 : decode cX1_cardsToReach 67 = .ok (.iload 4, 2) := by decide +kernel
theorem dX1_cardsToReach_69 : decode cX1_cardsToReach 69 = .ok (.iload 7, 2) := by decide +kernel
theorem dX1_cardsToReach_71 : decode cX1_cardsToReach 71 = .ok (.invokestatic 86, 3) := by decide +kernel
theorem dX1_cardsToReach_74 : decode cX1_cardsToReach 74 = .ok (.istore 4, 2) := by decide +kernel
theorem dX1_cardsToReach_76 : decode cX1_cardsToReach 76 = .ok (.iinc 5 1, 3) := by decide +kernel
theorem dX1_cardsToReach_79 : decode cX1_cardsToReach 79 = .ok (.goto (-73), 3) := by decide +kernel
theorem dX1_cardsToReach_82 : decode cX1_cardsToReach 82 = .ok (.aload_n 0, 1) := by decide +kernel
theorem dX1_cardsToReach_83 : decode cX1_cardsToReach 83 = .ok (.getfield 24, 3) := by decide +kernel
theorem dX1_cardsToReach_86 : decode cX1_cardsToReach 86 = .ok (.getfield 65, 3) := by decide +kernel
theorem dX1_cardsToReach_89 : decode cX1_cardsToReach 89 = .ok (.iload_n 1, 1) := by decide +kernel
theorem dX1_cardsToReach_90 : decode cX1_cardsToReach 90 = .ok (.iaload, 1) := by decide +kernel
theorem dX1_cardsToReach_91 : decode cX1_cardsToReach 91 = .ok (.iload 4, 2) := by decide +kernel
theorem dX1_cardsToReach_93 : decode cX1_cardsToReach 93 = .ok (.iadd, 1) := by decide +kernel
theorem dX1_cardsToReach_94 : decode cX1_cardsToReach 94 = .ok (.bipush 9, 2) := by decide +kernel
theorem dX1_cardsToReach_96 : decode cX1_cardsToReach 96 = .ok (.if_icmp .le 8, 3) := by decide +kernel
theorem dX1_cardsToReach_99 : decode cX1_cardsToReach 99 = .ok (.bipush (-9), 2) := by decide +kernel
theorem dX1_cardsToReach_101 : decode cX1_cardsToReach 101 = .ok (.goto 5, 3) := by decide +kernel
theorem dX1_cardsToReach_104 : decode cX1_cardsToReach 104 = .ok (.iload 4, 2) := by decide +kernel
theorem dX1_cardsToReach_106 : decode cX1_cardsToReach 106 = .ok (.ireturn, 1) := by decide +kernel
theorem dX2_init_0 : decode cX2_init 0 = .ok (.aload_n 0, 1) := by decide +kernel
theorem dX2_init_1 : decode cX2_init 1 = .ok (.invokespecial 3, 3) := by decide +kernel
theorem dX2_init_4 : decode cX2_init 4 = .ok (.aload_n 0, 1) := by decide +kernel
theorem dX2_init_5 : decode cX2_init 5 = .ok (.iconst 2, 1) := by decide +kernel
theorem dX2_init_6 : decode cX2_init 6 = .ok (.newarray .int, 2) := by decide +kernel
theorem dX2_init_8 : decode cX2_init 8 = .ok (.putfield 9, 3) := by decide +kernel
theorem dX2_init_11 : decode cX2_init 11 = .ok (.aload_n 0, 1) := by decide +kernel
theorem dX2_init_12 : decode cX2_init 12 = .ok (.iconst 2, 1) := by decide +kernel
theorem dX2_init_13 : decode cX2_init 13 = .ok (.newarray .int, 2) := by decide +kernel
theorem dX2_init_15 : decode cX2_init 15 = .ok (.putfield 15, 3) := by decide +kernel
theorem dX2_init_18 : decode cX2_init 18 = .ok (.aload_n 0, 1) := by decide +kernel
theorem dX2_init_19 : decode cX2_init 19 = .ok (.bipush 16, 2) := by decide +kernel
theorem dX2_init_21 : decode cX2_init 21 = .ok (.newarray .int, 2) := by decide +kernel
theorem dX2_init_23 : decode cX2_init 23 = .ok (.putfield 18, 3) := by decide +kernel
theorem dX2_init_26 : decode cX2_init 26 = .ok (.aload_n 0, 1) := by decide +kernel
theorem dX2_init_27 : decode cX2_init 27 = .ok (.sipush 308, 3) := by decide +kernel
theorem dX2_init_30 : decode cX2_init 30 = .ok (.newarray .long, 2) := by decide +kernel
theorem dX2_init_32 : decode cX2_init 32 = .ok (.putfield 21, 3) := by decide +kernel
theorem dX2_init_35 : decode cX2_init 35 = .ok (.aload_n 0, 1) := by decide +kernel
theorem dX2_init_36 : decode cX2_init 36 = .ok (.sipush 308, 3) := by decide +kernel
theorem dX2_init_39 : decode cX2_init 39 = .ok (.newarray .long, 2) := by decide +kernel
theorem dX2_init_41 : decode cX2_init 41 = .ok (.putfield 25, 3) := by decide +kernel
theorem dX2_init_44 : decode cX2_init 44 = .ok (.return_, 1) := by decide +kernel
theorem dX2_weightInAll_0 : decode cX2_weightInAll 0 = .ok (.lconst 1, 1) := by decide +kernel
theorem dX2_weightInAll_1 : decode cX2_weightInAll 1 = .ok (.iconst 4, 1) := by decide +kernel
theorem dX2_weightInAll_2 : decode cX2_weightInAll 2 = .ok (.iload_n 0, 1) := by decide +kernel
theorem dX2_weightInAll_3 : decode cX2_weightInAll 3 = .ok (.imul, 1) := by decide +kernel
theorem dX2_weightInAll_4 : decode cX2_weightInAll 4 = .ok (.lshl, 1) := by decide +kernel
theorem dX2_weightInAll_5 : decode cX2_weightInAll 5 = .ok (.lreturn, 1) := by decide +kernel
theorem dX2_cell_0 : decode cX2_cell 0 = .ok (.iload_n 0, 1) := by decide +kernel
theorem dX2_cell_1 : decode cX2_cell 1 = .ok (.bipush 7, 2) := by decide +kernel
theorem dX2_cell_3 : decode cX2_cell 3 = .ok (.imul, 1) := by decide +kernel
theorem dX2_cell_4 : decode cX2_cell 4 = .ok (.iload_n 1, 1) := by decide +kernel
theorem dX2_cell_5 : decode cX2_cell 5 = .ok (.iadd, 1) := by decide +kernel
theorem dX2_cell_6 : decode cX2_cell 6 = .ok (.bipush 11, 2) := by decide +kernel
theorem dX2_cell_8 : decode cX2_cell 8 = .ok (.imul, 1) := by decide +kernel
theorem dX2_cell_9 : decode cX2_cell 9 = .ok (.iload_n 2, 1) := by decide +kernel
theorem dX2_cell_10 : decode cX2_cell 10 = .ok (.iadd, 1) := by decide +kernel
theorem dX2_cell_11 : decode cX2_cell 11 = .ok (.ireturn, 1) := by decide +kernel
theorem dX2_weighMean_0 : decode cX2_weighMean 0 = .ok (.aload_n 0, 1) := by decide +kernel
theorem dX2_weighMean_1 : decode cX2_weighMean 1 = .ok (.invokevirtual 28, 3) := by decide +kernel
theorem dX2_weighMean_4 : decode cX2_weighMean 4 = .ok (.lconst 0, 1) := by decide +kernel
theorem dX2_weighMean_5 : decode cX2_weighMean 5 = .ok (.lstore_n 3, 1) := by decide +kernel
theorem dX2_weighMean_6 : decode cX2_weighMean 6 = .ok (.iconst 0, 1) := by decide +kernel
theorem dX2_weighMean_7 : decode cX2_weighMean 7 = .ok (.istore 5, 2) := by decide +kernel
theorem dX2_weighMean_9 : decode cX2_weighMean 9 = .ok (.iload 5, 2) := by decide +kernel
theorem dX2_weighMean_11 : decode cX2_weighMean 11 = .ok (.iload_n 1, 1) := by decide +kernel
theorem dX2_weighMean_12 : decode cX2_weighMean 12 = .ok (.if_icmp .ge 27, 3) := by decide +kernel
theorem dX2_weighMean_15 : decode cX2_weighMean 15 = .ok (.lload_n 3, 1) := by decide +kernel
theorem dX2_weighMean_16 : decode cX2_weighMean 16 = .ok (.ldc2_w 31, 3) := by decide +kernel
theorem dX2_weighMean_19 : decode cX2_weighMean 19 = .ok (.lmul, 1) := by decide +kernel
theorem dX2_weighMean_20 : decode cX2_weighMean 20 = .ok (.ldc2_w 31, 3) := by decide +kernel
theorem dX2_weighMean_23 : decode cX2_weighMean 23 = .ok (.lmul, 1) := by decide +kernel
theorem dX2_weighMean_24 : decode cX2_weighMean 24 = .ok (.aload_n 0, 1) := by decide +kernel
theorem dX2_weighMean_25 : decode cX2_weighMean 25 = .ok (.iload_n 2, 1) := by decide +kernel
theorem dX2_weighMean_26 : decode cX2_weighMean 26 = .ok (.iconst 0, 1) := by decide +kernel
theorem dX2_weighMean_27 : decode cX2_weighMean 27 = .ok (.iconst 0, 1) := by decide +kernel
theorem dX2_weighMean_28 : decode cX2_weighMean 28 = .ok (.invokevirtual 33, 3) := by decide +kernel
theorem dX2_weighMean_31 : decode cX2_weighMean 31 = .ok (.ladd, 1) := by decide +kernel
theorem dX2_weighMean_32 : decode cX2_weighMean 32 = .ok (.lstore_n 3, 1) := by decide +kernel
theorem dX2_weighMean_33 : decode cX2_weighMean 33 = .ok (.iinc 5 1, 3) := by decide +kernel
theorem dX2_weighMean_36 : decode cX2_weighMean 36 = .ok (.goto (-27), 3) := by decide +kernel
theorem dX2_weighMean_39 : decode cX2_weighMean 39 = .ok (.lload_n 3, 1) := by decide +kernel
theorem dX2_weighMean_40 : decode cX2_weighMean 40 = .ok (.lreturn, 1) := by decide +kernel
theorem dX2_weighCount_0 : decode cX2_weighCount 0 = .ok (.aload_n 0, 1) := by decide +kernel
theorem dX2_weighCount_1 : decode cX2_weighCount 1 = .ok (.invokevirtual 28, 3) := by decide +kernel
theorem dX2_weighCount_4 : decode cX2_weighCount 4 = .ok (.iconst 0, 1) := by decide +kernel
theorem dX2_weighCount_5 : decode cX2_weighCount 5 = .ok (.istore_n 3, 1) := by decide +kernel
theorem dX2_weighCount_6 : decode cX2_weighCount 6 = .ok (.iload_n 3, 1) := by decide +kernel
theorem dX2_weighCount_7 : decode cX2_weighCount 7 = .ok (.iload_n 1, 1) := by decide +kernel
theorem dX2_weighCount_8 : decode cX2_weighCount 8 = .ok (.if_icmp .ge 20, 3) := by decide +kernel
theorem dX2_weighCount_11 : decode cX2_weighCount 11 = .ok (.aload_n 0, 1) := by decide +kernel
theorem dX2_weighCount_12 : decode cX2_weighCount 12 = .ok (.aload_n 0, 1) := by decide +kernel
theorem dX2_weighCount_13 : decode cX2_weighCount 13 = .ok (.getfield 37, 3) := by decide +kernel
theorem dX2_weighCount_16 : decode cX2_weighCount 16 = .ok (.iload_n 2, 1) := by decide +kernel
theorem dX2_weighCount_17 : decode cX2_weighCount 17 = .ok (.iconst 1, 1) := by decide +kernel
theorem dX2_weighCount_18 : decode cX2_weighCount 18 = .ok (.invokevirtual 33, 3) := by decide +kernel
theorem dX2_weighCount_21 : decode cX2_weighCount 21 = .ok (.pop2, 1) := by decide +kernel
theorem dX2_weighCount_22 : decode cX2_weighCount 22 = .ok (.iinc 3 1, 3) := by decide +kernel
theorem dX2_weighCount_25 : decode cX2_weighCount 25 = .ok (.goto (-19), 3) := by decide +kernel
theorem dX2_weighCount_28 : decode cX2_weighCount 28 = .ok (.lconst 0, 1) := by decide +kernel
theorem dX2_weighCount_29 : decode cX2_weighCount 29 = .ok (.lstore_n 3, 1) := by decide +kernel
theorem dX2_weighCount_30 : decode cX2_weighCount 30 = .ok (.iconst 0, 1) := by decide +kernel
theorem dX2_weighCount_31 : decode cX2_weighCount 31 = .ok (.istore 5, 2) := by decide +kernel
theorem dX2_weighCount_33 : decode cX2_weighCount 33 = .ok (.iload 5, 2) := by decide +kernel
theorem dX2_weighCount_35 : decode cX2_weighCount 35 = .ok (.iconst 4, 1) := by decide +kernel
theorem dX2_weighCount_36 : decode cX2_weighCount 36 = .ok (.if_icmp .ge 43, 3) := by decide +kernel
theorem dX2_weighCount_39 : decode cX2_weighCount 39 = .ok (.iconst 0, 1) := by decide +kernel
theorem dX2_weighCount_40 : decode cX2_weighCount 40 = .ok (.istore 6, 2) := by decide +kernel
theorem dX2_weighCount_42 : decode cX2_weighCount 42 = .ok (.iload 6, 2) := by decide +kernel
theorem dX2_weighCount_44 : decode cX2_weighCount 44 = .ok (.aload_n 0, 1) := by decide +kernel
theorem dX2_weighCount_45 : decode cX2_weighCount 45 = .ok (.getfield 37, 3) := by decide +kernel
theorem dX2_weighCount_48 : decode cX2_weighCount 48 = .ok (.if_icmp .gt 25, 3) := by decide +kernel
theorem dX2_weighCount_51 : decode cX2_weighCount 51 = .ok (.lload_n 3, 1) := by decide +kernel
theorem dX2_weighCount_52 : decode cX2_weighCount 52 = .ok (.aload_n 0, 1) := by decide +kernel
theorem dX2_weighCount_53 : decode cX2_weighCount 53 = .ok (.getfield 21, 3) := by decide +kernel
theorem dX2_weighCount_56 : decode cX2_weighCount 56 = .ok (.iload 5, 2) := by decide +kernel
theorem dX2_weighCount_58 : decode cX2_weighCount 58 = .ok (.iload 6, 2) := by decide +kernel
theorem dX2_weighCount_60 : decode cX2_weighCount 60 = .ok (.iload_n 2, 1) := by decide +kernel
theorem dX2_weighCount_61 : decode cX2_weighCount 61 = .ok (.invokestatic 41, 3) := by decide +kernel
theorem dX2_weighCount_64 : decode cX2_weighCount 64 = .ok (.laload, 1) := by decide +kernel
theorem dX2_weighCount_65 : decode cX2_weighCount 65 = .ok (.ladd, 1) := by decide +kernel
theorem dX2_weighCount_66 : decode cX2_weighCount 66 = .ok (.lstore_n 3, 1) := by decide +kernel
theorem dX2_weighCount_67 : decode cX2_weighCount 67 = .ok (.iinc 6 1, 3) := by decide +kernel
theorem dX2_weighCount_70 : decode cX2_weighCount 70 = .ok (.goto (-28), 3) := by decide +kernel
theorem dX2_weighCount_73 : decode cX2_weighCount 73 = .ok (.iinc 5 1, 3) := by decide +kernel
theorem dX2_weighCount_76 : decode cX2_weighCount 76 = .ok (.goto (-43), 3) := by decide +kernel
theorem dX2_weighCount_79 : decode cX2_weighCount 79 = .ok (.lload_n 3, 1) := by decide +kernel
theorem dX2_weighCount_80 : decode cX2_weighCount 80 = .ok (.lreturn, 1) := by decide +kernel
theorem dX2_start_0 : decode cX2_start 0 = .ok (.iconst 0, 1) := by decide +kernel
theorem dX2_start_1 : decode cX2_start 1 = .ok (.istore_n 1, 1) := by decide +kernel
theorem dX2_start_2 : decode cX2_start 2 = .ok (.iload_n 1, 1) := by decide +kernel
theorem dX2_start_3 : decode cX2_start 3 = .ok (.iconst 4, 1) := by decide +kernel
theorem dX2_start_4 : decode cX2_start 4 = .ok (.if_icmp .ge 93, 3) := by decide +kernel
theorem dX2_start_7 : decode cX2_start 7 = .ok (.iconst 0, 1) := by decide +kernel
theorem dX2_start_8 : decode cX2_start 8 = .ok (.istore_n 2, 1) := by decide +kernel
theorem dX2_start_9 : decode cX2_start 9 = .ok (.iload_n 2, 1) := by decide +kernel
theorem dX2_start_10 : decode cX2_start 10 = .ok (.iconst 4, 1) := by decide +kernel
theorem dX2_start_11 : decode cX2_start 11 = .ok (.if_icmp .ge 80, 3) := by decide +kernel
theorem dX2_start_14 : decode cX2_start 14 = .ok (.aload_n 0, 1) := by decide +kernel
theorem dX2_start_15 : decode cX2_start 15 = .ok (.iconst 0, 1) := by decide +kernel
theorem dX2_start_16 : decode cX2_start 16 = .ok (.iload_n 1, 1) := by decide +kernel
theorem dX2_start_17 : decode cX2_start 17 = .ok (.iconst 1, 1) := by decide +kernel
theorem dX2_start_18 : decode cX2_start 18 = .ok (.iand, 1) := by decide +kernel
theorem dX2_start_19 : decode cX2_start 19 = .ok (.ifCond .eq 7, 3) := by decide +kernel
theorem dX2_start_22 : decode cX2_start 22 = .ok (.iconst 1, 1) := by decide +kernel
theorem dX2_start_23 : decode cX2_start 23 = .ok (.goto 4, 3) := by decide +kernel
theorem dX2_start_26 : decode cX2_start 26 = .ok (.iconst 0, 1) := by decide +kernel
theorem dX2_start_27 : decode cX2_start 27 = .ok (.iload_n 2, 1) := by decide +kernel
theorem dX2_start_28 : decode cX2_start 28 = .ok (.iconst 1, 1) := by decide +kernel
theorem dX2_start_29 : decode cX2_start 29 = .ok (.iand, 1) := by decide +kernel
theorem dX2_start_30 : decode cX2_start 30 = .ok (.ifCond .eq 7, 3) := by decide +kernel
theorem dX2_start_33 : decode cX2_start 33 = .ok (.iconst 1, 1) := by decide +kernel
theorem dX2_start_34 : decode cX2_start 34 = .ok (.goto 4, 3) := by decide +kernel
theorem dX2_start_37 : decode cX2_start 37 = .ok (.iconst 0, 1) := by decide +kernel
theorem dX2_start_38 : decode cX2_start 38 = .ok (.invokevirtual 45, 3) := by decide +kernel
theorem dX2_start_41 : decode cX2_start 41 = .ok (.istore_n 3, 1) := by decide +kernel
theorem dX2_start_42 : decode cX2_start 42 = .ok (.aload_n 0, 1) := by decide +kernel
theorem dX2_start_43 : decode cX2_start 43 = .ok (.iconst 1, 1) := by decide +kernel
theorem dX2_start_44 : decode cX2_start 44 = .ok (.iload_n 1, 1) := by decide +kernel
theorem dX2_start_45 : decode cX2_start 45 = .ok (.iconst 2, 1) := by decide +kernel
theorem dX2_start_46 : decode cX2_start 46 = .ok (.iand, 1) := by decide +kernel
theorem dX2_start_47 : decode cX2_start 47 = .ok (.ifCond .eq 7, 3) := by decide +kernel
theorem dX2_start_50 : decode cX2_start 50 = .ok (.iconst 1, 1) := by decide +kernel
theorem dX2_start_51 : decode cX2_start 51 = .ok (.goto 4, 3) := by decide +kernel
theorem dX2_start_54 : decode cX2_start 54 = .ok (.iconst 0, 1) := by decide +kernel
theorem dX2_start_55 : decode cX2_start 55 = .ok (.iload_n 2, 1) := by decide +kernel
theorem dX2_start_56 : decode cX2_start 56 = .ok (.iconst 2, 1) := by decide +kernel
theorem dX2_start_57 : decode cX2_start 57 = .ok (.iand, 1) := by decide +kernel
theorem dX2_start_58 : decode cX2_start 58 = .ok (.ifCond .eq 7, 3) := by decide +kernel
theorem dX2_start_61 : decode cX2_start 61 = .ok (.iconst 1, 1) := by decide +kernel
theorem dX2_start_62 : decode cX2_start 62 = .ok (.goto 4, 3) := by decide +kernel
theorem dX2_start_65 : decode cX2_start 65 = .ok (.iconst 0, 1) := by decide +kernel
theorem dX2_start_66 : decode cX2_start 66 = .ok (.invokevirtual 45, 3) := by decide +kernel
theorem dX2_start_69 : decode cX2_start 69 = .ok (.istore 4, 2) := by decide +kernel
theorem dX2_start_71 : decode cX2_start 71 = .ok (.aload_n 0, 1) := by decide +kernel
theorem dX2_start_72 : decode cX2_start 72 = .ok (.getfield 18, 3) := by decide +kernel
theorem dX2_start_75 : decode cX2_start 75 = .ok (.iload_n 1, 1) := by decide +kernel
theorem dX2_start_76 : decode cX2_start 76 = .ok (.iconst 4, 1) := by decide +kernel
theorem dX2_start_77 : decode cX2_start 77 = .ok (.imul, 1) := by decide +kernel
theorem dX2_start_78 : decode cX2_start 78 = .ok (.iload_n 2, 1) := by decide +kernel
theorem dX2_start_79 : decode cX2_start 79 = .ok (.iadd, 1) := by decide +kernel
theorem dX2_start_80 : decode cX2_start 80 = .ok (.iload_n 3, 1) := by decide +kernel
theorem dX2_start_81 : decode cX2_start 81 = .ok (.iload 4, 2) := by decide +kernel
theorem dX2_start_83 : decode cX2_start 83 = .ok (.imul, 1) := by decide +kernel
theorem dX2_start_84 : decode cX2_start 84 = .ok (.iastore, 1) := by decide +kernel
theorem dX2_start_85 : decode cX2_start 85 = .ok (.iinc 2 1, 3) := by decide +kernel
theorem dX2_start_88 : decode cX2_start 88 = .ok (.goto (-79), 3) := by decide +kernel
theorem dX2_start_91 : decode cX2_start 91 = .ok (.iinc 1 1, 3) := by decide +kernel
theorem dX2_start_94 : decode cX2_start 94 = .ok (.goto (-92), 3) := by decide +kernel
theorem dX2_start_97 : decode cX2_start 97 = .ok (.aload_n 0, 1) := by decide +kernel
theorem dX2_start_98 : decode cX2_start 98 = .ok (.getfield 21, 3) := by decide +kernel
theorem dX2_start_101 : decode cX2_start 101 = .ok (.lconst 0, 1) := by decide +kernel
theorem dX2_start_102 : decode cX2_start 102 = .ok (.invokestatic 49, 3) := by decide +kernel
theorem dX2_start_105 : decode cX2_start 105 = .ok (.aload_n 0, 1) := by decide +kernel
theorem dX2_start_106 : decode cX2_start 106 = .ok (.getfield 21, 3) := by decide +kernel
theorem dX2_start_109 : decode cX2_start 109 = .ok (.iconst 3, 1) := by decide +kernel
theorem dX2_start_110 : decode cX2_start 110 = .ok (.iconst 0, 1) := by decide +kernel
theorem dX2_start_111 : decode cX2_start 111 = .ok (.iconst 0, 1) := by decide +kernel
theorem dX2_start_112 : decode cX2_start 112 = .ok (.invokestatic 41, 3) := by decide +kernel
theorem dX2_start_115 : decode cX2_start 115 = .ok (.lconst 1, 1) := by decide +kernel
theorem dX2_start_116 : decode cX2_start 116 = .ok (.lastore, 1) := by decide +kernel
theorem dX2_start_117 : decode cX2_start 117 = .ok (.return_, 1) := by decide +kernel
theorem dX2_quartersOf_0 : decode cX2_quartersOf 0 = .ok (.iload_n 2, 1) := by decide +kernel
theorem dX2_quartersOf_1 : decode cX2_quartersOf 1 = .ok (.ifCond .eq 12, 3) := by decide +kernel
theorem dX2_quartersOf_4 : decode cX2_quartersOf 4 = .ok (.aload_n 0, 1) := by decide +kernel
theorem dX2_quartersOf_5 : decode cX2_quartersOf 5 = .ok (.getfield 9, 3) := by decide +kernel
theorem dX2_quartersOf_8 : decode cX2_quartersOf 8 = .ok (.iload_n 1, 1) := by decide +kernel
theorem dX2_quartersOf_9 : decode cX2_quartersOf 9 = .ok (.iaload, 1) := by decide +kernel
theorem dX2_quartersOf_10 : decode cX2_quartersOf 10 = .ok (.goto 9, 3) := by decide +kernel
theorem dX2_quartersOf_13 : decode cX2_quartersOf 13 = .ok (.aload_n 0, 1) := by decide +kernel
theorem dX2_quartersOf_14 : decode cX2_quartersOf 14 = .ok (.getfield 15, 3) := by decide +kernel
theorem dX2_quartersOf_17 : decode cX2_quartersOf 17 = .ok (.iload_n 1, 1) := by decide +kernel
theorem dX2_quartersOf_18 : decode cX2_quartersOf 18 = .ok (.iaload, 1) := by decide +kernel
theorem dX2_quartersOf_19 : decode cX2_quartersOf 19 = .ok (.istore 4, 2) := by decide +kernel
theorem dX2_quartersOf_21 : decode cX2_quartersOf 21 = .ok (.iload_n 2, 1) := by decide +kernel
theorem dX2_quartersOf_22 : decode cX2_quartersOf 22 = .ok (.iload_n 3, 1) := by decide +kernel
theorem dX2_quartersOf_23 : decode cX2_quartersOf 23 = .ok (.if_icmp .ne 10, 3) := by decide +kernel
theorem dX2_quartersOf_26 : decode cX2_quartersOf 26 = .ok (.iconst 4, 1) := by decide +kernel
theorem dX2_quartersOf_27 : decode cX2_quartersOf 27 = .ok (.iload 4, 2) := by decide +kernel
theorem dX2_quartersOf_29 : decode cX2_quartersOf 29 = .ok (.isub, 1) := by decide +kernel
theorem dX2_quartersOf_30 : decode cX2_quartersOf 30 = .ok (.goto 5, 3) := by decide +kernel
theorem dX2_quartersOf_33 : decode cX2_quartersOf 33 = .ok (.iload 4, 2) := by decide +kernel
theorem dX2_quartersOf_35 : decode cX2_quartersOf 35 = .ok (.ireturn, 1) := by decide +kernel
theorem dX2_runTick_0 : decode cX2_runTick 0 = .ok (.aload_n 0, 1) := by decide +kernel
theorem dX2_runTick_1 : decode cX2_runTick 1 = .ok (.getfield 25, 3) := by decide +kernel
theorem dX2_runTick_4 : decode cX2_runTick 4 = .ok (.lconst 0, 1) := by decide +kernel
theorem dX2_runTick_5 : decode cX2_runTick 5 = .ok (.invokestatic 49, 3) := by decide +kernel
theorem dX2_runTick_8 : decode cX2_runTick 8 = .ok (.lconst 0, 1) := by decide +kernel
theorem dX2_runTick_9 : decode cX2_runTick 9 = .ok (.lstore 4, 2) := by decide +kernel
theorem dX2_runTick_11 : decode cX2_runTick 11 = .ok (.iconst 0, 1) := by decide +kernel
theorem dX2_runTick_12 : decode cX2_runTick 12 = .ok (.istore 6, 2) := by decide +kernel
theorem dX2_runTick_14 : decode cX2_runTick 14 = .ok (.iload 6, 2) := by decide +kernel
theorem dX2_runTick_16 : decode cX2_runTick 16 = .ok (.iconst 4, 1) := by decide +kernel
theorem dX2_runTick_17 : decode cX2_runTick 17 = .ok (.if_icmp .ge 57, 3) := by decide +kernel
theorem dX2_runTick_20 : decode cX2_runTick 20 = .ok (.iconst 0, 1) := by decide +kernel
theorem dX2_runTick_21 : decode cX2_runTick 21 = .ok (.istore 7, 2) := by decide +kernel
theorem dX2_runTick_23 : decode cX2_runTick 23 = .ok (.iload 7, 2) := by decide +kernel
theorem dX2_runTick_25 : decode cX2_runTick 25 = .ok (.iload_n 1, 1) := by decide +kernel
theorem dX2_runTick_26 : decode cX2_runTick 26 = .ok (.if_icmp .gt 42, 3) := by decide +kernel
theorem dX2_runTick_29 : decode cX2_runTick 29 = .ok (.iconst 0, 1) := by decide +kernel
theorem dX2_runTick_30 : decode cX2_runTick 30 = .ok (.istore 8, 2) := by decide +kernel
theorem dX2_runTick_32 : decode cX2_runTick 32 = .ok (.iload 8, 2) := by decide +kernel
theorem dX2_runTick_34 : decode cX2_runTick 34 = .ok (.iload_n 2, 1) := by decide +kernel
theorem dX2_runTick_35 : decode cX2_runTick 35 = .ok (.if_icmp .gt 27, 3) := by decide +kernel
theorem dX2_runTick_38 : decode cX2_runTick 38 = .ok (.lload 4, 2) := by decide +kernel
theorem dX2_runTick_40 : decode cX2_runTick 40 = .ok (.aload_n 0, 1) := by decide +kernel
theorem dX2_runTick_41 : decode cX2_runTick 41 = .ok (.iload 6, 2) := by decide +kernel
theorem dX2_runTick_43 : decode cX2_runTick 43 = .ok (.iload 7, 2) := by decide +kernel
theorem dX2_runTick_45 : decode cX2_runTick 45 = .ok (.iload 8, 2) := by decide +kernel
theorem dX2_runTick_47 : decode cX2_runTick 47 = .ok (.iload_n 1, 1) := by decide +kernel
theorem dX2_runTick_48 : decode cX2_runTick 48 = .ok (.iload_n 2, 1) := by decide +kernel
theorem dX2_runTick_49 : decode cX2_runTick 49 = .ok (.iload_n 3, 1) := by decide +kernel
theorem dX2_runTick_50 : decode cX2_runTick 50 = .ok (.invokevirtual 55, 3) := by decide +kernel
theorem dX2_runTick_53 : decode cX2_runTick 53 = .ok (.ladd, 1) := by decide +kernel
theorem dX2_runTick_54 : decode cX2_runTick 54 = .ok (.lstore 4, 2) := by decide +kernel
theorem dX2_runTick_56 : decode cX2_runTick 56 = .ok (.iinc 8 1, 3) := by decide +kernel
theorem dX2_runTick_59 : decode cX2_runTick 59 = .ok (.goto (-27), 3) := by decide +kernel
theorem dX2_runTick_62 : decode cX2_runTick 62 = .ok (.iinc 7 1, 3) := by decide +kernel
theorem dX2_runTick_65 : decode cX2_runTick 65 = .ok (.goto (-42), 3) := by decide +kernel
theorem dX2_runTick_68 : decode cX2_runTick 68 = .ok (.iinc 6 1, 3) := by decide +kernel
theorem dX2_runTick_71 : decode cX2_runTick 71 = .ok (.goto (-57), 3) := by decide +kernel
theorem dX2_runTick_74 : decode cX2_runTick 74 = .ok (.aload_n 0, 1) := by decide +kernel
theorem dX2_runTick_75 : decode cX2_runTick 75 = .ok (.getfield 21, 3) := by decide +kernel
theorem dX2_runTick_78 : decode cX2_runTick 78 = .ok (.astore 6, 2) := by decide +kernel
theorem dX2_runTick_80 : decode cX2_runTick 80 = .ok (.aload_n 0, 1) := by decide +kernel
theorem dX2_runTick_81 : decode cX2_runTick 81 = .ok (.aload_n 0, 1) := by decide +kernel
theorem dX2_runTick_82 : decode cX2_runTick 82 = .ok (.getfield 25, 3) := by decide +kernel
theorem dX2_runTick_85 : decode cX2_runTick 85 = .ok (.putfield 21, 3) := by decide +kernel
theorem dX2_runTick_88 : decode cX2_runTick 88 = .ok (.aload_n 0, 1) := by decide +kernel
theorem dX2_runTick_89 : decode cX2_runTick 89 = .ok (.aload 6, 2) := by decide +kernel
theorem dX2_runTick_91 : decode cX2_runTick 91 = .ok (.putfield 25, 3) := by decide +kernel
theorem dX2_runTick_94 : decode cX2_runTick 94 = .ok (.lload 4, 2) := by decide +kernel
theorem dX2_runTick_96 : decode cX2_runTick 96 = .ok (.lreturn, 1) := by decide +kernel
theorem dX2_spread_0 : decode cX2_spread 0 = .ok (.aload_n 0, 1) := by decide +kernel
theorem dX2_spread_1 : decode cX2_spread 1 = .ok (.getfield 21, 3) := by decide +kernel
theorem dX2_spread_4 : decode cX2_spread 4 = .ok (.iload_n 1, 1) := by decide +kernel
theorem dX2_spread_5 : decode cX2_spread 5 = .ok (.iload_n 2, 1) := by decide +kernel
theorem dX2_spread_6 : decode cX2_spread 6 = .ok (.iload_n 3, 1) := by decide +kernel
theorem dX2_spread_7 : decode cX2_spread 7 = .ok (.invokestatic 41, 3) := by decide +kernel
theorem dX2_spread_10 : decode cX2_spread 10 = .ok (.laload, 1) := by decide +kernel
theorem dX2_spread_11 : decode cX2_spread 11 = .ok (.lstore 7, 2) := by decide +kernel
theorem dX2_spread_13 : decode cX2_spread 13 = .ok (.lload 7, 2) := by decide +kernel
theorem dX2_spread_15 : decode cX2_spread 15 = .ok (.lconst 0, 1) := by decide +kernel
theorem dX2_spread_16 : decode cX2_spread 16 = .ok (.lcmp, 1) := by decide +kernel
theorem dX2_spread_17 : decode cX2_spread 17 = .ok (.ifCond .ne 5, 3) := by decide +kernel
theorem dX2_spread_20 : decode cX2_spread 20 = .ok (.lconst 0, 1) := by decide +kernel
theorem dX2_spread_21 : decode cX2_spread 21 = .ok (.lreturn, 1) := by decide +kernel
theorem dX2_spread_22 : decode cX2_spread 22 = .ok (.lconst 0, 1) := by decide +kernel
theorem dX2_spread_23 : decode cX2_spread 23 = .ok (.lstore 9, 2) := by decide +kernel
theorem dX2_spread_25 : decode cX2_spread 25 = .ok (.iconst 0, 1) := by decide +kernel
theorem dX2_spread_26 : decode cX2_spread 26 = .ok (.istore 11, 2) := by decide +kernel
theorem dX2_spread_28 : decode cX2_spread 28 = .ok (.iload 11, 2) := by decide +kernel
theorem dX2_spread_30 : decode cX2_spread 30 = .ok (.iconst 4, 1) := by decide +kernel
theorem dX2_spread_31 : decode cX2_spread 31 = .ok (.if_icmp .ge 92, 3) := by decide +kernel
theorem dX2_spread_34 : decode cX2_spread 34 = .ok (.lload 7, 2) := by decide +kernel
theorem dX2_spread_36 : decode cX2_spread 36 = .ok (.aload_n 0, 1) := by decide +kernel
theorem dX2_spread_37 : decode cX2_spread 37 = .ok (.getfield 18, 3) := by decide +kernel
theorem dX2_spread_40 : decode cX2_spread 40 = .ok (.iload_n 1, 1) := by decide +kernel
theorem dX2_spread_41 : decode cX2_spread 41 = .ok (.iconst 4, 1) := by decide +kernel
theorem dX2_spread_42 : decode cX2_spread 42 = .ok (.imul, 1) := by decide +kernel
theorem dX2_spread_43 : decode cX2_spread 43 = .ok (.iload 11, 2) := by decide +kernel
theorem dX2_spread_45 : decode cX2_spread 45 = .ok (.iadd, 1) := by decide +kernel
theorem dX2_spread_46 : decode cX2_spread 46 = .ok (.iaload, 1) := by decide +kernel
theorem dX2_spread_47 : decode cX2_spread 47 = .ok (.i2l, 1) := by decide +kernel
theorem dX2_spread_48 : decode cX2_spread 48 = .ok (.lmul, 1) := by decide +kernel
theorem dX2_spread_49 : decode cX2_spread 49 = .ok (.lstore 12, 2) := by decide +kernel
theorem dX2_spread_51 : decode cX2_spread 51 = .ok (.iload 11, 2) := by decide +kernel
theorem dX2_spread_53 : decode cX2_spread 53 = .ok (.iload_n 2, 1) := by decide +kernel
theorem dX2_spread_54 : decode cX2_spread 54 = .ok (.invokestatic 59, 3) := by decide +kernel
theorem dX2_spread_57 : decode cX2_spread 57 = .ok (.istore 14, 2) := by decide +kernel
theorem dX2_spread_59 : decode cX2_spread 59 = .ok (.lload 9, 2) := by decide +kernel
theorem dX2_spread_61 : decode cX2_spread 61 = .ok (.lload 12, 2) := by decide +kernel
theorem dX2_spread_63 : decode cX2_spread 63 = .ok (.iload 14, 2) := by decide +kernel
theorem dX2_spread_65 : decode cX2_spread 65 = .ok (.i2l, 1) := by decide +kernel
theorem dX2_spread_66 : decode cX2_spread 66 = .ok (.lmul, 1) := by decide +kernel
theorem dX2_spread_67 : decode cX2_spread 67 = .ok (.ladd, 1) := by decide +kernel
theorem dX2_spread_68 : decode cX2_spread 68 = .ok (.lstore 9, 2) := by decide +kernel
theorem dX2_spread_70 : decode cX2_spread 70 = .ok (.iload 6, 2) := by decide +kernel
theorem dX2_spread_72 : decode cX2_spread 72 = .ok (.ifCond .eq 10, 3) := by decide +kernel
theorem dX2_spread_75 : decode cX2_spread 75 = .ok (.iload_n 3, 1) := by decide +kernel
theorem dX2_spread_76 : decode cX2_spread 76 = .ok (.iload 14, 2) := by decide +kernel
theorem dX2_spread_78 : decode cX2_spread 78 = .ok (.iadd, 1) := by decide +kernel
theorem dX2_spread_79 : decode cX2_spread 79 = .ok (.goto 4, 3) := by decide +kernel
theorem dX2_spread_82 : decode cX2_spread 82 = .ok (.iload_n 3, 1) := by decide +kernel
theorem dX2_spread_83 : decode cX2_spread 83 = .ok (.istore 15, 2) := by decide +kernel
theorem dX2_spread_85 : decode cX2_spread 85 = .ok (.iload 15, 2) := by decide +kernel
theorem dX2_spread_87 : decode cX2_spread 87 = .ok (.iload 5, 2) := by decide +kernel
theorem dX2_spread_89 : decode cX2_spread 89 = .ok (.if_icmp .gt 28, 3) := by decide +kernel
theorem dX2_spread_92 : decode cX2_spread 92 = .ok (.aload_n 0, 1) := by decide +kernel
theorem dX2_spread_93 : decode cX2_spread 93 = .ok (.getfield 25, 3) := by decide +kernel
theorem dX2_spread_96 : decode cX2_spread 96 = .ok (.iload 11, 2) := by decide +kernel
theorem dX2_spread_98 : decode cX2_spread 98 = .ok (.iload 11, 2) := by decide +kernel
theorem dX2_spread_100 : decode cX2_spread 100 = .ok (.iload_n 2, 1) := by decide +kernel
theorem dX2_spread_101 : decode cX2_spread 101 = .ok (.iload 4, 2) := by decide +kernel
theorem dX2_spread_103 : decode cX2_spread 103 = .ok (.invokestatic 63, 3) := by decide +kernel
theorem dX2_spread_106 : decode cX2_spread 106 = .ok (.iload 15, 2) := by decide +kernel
theorem dX2_spread_108 : decode cX2_spread 108 = .ok (.invokestatic 41, 3) := by decide +kernel
theorem dX2_spread_111 : decode cX2_spread 111 = .ok (.dup2, 1) := by decide +kernel
theorem dX2_spread_112 : decode cX2_spread 112 = .ok (.laload, 1) := by decide +kernel
theorem dX2_spread_113 : decode cX2_spread 113 = .ok (.lload 12, 2) := by decide +kernel
theorem dX2_spread_115 : decode cX2_spread 115 = .ok (.ladd, 1) := by decide +kernel
theorem dX2_spread_116 : decode cX2_spread 116 = .ok (.lastore, 1) := by decide +kernel
theorem dX2_spread_117 : decode cX2_spread 117 = .ok (.iinc 11 1, 3) := by decide +kernel
theorem dX2_spread_120 : decode cX2_spread 120 = .ok (.goto (-92), 3) := by decide +kernel
theorem dX2_spread_123 : decode cX2_spread 123 = .ok (.lload 9, 2) := by decide +kernel
theorem dX2_spread_125 : decode cX2_spread 125 = .ok (.lreturn, 1) := by decide +kernel
theorem dX2_gives_0 : decode cX2_gives 0 = .ok (.iload_n 0, 1) := by decide +kernel
theorem dX2_gives_1 : decode cX2_gives 1 = .ok (.iconst 3, 1) := by decide +kernel
theorem dX2_gives_2 : decode cX2_gives 2 = .ok (.if_icmp .eq 12, 3) := by decide +kernel
theorem dX2_gives_5 : decode cX2_gives 5 = .ok (.iload_n 0, 1) := by decide +kernel
theorem dX2_gives_6 : decode cX2_gives 6 = .ok (.iconst 2, 1) := by decide +kernel
theorem dX2_gives_7 : decode cX2_gives 7 = .ok (.if_icmp .ne 11, 3) := by decide +kernel
theorem dX2_gives_10 : decode cX2_gives 10 = .ok (.iload_n 1, 1) := by decide +kernel
theorem dX2_gives_11 : decode cX2_gives 11 = .ok (.ifCond .le 7, 3) := by decide +kernel
theorem dX2_gives_14 : decode cX2_gives 14 = .ok (.iconst 1, 1) := by decide +kernel
theorem dX2_gives_15 : decode cX2_gives 15 = .ok (.goto 4, 3) := by decide +kernel
theorem dX2_gives_18 : decode cX2_gives 18 = .ok (.iconst 0, 1) := by decide +kernel
theorem dX2_gives_19 : decode cX2_gives 19 = .ok (.ireturn, 1) := by decide +kernel
theorem dX2_levelAfter_0 : decode cX2_levelAfter 0 = .ok (.iload_n 0, 1) := by decide +kernel
theorem dX2_levelAfter_1 : decode cX2_levelAfter 1 = .ok (.iconst 1, 1) := by decide +kernel
theorem dX2_levelAfter_2 : decode cX2_levelAfter 2 = .ok (.if_icmp .ne 11, 3) := by decide +kernel
theorem dX2_levelAfter_5 : decode cX2_levelAfter 5 = .ok (.iload_n 1, 1) := by decide +kernel
theorem dX2_levelAfter_6 : decode cX2_levelAfter 6 = .ok (.iconst 1, 1) := by decide +kernel
theorem dX2_levelAfter_7 : decode cX2_levelAfter 7 = .ok (.iadd, 1) := by decide +kernel
theorem dX2_levelAfter_8 : decode cX2_levelAfter 8 = .ok (.iload_n 2, 1) := by decide +kernel
theorem dX2_levelAfter_9 : decode cX2_levelAfter 9 = .ok (.invokestatic 66, 3) := by decide +kernel
theorem dX2_levelAfter_12 : decode cX2_levelAfter 12 = .ok (.ireturn, 1) := by decide +kernel
theorem dX2_levelAfter_13 : decode cX2_levelAfter 13 = .ok (.iload_n 0, 1) := by decide +kernel
theorem dX2_levelAfter_14 : decode cX2_levelAfter 14 = .ok (.iconst 2, 1) := by decide +kernel
theorem dX2_levelAfter_15 : decode cX2_levelAfter 15 = .ok (.if_icmp .ne 11, 3) := by decide +kernel
theorem dX2_levelAfter_18 : decode cX2_levelAfter 18 = .ok (.iload_n 1, 1) := by decide +kernel
theorem dX2_levelAfter_19 : decode cX2_levelAfter 19 = .ok (.iconst 1, 1) := by decide +kernel
theorem dX2_levelAfter_20 : decode cX2_levelAfter 20 = .ok (.isub, 1) := by decide +kernel
theorem dX2_levelAfter_21 : decode cX2_levelAfter 21 = .ok (.iconst 0, 1) := by decide +kernel
theorem dX2_levelAfter_22 : decode cX2_levelAfter 22 = .ok (.invokestatic 71, 3) := by decide +kernel
theorem dX2_levelAfter_25 : decode cX2_levelAfter 25 = .ok (.ireturn, 1) := by decide +kernel
theorem dX2_levelAfter_26 : decode cX2_levelAfter 26 = .ok (.iload_n 1, 1) := by decide +kernel
theorem dX2_levelAfter_27 : decode cX2_levelAfter 27 = .ok (.ireturn, 1) := by decide +kernel
theorem dX3_init_0 : decode cX3_init 0 = .ok (.aload_n 0, 1) := by decide +kernel
theorem dX3_init_1 : decode cX3_init 1 = .ok (.invokespecial 3, 3) := by decide +kernel
theorem dX3_init_4 : decode cX3_init 4 = .ok (.aload_n 0, 1) := by decide +kernel
theorem dX3_init_5 : decode cX3_init 5 = .ok (.bipush 6, 2) := by decide +kernel
theorem dX3_init_7 : decode cX3_init 7 = .ok (.newarray .int, 2) := by decide +kernel
theorem dX3_init_9 : decode cX3_init 9 = .ok (.putfield 9, 3) := by decide +kernel
theorem dX3_init_12 : decode cX3_init 12 = .ok (.aload_n 0, 1) := by decide +kernel
theorem dX3_init_13 : decode cX3_init 13 = .ok (.bipush 6, 2) := by decide +kernel
theorem dX3_init_15 : decode cX3_init 15 = .ok (.newarray .int, 2) := by decide +kernel
theorem dX3_init_17 : decode cX3_init 17 = .ok (.putfield 15, 3) := by decide +kernel
theorem dX3_init_20 : decode cX3_init 20 = .ok (.aload_n 0, 1) := by decide +kernel
theorem dX3_init_21 : decode cX3_init 21 = .ok (.bipush 120, 2) := by decide +kernel
theorem dX3_init_23 : decode cX3_init 23 = .ok (.newarray .int, 2) := by decide +kernel
theorem dX3_init_25 : decode cX3_init 25 = .ok (.putfield 18, 3) := by decide +kernel
theorem dX3_init_28 : decode cX3_init 28 = .ok (.return_, 1) := by decide +kernel
theorem dX3_lay_0 : decode cX3_lay 0 = .ok (.aload_n 0, 1) := by decide +kernel
theorem dX3_lay_1 : decode cX3_lay 1 = .ok (.iconst 0, 1) := by decide +kernel
theorem dX3_lay_2 : decode cX3_lay 2 = .ok (.putfield 21, 3) := by decide +kernel
theorem dX3_lay_5 : decode cX3_lay 5 = .ok (.iconst 0, 1) := by decide +kernel
theorem dX3_lay_6 : decode cX3_lay 6 = .ok (.istore_n 1, 1) := by decide +kernel
theorem dX3_lay_7 : decode cX3_lay 7 = .ok (.iload_n 1, 1) := by decide +kernel
theorem dX3_lay_8 : decode cX3_lay 8 = .ok (.bipush 6, 2) := by decide +kernel
theorem dX3_lay_10 : decode cX3_lay 10 = .ok (.if_icmp .ge 31, 3) := by decide +kernel
theorem dX3_lay_13 : decode cX3_lay 13 = .ok (.aload_n 0, 1) := by decide +kernel
theorem dX3_lay_14 : decode cX3_lay 14 = .ok (.dup, 1) := by decide +kernel
theorem dX3_lay_15 : decode cX3_lay 15 = .ok (.getfield 21, 3) := by decide +kernel
theorem dX3_lay_18 : decode cX3_lay 18 = .ok (.aload_n 0, 1) := by decide +kernel
theorem dX3_lay_19 : decode cX3_lay 19 = .ok (.getfield 9, 3) := by decide +kernel
theorem dX3_lay_22 : decode cX3_lay 22 = .ok (.iload_n 1, 1) := by decide +kernel
theorem dX3_lay_23 : decode cX3_lay 23 = .ok (.iaload, 1) := by decide +kernel
theorem dX3_lay_24 : decode cX3_lay 24 = .ok (.iadd, 1) := by decide +kernel
theorem dX3_lay_25 : decode cX3_lay 25 = .ok (.putfield 21, 3) := by decide +kernel
theorem dX3_lay_28 : decode cX3_lay 28 = .ok (.aload_n 0, 1) := by decide +kernel
theorem dX3_lay_29 : decode cX3_lay 29 = .ok (.getfield 15, 3) := by decide +kernel
theorem dX3_lay_32 : decode cX3_lay 32 = .ok (.iload_n 1, 1) := by decide +kernel
theorem dX3_lay_33 : decode cX3_lay 33 = .ok (.iconst 0, 1) := by decide +kernel
theorem dX3_lay_34 : decode cX3_lay 34 = .ok (.iastore, 1) := by decide +kernel
theorem dX3_lay_35 : decode cX3_lay 35 = .ok (.iinc 1 1, 3) := by decide +kernel
theorem dX3_lay_38 : decode cX3_lay 38 = .ok (.goto (-31), 3) := by decide +kernel
theorem dX3_lay_41 : decode cX3_lay 41 = .ok (.aload_n 0, 1) := by decide +kernel
theorem dX3_lay_42 : decode cX3_lay 42 = .ok (.iconst 0, 1) := by decide +kernel
theorem dX3_lay_43 : decode cX3_lay 43 = .ok (.putfield 25, 3) := by decide +kernel
theorem dX3_lay_46 : decode cX3_lay 46 = .ok (.aload_n 0, 1) := by decide +kernel
theorem dX3_lay_47 : decode cX3_lay 47 = .ok (.iconst 0, 1) := by decide +kernel
theorem dX3_lay_48 : decode cX3_lay 48 = .ok (.putfield 28, 3) := by decide +kernel
theorem dX3_lay_51 : decode cX3_lay 51 = .ok (.iconst 0, 1) := by decide +kernel
theorem dX3_lay_52 : decode cX3_lay 52 = .ok (.istore_n 1, 1) := by decide +kernel
theorem dX3_lay_53 : decode cX3_lay 53 = .ok (.iload_n 1, 1) := by decide +kernel
theorem dX3_lay_54 : decode cX3_lay 54 = .ok (.aload_n 0, 1) := by decide +kernel
theorem dX3_lay_55 : decode cX3_lay 55 = .ok (.getfield 21, 3) := by decide +kernel
theorem dX3_lay_58 : decode cX3_lay 58 = .ok (.if_icmp .ge 81, 3) := by decide +kernel
theorem dX3_lay_61 : decode cX3_lay 61 = .ok (.aload_n 0, 1) := by decide +kernel
theorem dX3_lay_62 : decode cX3_lay 62 = .ok (.iload_n 1, 1) := by decide +kernel
theorem dX3_lay_63 : decode cX3_lay 63 = .ok (.invokevirtual 31, 3) := by decide +kernel
theorem dX3_lay_66 : decode cX3_lay 66 = .ok (.istore_n 2, 1) := by decide +kernel
theorem dX3_lay_67 : decode cX3_lay 67 = .ok (.iload_n 2, 1) := by decide +kernel
theorem dX3_lay_68 : decode cX3_lay 68 = .ok (.ifCond .ge 4, 3) := by decide +kernel
theorem dX3_lay_71 : decode cX3_lay 71 = .ok (.return_, 1) := by decide +kernel
theorem dX3_lay_72 : decode cX3_lay 72 = .ok (.aload_n 0, 1) := by decide +kernel
theorem dX3_lay_73 : decode cX3_lay 73 = .ok (.getfield 18, 3) := by decide +kernel
theorem dX3_lay_76 : decode cX3_lay 76 = .ok (.iload_n 1, 1) := by decide +kernel
theorem dX3_lay_77 : decode cX3_lay 77 = .ok (.iload_n 2, 1) := by decide +kernel
theorem dX3_lay_78 : decode cX3_lay 78 = .ok (.iastore, 1) := by decide +kernel
theorem dX3_lay_79 : decode cX3_lay 79 = .ok (.aload_n 0, 1) := by decide +kernel
theorem dX3_lay_80 : decode cX3_lay 80 = .ok (.getfield 15, 3) := by decide +kernel
theorem dX3_lay_83 : decode cX3_lay 83 = .ok (.iload_n 2, 1) := by decide +kernel
theorem dX3_lay_84 : decode cX3_lay 84 = .ok (.dup2, 1) := by decide +kernel
theorem dX3_lay_85 : decode cX3_lay 85 = .ok (.iaload, 1) := by decide +kernel
theorem dX3_lay_86 : decode cX3_lay 86 = .ok (.iconst 1, 1) := by decide +kernel
theorem dX3_lay_87 : decode cX3_lay 87 = .ok (.iadd, 1) := by decide +kernel
theorem dX3_lay_88 : decode cX3_lay 88 = .ok (.iastore, 1) := by decide +kernel
theorem dX3_lay_89 : decode cX3_lay 89 = .ok (.aload_n 0, 1) := by decide +kernel
theorem dX3_lay_90 : decode cX3_lay 90 = .ok (.aload_n 0, 1) := by decide +kernel
theorem dX3_lay_91 : decode cX3_lay 91 = .ok (.getfield 25, 3) := by decide +kernel
theorem dX3_lay_94 : decode cX3_lay 94 = .ok (.aload_n 0, 1) := by decide +kernel
theorem dX3_lay_95 : decode cX3_lay 95 = .ok (.iload_n 1, 1) := by decide +kernel
theorem dX3_lay_96 : decode cX3_lay 96 = .ok (.iconst 1, 1) := by decide +kernel
theorem dX3_lay_97 : decode cX3_lay 97 = .ok (.iadd, 1) := by decide +kernel
theorem dX3_lay_98 : decode cX3_lay 98 = .ok (.invokevirtual 35, 3) := by decide +kernel
theorem dX3_lay_101 : decode cX3_lay 101 = .ok (.invokestatic 38, 3) := by decide +kernel
theorem dX3_lay_104 : decode cX3_lay 104 = .ok (.putfield 25, 3) := by decide +kernel
theorem dX3_lay_107 : decode cX3_lay 107 = .ok (.iload_n 1, 1) := by decide +kernel
theorem dX3_lay_108 : decode cX3_lay 108 = .ok (.ifCond .le 25, 3) := by decide +kernel
theorem dX3_lay_111 : decode cX3_lay 111 = .ok (.aload_n 0, 1) := by decide +kernel
theorem dX3_lay_112 : decode cX3_lay 112 = .ok (.getfield 18, 3) := by decide +kernel
theorem dX3_lay_115 : decode cX3_lay 115 = .ok (.iload_n 1, 1) := by decide +kernel
theorem dX3_lay_116 : decode cX3_lay 116 = .ok (.iconst 1, 1) := by decide +kernel
theorem dX3_lay_117 : decode cX3_lay 117 = .ok (.isub, 1) := by decide +kernel
theorem dX3_lay_118 : decode cX3_lay 118 = .ok (.iaload, 1) := by decide +kernel
theorem dX3_lay_119 : decode cX3_lay 119 = .ok (.iload_n 2, 1) := by decide +kernel
theorem dX3_lay_120 : decode cX3_lay 120 = .ok (.if_icmp .eq 13, 3) := by decide +kernel
theorem dX3_lay_123 : decode cX3_lay 123 = .ok (.aload_n 0, 1) := by decide +kernel
theorem dX3_lay_124 : decode cX3_lay 124 = .ok (.dup, 1) := by decide +kernel
theorem dX3_lay_125 : decode cX3_lay 125 = .ok (.getfield 28, 3) := by decide +kernel
theorem dX3_lay_128 : decode cX3_lay 128 = .ok (.iconst 1, 1) := by decide +kernel
theorem dX3_lay_129 : decode cX3_lay 129 = .ok (.iadd, 1) := by decide +kernel
theorem dX3_lay_130 : decode cX3_lay 130 = .ok (.putfield 28, 3) := by decide +kernel
theorem dX3_lay_133 : decode cX3_lay 133 = .ok (.iinc 1 1, 3) := by decide +kernel
theorem dX3_lay_136 : decode cX3_lay 136 = .ok (.goto (-83), 3) := by decide +kernel
theorem dX3_lay_139 : decode cX3_lay 139 = .ok (.return_, 1) := by decide +kernel
theorem dX3_nextKind_0 : decode cX3_nextKind 0 = .ok (.bipush (-9), 2) := by decide +kernel
theorem dX3_nextKind_2 : decode cX3_nextKind 2 = .ok (.istore_n 2, 1) := by decide +kernel
theorem dX3_nextKind_3 : decode cX3_nextKind 3 = .ok (.iconst 0, 1) := by decide +kernel
theorem dX3_nextKind_4 : decode cX3_nextKind 4 = .ok (.istore_n 3, 1) := by decide +kernel
theorem dX3_nextKind_5 : decode cX3_nextKind 5 = .ok (.iconst 0, 1) := by decide +kernel
theorem dX3_nextKind_6 : decode cX3_nextKind 6 = .ok (.istore 4, 2) := by decide +kernel
theorem dX3_nextKind_8 : decode cX3_nextKind 8 = .ok (.iload 4, 2) := by decide +kernel
theorem dX3_nextKind_10 : decode cX3_nextKind 10 = .ok (.bipush 6, 2) := by decide +kernel
theorem dX3_nextKind_12 : decode cX3_nextKind 12 = .ok (.if_icmp .ge 82, 3) := by decide +kernel
theorem dX3_nextKind_15 : decode cX3_nextKind 15 = .ok (.aload_n 0, 1) := by decide +kernel
theorem dX3_nextKind_16 : decode cX3_nextKind 16 = .ok (.getfield 9, 3) := by decide +kernel
theorem dX3_nextKind_19 : decode cX3_nextKind 19 = .ok (.iload 4, 2) := by decide +kernel
theorem dX3_nextKind_21 : decode cX3_nextKind 21 = .ok (.iaload, 1) := by decide +kernel
theorem dX3_nextKind_22 : decode cX3_nextKind 22 = .ok (.iload_n 1, 1) := by decide +kernel
theorem dX3_nextKind_23 : decode cX3_nextKind 23 = .ok (.iconst 1, 1) := by decide +kernel
theorem dX3_nextKind_24 : decode cX3_nextKind 24 = .ok (.iadd, 1) := by decide +kernel
theorem dX3_nextKind_25 : decode cX3_nextKind 25 = .ok (.imul, 1) := by decide +kernel
theorem dX3_nextKind_26 : decode cX3_nextKind 26 = .ok (.aload_n 0, 1) := by decide +kernel
theorem dX3_nextKind_27 : decode cX3_nextKind 27 = .ok (.getfield 21, 3) := by decide +kernel
theorem dX3_nextKind_30 : decode cX3_nextKind 30 = .ok (.aload_n 0, 1) := by decide +kernel
theorem dX3_nextKind_31 : decode cX3_nextKind 31 = .ok (.getfield 15, 3) := by decide +kernel
theorem dX3_nextKind_34 : decode cX3_nextKind 34 = .ok (.iload 4, 2) := by decide +kernel
theorem dX3_nextKind_36 : decode cX3_nextKind 36 = .ok (.iaload, 1) := by decide +kernel
theorem dX3_nextKind_37 : decode cX3_nextKind 37 = .ok (.imul, 1) := by decide +kernel
theorem dX3_nextKind_38 : decode cX3_nextKind 38 = .ok (.isub, 1) := by decide +kernel
theorem dX3_nextKind_39 : decode cX3_nextKind 39 = .ok (.istore 5, 2) := by decide +kernel
theorem dX3_nextKind_41 : decode cX3_nextKind 41 = .ok (.aload_n 0, 1) := by decide +kernel
theorem dX3_nextKind_42 : decode cX3_nextKind 42 = .ok (.getfield 15, 3) := by decide +kernel
theorem dX3_nextKind_45 : decode cX3_nextKind 45 = .ok (.iload 4, 2) := by decide +kernel
theorem dX3_nextKind_47 : decode cX3_nextKind 47 = .ok (.iaload, 1) := by decide +kernel
theorem dX3_nextKind_48 : decode cX3_nextKind 48 = .ok (.aload_n 0, 1) := by decide +kernel
theorem dX3_nextKind_49 : decode cX3_nextKind 49 = .ok (.getfield 9, 3) := by decide +kernel
theorem dX3_nextKind_52 : decode cX3_nextKind 52 = .ok (.iload 4, 2) := by decide +kernel
theorem dX3_nextKind_54 : decode cX3_nextKind 54 = .ok (.iaload, 1) := by decide +kernel
theorem dX3_nextKind_55 : decode cX3_nextKind 55 = .ok (.if_icmp .ge 7, 3) := by decide +kernel
theorem dX3_nextKind_58 : decode cX3_nextKind 58 = .ok (.iconst 1, 1) := by decide +kernel
theorem dX3_nextKind_59 : decode cX3_nextKind 59 = .ok (.goto 4, 3) := by decide +kernel
theorem dX3_nextKind_62 : decode cX3_nextKind 62 = .ok (.iconst 0, 1) := by decide +kernel
theorem dX3_nextKind_63 : decode cX3_nextKind 63 = .ok (.istore 6, 2) := by decide +kernel
theorem dX3_nextKind_65 : decode cX3_nextKind 65 = .ok (.iload 6, 2) := by decide +kernel
theorem dX3_nextKind_67 : decode cX3_nextKind 67 = .ok (.ifCond .eq 21, 3) := by decide +kernel
theorem dX3_nextKind_70 : decode cX3_nextKind 70 = .ok (.iload_n 2, 1) := by decide +kernel
theorem dX3_nextKind_71 : decode cX3_nextKind 71 = .ok (.bipush (-9), 2) := by decide +kernel
theorem dX3_nextKind_73 : decode cX3_nextKind 73 = .ok (.if_icmp .eq 9, 3) := by decide +kernel
theorem dX3_nextKind_76 : decode cX3_nextKind 76 = .ok (.iload 5, 2) := by decide +kernel
theorem dX3_nextKind_78 : decode cX3_nextKind 78 = .ok (.iload_n 3, 1) := by decide +kernel
theorem dX3_nextKind_79 : decode cX3_nextKind 79 = .ok (.if_icmp .le 9, 3) := by decide +kernel
theorem dX3_nextKind_82 : decode cX3_nextKind 82 = .ok (.iload 4, 2) := by decide +kernel
theorem dX3_nextKind_84 : decode cX3_nextKind 84 = .ok (.istore_n 2, 1) := by decide +kernel
theorem dX3_nextKind_85 : decode cX3_nextKind 85 = .ok (.iload 5, 2) := by decide +kernel
theorem dX3_nextKind_87 : decode cX3_nextKind 87 = .ok (.istore_n 3, 1) := by decide +kernel
theorem dX3_nextKind_88 : decode cX3_nextKind 88 = .ok (.iinc 4 1, 3) := by decide +kernel
theorem dX3_nextKind_91 : decode cX3_nextKind 91 = .ok (.goto (-83), 3) := by decide +kernel
theorem dX3_nextKind_94 : decode cX3_nextKind 94 = .ok (.iload_n 2, 1) := by decide +kernel
theorem dX3_nextKind_95 : decode cX3_nextKind 95 = .ok (.ireturn, 1) := by decide +kernel
theorem dX3_farthestAfter_0 : decode cX3_farthestAfter 0 = .ok (.iconst 0, 1) := by decide +kernel
theorem dX3_farthestAfter_1 : decode cX3_farthestAfter 1 = .ok (.istore_n 2, 1) := by decide +kernel
theorem dX3_farthestAfter_2 : decode cX3_farthestAfter 2 = .ok (.iconst 0, 1) := by decide +kernel
theorem dX3_farthestAfter_3 : decode cX3_farthestAfter 3 = .ok (.istore_n 3, 1) := by decide +kernel
theorem dX3_farthestAfter_4 : decode cX3_farthestAfter 4 = .ok (.iload_n 3, 1) := by decide +kernel
theorem dX3_farthestAfter_5 : decode cX3_farthestAfter 5 = .ok (.bipush 6, 2) := by decide +kernel
theorem dX3_farthestAfter_7 : decode cX3_farthestAfter 7 = .ok (.if_icmp .ge 37, 3) := by decide +kernel
theorem dX3_farthestAfter_10 : decode cX3_farthestAfter 10 = .ok (.iload_n 2, 1) := by decide +kernel
theorem dX3_farthestAfter_11 : decode cX3_farthestAfter 11 = .ok (.aload_n 0, 1) := by decide +kernel
theorem dX3_farthestAfter_12 : decode cX3_farthestAfter 12 = .ok (.getfield 21, 3) := by decide +kernel
theorem dX3_farthestAfter_15 : decode cX3_farthestAfter 15 = .ok (.aload_n 0, 1) := by decide +kernel
theorem dX3_farthestAfter_16 : decode cX3_farthestAfter 16 = .ok (.getfield 15, 3) := by decide +kernel
theorem dX3_farthestAfter_19 : decode cX3_farthestAfter 19 = .ok (.iload_n 3, 1) := by decide +kernel
theorem dX3_farthestAfter_20 : decode cX3_farthestAfter 20 = .ok (.iaload, 1) := by decide +kernel
theorem dX3_farthestAfter_21 : decode cX3_farthestAfter 21 = .ok (.imul, 1) := by decide +kernel
theorem dX3_farthestAfter_22 : decode cX3_farthestAfter 22 = .ok (.aload_n 0, 1) := by decide +kernel
theorem dX3_farthestAfter_23 : decode cX3_farthestAfter 23 = .ok (.getfield 9, 3) := by decide +kernel
theorem dX3_farthestAfter_26 : decode cX3_farthestAfter 26 = .ok (.iload_n 3, 1) := by decide +kernel
theorem dX3_farthestAfter_27 : decode cX3_farthestAfter 27 = .ok (.iaload, 1) := by decide +kernel
theorem dX3_farthestAfter_28 : decode cX3_farthestAfter 28 = .ok (.iload_n 1, 1) := by decide +kernel
theorem dX3_farthestAfter_29 : decode cX3_farthestAfter 29 = .ok (.imul, 1) := by decide +kernel
theorem dX3_farthestAfter_30 : decode cX3_farthestAfter 30 = .ok (.isub, 1) := by decide +kernel
theorem dX3_farthestAfter_31 : decode cX3_farthestAfter 31 = .ok (.invokestatic 44, 3) := by decide +kernel
theorem dX3_farthestAfter_34 : decode cX3_farthestAfter 34 = .ok (.invokestatic 38, 3) := by decide +kernel
theorem dX3_farthestAfter_37 : decode cX3_farthestAfter 37 = .ok (.istore_n 2, 1) := by decide +kernel
theorem dX3_farthestAfter_38 : decode cX3_farthestAfter 38 = .ok (.iinc 3 1, 3) := by decide +kernel
theorem dX3_farthestAfter_41 : decode cX3_farthestAfter 41 = .ok (.goto (-37), 3) := by decide +kernel
theorem dX3_farthestAfter_44 : decode cX3_farthestAfter 44 = .ok (.iload_n 2, 1) := by decide +kernel
theorem dX3_farthestAfter_45 : decode cX3_farthestAfter 45 = .ok (.ireturn, 1) := by decide +kernel
theorem dX4_init_0 : decode cX4_init 0 = .ok (.aload_n 0, 1) := by decide +kernel
theorem dX4_init_1 : decode cX4_init 1 = .ok (.invokespecial 3, 3) := by decide +kernel
theorem dX4_init_4 : decode cX4_init 4 = .ok (.aload_n 0, 1) := by decide +kernel
theorem dX4_init_5 : decode cX4_init 5 = .ok (.sipush 488, 3) := by decide +kernel
theorem dX4_init_8 : decode cX4_init 8 = .ok (.newarray .int, 2) := by decide +kernel
theorem dX4_init_10 : decode cX4_init 10 = .ok (.putfield 9, 3) := by decide +kernel
theorem dX4_init_13 : decode cX4_init 13 = .ok (.aload_n 0, 1) := by decide +kernel
theorem dX4_init_14 : decode cX4_init 14 = .ok (.bipush 16, 2) := by decide +kernel
theorem dX4_init_16 : decode cX4_init 16 = .ok (.newarray .int, 2) := by decide +kernel
theorem dX4_init_18 : decode cX4_init 18 = .ok (.putfield 15, 3) := by decide +kernel
theorem dX4_init_21 : decode cX4_init 21 = .ok (.aload_n 0, 1) := by decide +kernel
theorem dX4_init_22 : decode cX4_init 22 = .ok (.aload_n 1, 1) := by decide +kernel
theorem dX4_init_23 : decode cX4_init 23 = .ok (.putfield 18, 3) := by decide +kernel
theorem dX4_init_26 : decode cX4_init 26 = .ok (.return_, 1) := by decide +kernel
theorem dX4_beginning_0 : decode cX4_beginning 0 = .ok (.aload_n 0, 1) := by decide +kernel
theorem dX4_beginning_1 : decode cX4_beginning 1 = .ok (.invokevirtual 22, 3) := by decide +kernel
theorem dX4_beginning_4 : decode cX4_beginning 4 = .ok (.iconst 0, 1) := by decide +kernel
theorem dX4_beginning_5 : decode cX4_beginning 5 = .ok (.istore_n 3, 1) := by decide +kernel
theorem dX4_beginning_6 : decode cX4_beginning 6 = .ok (.iload_n 3, 1) := by decide +kernel
theorem dX4_beginning_7 : decode cX4_beginning 7 = .ok (.iload_n 2, 1) := by decide +kernel
theorem dX4_beginning_8 : decode cX4_beginning 8 = .ok (.if_icmp .gt 14, 3) := by decide +kernel
theorem dX4_beginning_11 : decode cX4_beginning 11 = .ok (.aload_n 0, 1) := by decide +kernel
theorem dX4_beginning_12 : decode cX4_beginning 12 = .ok (.iload_n 3, 1) := by decide +kernel
theorem dX4_beginning_13 : decode cX4_beginning 13 = .ok (.invokevirtual 25, 3) := by decide +kernel
theorem dX4_beginning_16 : decode cX4_beginning 16 = .ok (.iinc 3 1, 3) := by decide +kernel
theorem dX4_beginning_19 : decode cX4_beginning 19 = .ok (.goto (-13), 3) := by decide +kernel
theorem dX4_beginning_22 : decode cX4_beginning 22 = .ok (.aload_n 0, 1) := by decide +kernel
theorem dX4_beginning_23 : decode cX4_beginning 23 = .ok (.getfield 9, 3) := by decide +kernel
theorem dX4_beginning_26 : decode cX4_beginning 26 = .ok (.iload_n 2, 1) := by decide +kernel
theorem dX4_beginning_27 : decode cX4_beginning 27 = .ok (.bipush 8, 2) := by decide +kernel
theorem dX4_beginning_29 : decode cX4_beginning 29 = .ok (.imul, 1) := by decide +kernel
theorem dX4_beginning_30 : decode cX4_beginning 30 = .ok (.iload_n 1, 1) := by decide +kernel
theorem dX4_beginning_31 : decode cX4_beginning 31 = .ok (.iadd, 1) := by decide +kernel
theorem dX4_beginning_32 : decode cX4_beginning 32 = .ok (.iaload, 1) := by decide +kernel
theorem dX4_beginning_33 : decode cX4_beginning 33 = .ok (.ireturn, 1) := by decide +kernel
theorem dX4_orderArcs_0 : decode cX4_orderArcs 0 = .ok (.aload_n 0, 1) := by decide +kernel
theorem dX4_orderArcs_1 : decode cX4_orderArcs 1 = .ok (.iconst 0, 1) := by decide +kernel
theorem dX4_orderArcs_2 : decode cX4_orderArcs 2 = .ok (.putfield 29, 3) := by decide +kernel
theorem dX4_orderArcs_5 : decode cX4_orderArcs 5 = .ok (.aload_n 0, 1) := by decide +kernel
theorem dX4_orderArcs_6 : decode cX4_orderArcs 6 = .ok (.iconst 0, 1) := by decide +kernel
theorem dX4_orderArcs_7 : decode cX4_orderArcs 7 = .ok (.putfield 33, 3) := by decide +kernel
theorem dX4_orderArcs_10 : decode cX4_orderArcs 10 = .ok (.iconst 0, 1) := by decide +kernel
theorem dX4_orderArcs_11 : decode cX4_orderArcs 11 = .ok (.istore_n 1, 1) := by decide +kernel
theorem dX4_orderArcs_12 : decode cX4_orderArcs 12 = .ok (.iload_n 1, 1) := by decide +kernel
theorem dX4_orderArcs_13 : decode cX4_orderArcs 13 = .ok (.aload_n 0, 1) := by decide +kernel
theorem dX4_orderArcs_14 : decode cX4_orderArcs 14 = .ok (.getfield 18, 3) := by decide +kernel
theorem dX4_orderArcs_17 : decode cX4_orderArcs 17 = .ok (.getfield 36, 3) := by decide +kernel
theorem dX4_orderArcs_20 : decode cX4_orderArcs 20 = .ok (.if_icmp .ge 64, 3) := by decide +kernel
theorem dX4_orderArcs_23 : decode cX4_orderArcs 23 = .ok (.iconst 0, 1) := by decide +kernel
theorem dX4_orderArcs_24 : decode cX4_orderArcs 24 = .ok (.istore_n 2, 1) := by decide +kernel
theorem dX4_orderArcs_25 : decode cX4_orderArcs 25 = .ok (.iload_n 2, 1) := by decide +kernel
theorem dX4_orderArcs_26 : decode cX4_orderArcs 26 = .ok (.aload_n 0, 1) := by decide +kernel
theorem dX4_orderArcs_27 : decode cX4_orderArcs 27 = .ok (.getfield 18, 3) := by decide +kernel
theorem dX4_orderArcs_30 : decode cX4_orderArcs 30 = .ok (.getfield 36, 3) := by decide +kernel
theorem dX4_orderArcs_33 : decode cX4_orderArcs 33 = .ok (.if_icmp .ge 45, 3) := by decide +kernel
theorem dX4_orderArcs_36 : decode cX4_orderArcs 36 = .ok (.aload_n 0, 1) := by decide +kernel
theorem dX4_orderArcs_37 : decode cX4_orderArcs 37 = .ok (.getfield 29, 3) := by decide +kernel
theorem dX4_orderArcs_40 : decode cX4_orderArcs 40 = .ok (.iload_n 2, 1) := by decide +kernel
theorem dX4_orderArcs_41 : decode cX4_orderArcs 41 = .ok (.ishr, 1) := by decide +kernel
theorem dX4_orderArcs_42 : decode cX4_orderArcs 42 = .ok (.iconst 1, 1) := by decide +kernel
theorem dX4_orderArcs_43 : decode cX4_orderArcs 43 = .ok (.iand, 1) := by decide +kernel
theorem dX4_orderArcs_44 : decode cX4_orderArcs 44 = .ok (.ifCond .ne 28, 3) := by decide +kernel
theorem dX4_orderArcs_47 : decode cX4_orderArcs 47 = .ok (.aload_n 0, 1) := by decide +kernel
theorem dX4_orderArcs_48 : decode cX4_orderArcs 48 = .ok (.iload_n 2, 1) := by decide +kernel
theorem dX4_orderArcs_49 : decode cX4_orderArcs 49 = .ok (.invokevirtual 41, 3) := by decide +kernel
theorem dX4_orderArcs_52 : decode cX4_orderArcs 52 = .ok (.ifCond .ne 20, 3) := by decide +kernel
theorem dX4_orderArcs_55 : decode cX4_orderArcs 55 = .ok (.aload_n 0, 1) := by decide +kernel
theorem dX4_orderArcs_56 : decode cX4_orderArcs 56 = .ok (.dup, 1) := by decide +kernel
theorem dX4_orderArcs_57 : decode cX4_orderArcs 57 = .ok (.getfield 29, 3) := by decide +kernel
theorem dX4_orderArcs_60 : decode cX4_orderArcs 60 = .ok (.iconst 1, 1) := by decide +kernel
theorem dX4_orderArcs_61 : decode cX4_orderArcs 61 = .ok (.iload_n 2, 1) := by decide +kernel
theorem dX4_orderArcs_62 : decode cX4_orderArcs 62 = .ok (.ishl, 1) := by decide +kernel
theorem dX4_orderArcs_63 : decode cX4_orderArcs 63 = .ok (.ior, 1) := by decide +kernel
theorem dX4_orderArcs_64 : decode cX4_orderArcs 64 = .ok (.putfield 29, 3) := by decide +kernel
theorem dX4_orderArcs_67 : decode cX4_orderArcs 67 = .ok (.aload_n 0, 1) := by decide +kernel
theorem dX4_orderArcs_68 : decode cX4_orderArcs 68 = .ok (.iload_n 2, 1) := by decide +kernel
theorem dX4_orderArcs_69 : decode cX4_orderArcs 69 = .ok (.invokevirtual 45, 3) := by decide +kernel
theorem dX4_orderArcs_72 : decode cX4_orderArcs 72 = .ok (.iinc 2 1, 3) := by decide +kernel
theorem dX4_orderArcs_75 : decode cX4_orderArcs 75 = .ok (.goto (-50), 3) := by decide +kernel
theorem dX4_orderArcs_78 : decode cX4_orderArcs 78 = .ok (.iinc 1 1, 3) := by decide +kernel
theorem dX4_orderArcs_81 : decode cX4_orderArcs 81 = .ok (.goto (-69), 3) := by decide +kernel
theorem dX4_orderArcs_84 : decode cX4_orderArcs 84 = .ok (.return_, 1) := by decide +kernel
theorem dX4_waits_0 : decode cX4_waits 0 = .ok (.iconst 0, 1) := by decide +kernel
theorem dX4_waits_1 : decode cX4_waits 1 = .ok (.istore_n 2, 1) := by decide +kernel
theorem dX4_waits_2 : decode cX4_waits 2 = .ok (.iload_n 2, 1) := by decide +kernel
theorem dX4_waits_3 : decode cX4_waits 3 = .ok (.aload_n 0, 1) := by decide +kernel
theorem dX4_waits_4 : decode cX4_waits 4 = .ok (.getfield 18, 3) := by decide +kernel
theorem dX4_waits_7 : decode cX4_waits 7 = .ok (.getfield 48, 3) := by decide +kernel
theorem dX4_waits_10 : decode cX4_waits 10 = .ok (.if_icmp .ge 65, 3) := by decide +kernel
theorem dX4_waits_13 : decode cX4_waits 13 = .ok (.aload_n 0, 1) := by decide +kernel
theorem dX4_waits_14 : decode cX4_waits 14 = .ok (.getfield 18, 3) := by decide +kernel
theorem dX4_waits_17 : decode cX4_waits 17 = .ok (.getfield 51, 3) := by decide +kernel
theorem dX4_waits_20 : decode cX4_waits 20 = .ok (.iload_n 2, 1) := by decide +kernel
theorem dX4_waits_21 : decode cX4_waits 21 = .ok (.iaload, 1) := by decide +kernel
theorem dX4_waits_22 : decode cX4_waits 22 = .ok (.iload_n 1, 1) := by decide +kernel
theorem dX4_waits_23 : decode cX4_waits 23 = .ok (.if_icmp .ne 19, 3) := by decide +kernel
theorem dX4_waits_26 : decode cX4_waits 26 = .ok (.aload_n 0, 1) := by decide +kernel
theorem dX4_waits_27 : decode cX4_waits 27 = .ok (.getfield 18, 3) := by decide +kernel
theorem dX4_waits_30 : decode cX4_waits 30 = .ok (.getfield 54, 3) := by decide +kernel
theorem dX4_waits_33 : decode cX4_waits 33 = .ok (.iload_n 2, 1) := by decide +kernel
theorem dX4_waits_34 : decode cX4_waits 34 = .ok (.iaload, 1) := by decide +kernel
theorem dX4_waits_35 : decode cX4_waits 35 = .ok (.ifCond .ne 7, 3) := by decide +kernel
theorem dX4_waits_38 : decode cX4_waits 38 = .ok (.iconst 1, 1) := by decide +kernel
theorem dX4_waits_39 : decode cX4_waits 39 = .ok (.goto 4, 3) := by decide +kernel
theorem dX4_waits_42 : decode cX4_waits 42 = .ok (.iconst 0, 1) := by decide +kernel
theorem dX4_waits_43 : decode cX4_waits 43 = .ok (.istore_n 3, 1) := by decide +kernel
theorem dX4_waits_44 : decode cX4_waits 44 = .ok (.iload_n 3, 1) := by decide +kernel
theorem dX4_waits_45 : decode cX4_waits 45 = .ok (.ifCond .eq 24, 3) := by decide +kernel
theorem dX4_waits_48 : decode cX4_waits 48 = .ok (.aload_n 0, 1) := by decide +kernel
theorem dX4_waits_49 : decode cX4_waits 49 = .ok (.getfield 29, 3) := by decide +kernel
theorem dX4_waits_52 : decode cX4_waits 52 = .ok (.aload_n 0, 1) := by decide +kernel
theorem dX4_waits_53 : decode cX4_waits 53 = .ok (.getfield 18, 3) := by decide +kernel
theorem dX4_waits_56 : decode cX4_waits 56 = .ok (.getfield 57, 3) := by decide +kernel
theorem dX4_waits_59 : decode cX4_waits 59 = .ok (.iload_n 2, 1) := by decide +kernel
theorem dX4_waits_60 : decode cX4_waits 60 = .ok (.iaload, 1) := by decide +kernel
theorem dX4_waits_61 : decode cX4_waits 61 = .ok (.ishr, 1) := by decide +kernel
theorem dX4_waits_62 : decode cX4_waits 62 = .ok (.iconst 1, 1) := by decide +kernel
theorem dX4_waits_63 : decode cX4_waits 63 = .ok (.iand, 1) := by decide +kernel
theorem dX4_waits_64 : decode cX4_waits 64 = .ok (.ifCond .ne 5, 3) := by decide +kernel
theorem dX4_waits_67 : decode cX4_waits 67 = .ok (.iconst 1, 1) := by decide +kernel
theorem dX4_waits_68 : decode cX4_waits 68 = .ok (.ireturn, 1) := by decide +kernel
theorem dX4_waits_69 : decode cX4_waits 69 = .ok (.iinc 2 1, 3) := by decide +kernel
theorem dX4_waits_72 : decode cX4_waits 72 = .ok (.goto (-70), 3) := by decide +kernel
theorem dX4_waits_75 : decode cX4_waits 75 = .ok (.iconst 0, 1) := by decide +kernel
theorem dX4_waits_76 : decode cX4_waits 76 = .ok (.ireturn, 1) := by decide +kernel
theorem dX4_orderArcsTo_0 : decode cX4_orderArcsTo 0 = .ok (.iconst 0, 1) := by decide +kernel
theorem dX4_orderArcsTo_1 : decode cX4_orderArcsTo 1 = .ok (.istore_n 2, 1) := by decide +kernel
theorem dX4_orderArcsTo_2 : decode cX4_orderArcsTo 2 = .ok (.iload_n 2, 1) := by decide +kernel
theorem dX4_orderArcsTo_3 : decode cX4_orderArcsTo 3 = .ok (.aload_n 0, 1) := by decide +kernel
theorem dX4_orderArcsTo_4 : decode cX4_orderArcsTo 4 = .ok (.getfield 18, 3) := by decide +kernel
theorem dX4_orderArcsTo_7 : decode cX4_orderArcsTo 7 = .ok (.getfield 48, 3) := by decide +kernel
theorem dX4_orderArcsTo_10 : decode cX4_orderArcsTo 10 = .ok (.if_icmp .ge 51, 3) := by decide +kernel
theorem dX4_orderArcsTo_13 : decode cX4_orderArcsTo 13 = .ok (.aload_n 0, 1) := by decide +kernel
theorem dX4_orderArcsTo_14 : decode cX4_orderArcsTo 14 = .ok (.getfield 18, 3) := by decide +kernel
theorem dX4_orderArcsTo_17 : decode cX4_orderArcsTo 17 = .ok (.getfield 51, 3) := by decide +kernel
theorem dX4_orderArcsTo_20 : decode cX4_orderArcsTo 20 = .ok (.iload_n 2, 1) := by decide +kernel
theorem dX4_orderArcsTo_21 : decode cX4_orderArcsTo 21 = .ok (.iaload, 1) := by decide +kernel
theorem dX4_orderArcsTo_22 : decode cX4_orderArcsTo 22 = .ok (.iload_n 1, 1) := by decide +kernel
theorem dX4_orderArcsTo_23 : decode cX4_orderArcsTo 23 = .ok (.if_icmp .ne 32, 3) := by decide +kernel
theorem dX4_orderArcsTo_26 : decode cX4_orderArcsTo 26 = .ok (.aload_n 0, 1) := by decide +kernel
theorem dX4_orderArcsTo_27 : decode cX4_orderArcsTo 27 = .ok (.getfield 33, 3) := by decide +kernel
theorem dX4_orderArcsTo_30 : decode cX4_orderArcsTo 30 = .ok (.bipush 16, 2) := by decide +kernel
theorem dX4_orderArcsTo_32 : decode cX4_orderArcsTo 32 = .ok (.if_icmp .ge 23, 3) := by decide +kernel
theorem dX4_orderArcsTo_35 : decode cX4_orderArcsTo 35 = .ok (.aload_n 0, 1) := by decide +kernel
theorem dX4_orderArcsTo_36 : decode cX4_orderArcsTo 36 = .ok (.getfield 15, 3) := by decide +kernel
theorem dX4_orderArcsTo_39 : decode cX4_orderArcsTo 39 = .ok (.aload_n 0, 1) := by decide +kernel
theorem dX4_orderArcsTo_40 : decode cX4_orderArcsTo 40 = .ok (.getfield 33, 3) := by decide +kernel
theorem dX4_orderArcsTo_43 : decode cX4_orderArcsTo 43 = .ok (.iload_n 2, 1) := by decide +kernel
theorem dX4_orderArcsTo_44 : decode cX4_orderArcsTo 44 = .ok (.iastore, 1) := by decide +kernel
theorem dX4_orderArcsTo_45 : decode cX4_orderArcsTo 45 = .ok (.aload_n 0, 1) := by decide +kernel
theorem dX4_orderArcsTo_46 : decode cX4_orderArcsTo 46 = .ok (.dup, 1) := by decide +kernel
theorem dX4_orderArcsTo_47 : decode cX4_orderArcsTo 47 = .ok (.getfield 33, 3) := by decide +kernel
theorem dX4_orderArcsTo_50 : decode cX4_orderArcsTo 50 = .ok (.iconst 1, 1) := by decide +kernel
theorem dX4_orderArcsTo_51 : decode cX4_orderArcsTo 51 = .ok (.iadd, 1) := by decide +kernel
theorem dX4_orderArcsTo_52 : decode cX4_orderArcsTo 52 = .ok (.putfield 33, 3) := by decide +kernel
theorem dX4_orderArcsTo_55 : decode cX4_orderArcsTo 55 = .ok (.iinc 2 1, 3) := by decide +kernel
theorem dX4_orderArcsTo_58 : decode cX4_orderArcsTo 58 = .ok (.goto (-56), 3) := by decide +kernel
theorem dX4_orderArcsTo_61 : decode cX4_orderArcsTo 61 = .ok (.return_, 1) := by decide +kernel
theorem dX4_beginAll_0 : decode cX4_beginAll 0 = .ok (.iload_n 1, 1) := by decide +kernel
theorem dX4_beginAll_1 : decode cX4_beginAll 1 = .ok (.bipush 8, 2) := by decide +kernel
theorem dX4_beginAll_3 : decode cX4_beginAll 3 = .ok (.imul, 1) := by decide +kernel
theorem dX4_beginAll_4 : decode cX4_beginAll 4 = .ok (.istore_n 2, 1) := by decide +kernel
theorem dX4_beginAll_5 : decode cX4_beginAll 5 = .ok (.iconst 0, 1) := by decide +kernel
theorem dX4_beginAll_6 : decode cX4_beginAll 6 = .ok (.istore_n 3, 1) := by decide +kernel
theorem dX4_beginAll_7 : decode cX4_beginAll 7 = .ok (.iload_n 3, 1) := by decide +kernel
theorem dX4_beginAll_8 : decode cX4_beginAll 8 = .ok (.aload_n 0, 1) := by decide +kernel
theorem dX4_beginAll_9 : decode cX4_beginAll 9 = .ok (.getfield 18, 3) := by decide +kernel
theorem dX4_beginAll_12 : decode cX4_beginAll 12 = .ok (.getfield 36, 3) := by decide +kernel
theorem dX4_beginAll_15 : decode cX4_beginAll 15 = .ok (.if_icmp .ge 35, 3) := by decide +kernel
theorem dX4_beginAll_18 : decode cX4_beginAll 18 = .ok (.aload_n 0, 1) := by decide +kernel
theorem dX4_beginAll_19 : decode cX4_beginAll 19 = .ok (.getfield 9, 3) := by decide +kernel
theorem dX4_beginAll_22 : decode cX4_beginAll 22 = .ok (.iload_n 2, 1) := by decide +kernel
theorem dX4_beginAll_23 : decode cX4_beginAll 23 = .ok (.iload_n 3, 1) := by decide +kernel
theorem dX4_beginAll_24 : decode cX4_beginAll 24 = .ok (.iadd, 1) := by decide +kernel
theorem dX4_beginAll_25 : decode cX4_beginAll 25 = .ok (.aload_n 0, 1) := by decide +kernel
theorem dX4_beginAll_26 : decode cX4_beginAll 26 = .ok (.getfield 29, 3) := by decide +kernel
theorem dX4_beginAll_29 : decode cX4_beginAll 29 = .ok (.iload_n 3, 1) := by decide +kernel
theorem dX4_beginAll_30 : decode cX4_beginAll 30 = .ok (.ishr, 1) := by decide +kernel
theorem dX4_beginAll_31 : decode cX4_beginAll 31 = .ok (.iconst 1, 1) := by decide +kernel
theorem dX4_beginAll_32 : decode cX4_beginAll 32 = .ok (.iand, 1) := by decide +kernel
theorem dX4_beginAll_33 : decode cX4_beginAll 33 = .ok (.iconst 1, 1) := by decide +kernel
theorem dX4_beginAll_34 : decode cX4_beginAll 34 = .ok (.if_icmp .ne 7, 3) := by decide +kernel
theorem dX4_beginAll_37 : decode cX4_beginAll 37 = .ok (.iconst 0, 1) := by decide +kernel
theorem dX4_beginAll_38 : decode cX4_beginAll 38 = .ok (.goto 5, 3) := by decide +kernel
theorem dX4_beginAll_41 : decode cX4_beginAll 41 = .ok (.bipush (-9), 2) := by decide +kernel
theorem dX4_beginAll_43 : decode cX4_beginAll 43 = .ok (.iastore, 1) := by decide +kernel
theorem dX4_beginAll_44 : decode cX4_beginAll 44 = .ok (.iinc 3 1, 3) := by decide +kernel
theorem dX4_beginAll_47 : decode cX4_beginAll 47 = .ok (.goto (-40), 3) := by decide +kernel
theorem dX4_beginAll_50 : decode cX4_beginAll 50 = .ok (.iconst 0, 1) := by decide +kernel
theorem dX4_beginAll_51 : decode cX4_beginAll 51 = .ok (.istore_n 3, 1) := by decide +kernel
theorem dX4_beginAll_52 : decode cX4_beginAll 52 = .ok (.iload_n 3, 1) := by decide +kernel
theorem dX4_beginAll_53 : decode cX4_beginAll 53 = .ok (.aload_n 0, 1) := by decide +kernel
theorem dX4_beginAll_54 : decode cX4_beginAll 54 = .ok (.getfield 33, 3) := by decide +kernel
theorem dX4_beginAll_57 : decode cX4_beginAll 57 = .ok (.if_icmp .ge 69, 3) := by decide +kernel
theorem dX4_beginAll_60 : decode cX4_beginAll 60 = .ok (.aload_n 0, 1) := by decide +kernel
theorem dX4_beginAll_61 : decode cX4_beginAll 61 = .ok (.getfield 15, 3) := by decide +kernel
theorem dX4_beginAll_64 : decode cX4_beginAll 64 = .ok (.iload_n 3, 1) := by decide +kernel
theorem dX4_beginAll_65 : decode cX4_beginAll 65 = .ok (.iaload, 1) := by decide +kernel
theorem dX4_beginAll_66 : decode cX4_beginAll 66 = .ok (.istore 4, 2) := by decide +kernel
theorem dX4_beginAll_68 : decode cX4_beginAll 68 = .ok (.iload_n 1, 1) := by decide +kernel
theorem dX4_beginAll_69 : decode cX4_beginAll 69 = .ok (.aload_n 0, 1) := by decide +kernel
theorem dX4_beginAll_70 : decode cX4_beginAll 70 = .ok (.getfield 18, 3) := by decide +kernel
theorem dX4_beginAll_73 : decode cX4_beginAll 73 = .ok (.getfield 54, 3) := by decide +kernel
theorem dX4_beginAll_76 : decode cX4_beginAll 76 = .ok (.iload 4, 2) := by decide +kernel
theorem dX4_beginAll_78 : decode cX4_beginAll 78 = .ok (.iaload, 1) := by decide +kernel
theorem dX4_beginAll_79 : decode cX4_beginAll 79 = .ok (.if_icmp .lt 41, 3) := by decide +kernel
theorem dX4_beginAll_82 : decode cX4_beginAll 82 = .ok (.iload_n 2, 1) := by decide +kernel
theorem dX4_beginAll_83 : decode cX4_beginAll 83 = .ok (.aload_n 0, 1) := by decide +kernel
theorem dX4_beginAll_84 : decode cX4_beginAll 84 = .ok (.getfield 18, 3) := by decide +kernel
theorem dX4_beginAll_87 : decode cX4_beginAll 87 = .ok (.getfield 51, 3) := by decide +kernel
theorem dX4_beginAll_90 : decode cX4_beginAll 90 = .ok (.iload 4, 2) := by decide +kernel
theorem dX4_beginAll_92 : decode cX4_beginAll 92 = .ok (.iaload, 1) := by decide +kernel
theorem dX4_beginAll_93 : decode cX4_beginAll 93 = .ok (.iadd, 1) := by decide +kernel
theorem dX4_beginAll_94 : decode cX4_beginAll 94 = .ok (.istore 5, 2) := by decide +kernel
theorem dX4_beginAll_96 : decode cX4_beginAll 96 = .ok (.aload_n 0, 1) := by decide +kernel
theorem dX4_beginAll_97 : decode cX4_beginAll 97 = .ok (.getfield 9, 3) := by decide +kernel
theorem dX4_beginAll_100 : decode cX4_beginAll 100 = .ok (.iload 5, 2) := by decide +kernel
theorem dX4_beginAll_102 : decode cX4_beginAll 102 = .ok (.aload_n 0, 1) := by decide +kernel
theorem dX4_beginAll_103 : decode cX4_beginAll 103 = .ok (.getfield 9, 3) := by decide +kernel
theorem dX4_beginAll_106 : decode cX4_beginAll 106 = .ok (.iload 5, 2) := by decide +kernel
theorem dX4_beginAll_108 : decode cX4_beginAll 108 = .ok (.iaload, 1) := by decide +kernel
theorem dX4_beginAll_109 : decode cX4_beginAll 109 = .ok (.aload_n 0, 1) := by decide +kernel
theorem dX4_beginAll_110 : decode cX4_beginAll 110 = .ok (.iload 4, 2) := by decide +kernel
theorem dX4_beginAll_112 : decode cX4_beginAll 112 = .ok (.iload_n 1, 1) := by decide +kernel
theorem dX4_beginAll_113 : decode cX4_beginAll 113 = .ok (.invokevirtual 60, 3) := by decide +kernel
theorem dX4_beginAll_116 : decode cX4_beginAll 116 = .ok (.invokestatic 64, 3) := by decide +kernel
theorem dX4_beginAll_119 : decode cX4_beginAll 119 = .ok (.iastore, 1) := by decide +kernel
theorem dX4_beginAll_120 : decode cX4_beginAll 120 = .ok (.iinc 3 1, 3) := by decide +kernel
theorem dX4_beginAll_123 : decode cX4_beginAll 123 = .ok (.goto (-71), 3) := by decide +kernel
theorem dX4_beginAll_126 : decode cX4_beginAll 126 = .ok (.return_, 1) := by decide +kernel
theorem dX4_doneAt_0 : decode cX4_doneAt 0 = .ok (.aload_n 0, 1) := by decide +kernel
theorem dX4_doneAt_1 : decode cX4_doneAt 1 = .ok (.getfield 18, 3) := by decide +kernel
theorem dX4_doneAt_4 : decode cX4_doneAt 4 = .ok (.getfield 57, 3) := by decide +kernel
theorem dX4_doneAt_7 : decode cX4_doneAt 7 = .ok (.iload_n 1, 1) := by decide +kernel
theorem dX4_doneAt_8 : decode cX4_doneAt 8 = .ok (.iaload, 1) := by decide +kernel
theorem dX4_doneAt_9 : decode cX4_doneAt 9 = .ok (.istore_n 3, 1) := by decide +kernel
theorem dX4_doneAt_10 : decode cX4_doneAt 10 = .ok (.aload_n 0, 1) := by decide +kernel
theorem dX4_doneAt_11 : decode cX4_doneAt 11 = .ok (.getfield 9, 3) := by decide +kernel
theorem dX4_doneAt_14 : decode cX4_doneAt 14 = .ok (.iload_n 2, 1) := by decide +kernel
theorem dX4_doneAt_15 : decode cX4_doneAt 15 = .ok (.aload_n 0, 1) := by decide +kernel
theorem dX4_doneAt_16 : decode cX4_doneAt 16 = .ok (.getfield 18, 3) := by decide +kernel
theorem dX4_doneAt_19 : decode cX4_doneAt 19 = .ok (.getfield 54, 3) := by decide +kernel
theorem dX4_doneAt_22 : decode cX4_doneAt 22 = .ok (.iload_n 1, 1) := by decide +kernel
theorem dX4_doneAt_23 : decode cX4_doneAt 23 = .ok (.iaload, 1) := by decide +kernel
theorem dX4_doneAt_24 : decode cX4_doneAt 24 = .ok (.isub, 1) := by decide +kernel
theorem dX4_doneAt_25 : decode cX4_doneAt 25 = .ok (.bipush 8, 2) := by decide +kernel
theorem dX4_doneAt_27 : decode cX4_doneAt 27 = .ok (.imul, 1) := by decide +kernel
theorem dX4_doneAt_28 : decode cX4_doneAt 28 = .ok (.iload_n 3, 1) := by decide +kernel
theorem dX4_doneAt_29 : decode cX4_doneAt 29 = .ok (.iadd, 1) := by decide +kernel
theorem dX4_doneAt_30 : decode cX4_doneAt 30 = .ok (.iaload, 1) := by decide +kernel
theorem dX4_doneAt_31 : decode cX4_doneAt 31 = .ok (.istore 4, 2) := by decide +kernel
theorem dX4_doneAt_33 : decode cX4_doneAt 33 = .ok (.iload 4, 2) := by decide +kernel
theorem dX4_doneAt_35 : decode cX4_doneAt 35 = .ok (.bipush (-9), 2) := by decide +kernel
theorem dX4_doneAt_37 : decode cX4_doneAt 37 = .ok (.if_icmp .ne 8, 3) := by decide +kernel
theorem dX4_doneAt_40 : decode cX4_doneAt 40 = .ok (.bipush (-9), 2) := by decide +kernel
theorem dX4_doneAt_42 : decode cX4_doneAt 42 = .ok (.goto 15, 3) := by decide +kernel
theorem dX4_doneAt_45 : decode cX4_doneAt 45 = .ok (.iload 4, 2) := by decide +kernel
theorem dX4_doneAt_47 : decode cX4_doneAt 47 = .ok (.aload_n 0, 1) := by decide +kernel
theorem dX4_doneAt_48 : decode cX4_doneAt 48 = .ok (.getfield 18, 3) := by decide +kernel
theorem dX4_doneAt_51 : decode cX4_doneAt 51 = .ok (.getfield 67, 3) := by decide +kernel
theorem dX4_doneAt_54 : decode cX4_doneAt 54 = .ok (.iload_n 3, 1) := by decide +kernel
theorem dX4_doneAt_55 : decode cX4_doneAt 55 = .ok (.iaload, 1) := by decide +kernel
theorem dX4_doneAt_56 : decode cX4_doneAt 56 = .ok (.iadd, 1) := by decide +kernel
theorem dX4_doneAt_57 : decode cX4_doneAt 57 = .ok (.ireturn, 1) := by decide +kernel
theorem dX4_later_0 : decode cX4_later 0 = .ok (.iload_n 0, 1) := by decide +kernel
theorem dX4_later_1 : decode cX4_later 1 = .ok (.bipush (-9), 2) := by decide +kernel
theorem dX4_later_3 : decode cX4_later 3 = .ok (.if_icmp .eq 9, 3) := by decide +kernel
theorem dX4_later_6 : decode cX4_later 6 = .ok (.iload_n 1, 1) := by decide +kernel
theorem dX4_later_7 : decode cX4_later 7 = .ok (.bipush (-9), 2) := by decide +kernel
theorem dX4_later_9 : decode cX4_later 9 = .ok (.if_icmp .ne 8, 3) := by decide +kernel
theorem dX4_later_12 : decode cX4_later 12 = .ok (.bipush (-9), 2) := by decide +kernel
theorem dX4_later_14 : decode cX4_later 14 = .ok (.goto 8, 3) := by decide +kernel
theorem dX4_later_17 : decode cX4_later 17 = .ok (.iload_n 0, 1) := by decide +kernel
theorem dX4_later_18 : decode cX4_later 18 = .ok (.iload_n 1, 1) := by decide +kernel
theorem dX4_later_19 : decode cX4_later 19 = .ok (.invokestatic 70, 3) := by decide +kernel
theorem dX4_later_22 : decode cX4_later 22 = .ok (.ireturn, 1) := by decide +kernel
theorem dX5_init_0 : decode cX5_init 0 = .ok (.aload_n 0, 1) := by decide +kernel
theorem dX5_init_1 : decode cX5_init 1 = .ok (.invokespecial 1, 3) := by decide +kernel
theorem dX5_init_4 : decode cX5_init 4 = .ok (.aload_n 0, 1) := by decide +kernel
theorem dX5_init_5 : decode cX5_init 5 = .ok (.new 7, 3) := by decide +kernel
theorem dX5_init_8 : decode cX5_init 8 = .ok (.dup, 1) := by decide +kernel
theorem dX5_init_9 : decode cX5_init 9 = .ok (.invokespecial 9, 3) := by decide +kernel
theorem dX5_init_12 : decode cX5_init 12 = .ok (.putfield 10, 3) := by decide +kernel
theorem dX5_init_15 : decode cX5_init 15 = .ok (.aload_n 0, 1) := by decide +kernel
theorem dX5_init_16 : decode cX5_init 16 = .ok (.new 16, 3) := by decide +kernel
theorem dX5_init_19 : decode cX5_init 19 = .ok (.dup, 1) := by decide +kernel
theorem dX5_init_20 : decode cX5_init 20 = .ok (.aload_n 0, 1) := by decide +kernel
theorem dX5_init_21 : decode cX5_init 21 = .ok (.getfield 10, 3) := by decide +kernel
theorem dX5_init_24 : decode cX5_init 24 = .ok (.invokespecial 18, 3) := by decide +kernel
theorem dX5_init_27 : decode cX5_init 27 = .ok (.putfield 21, 3) := by decide +kernel
theorem dX5_init_30 : decode cX5_init 30 = .ok (.aload_n 0, 1) := by decide +kernel
theorem dX5_init_31 : decode cX5_init 31 = .ok (.new 25, 3) := by decide +kernel
theorem dX5_init_34 : decode cX5_init 34 = .ok (.dup, 1) := by decide +kernel
theorem dX5_init_35 : decode cX5_init 35 = .ok (.aload_n 0, 1) := by decide +kernel
theorem dX5_init_36 : decode cX5_init 36 = .ok (.getfield 10, 3) := by decide +kernel
theorem dX5_init_39 : decode cX5_init 39 = .ok (.invokespecial 27, 3) := by decide +kernel
theorem dX5_init_42 : decode cX5_init 42 = .ok (.putfield 28, 3) := by decide +kernel
theorem dX5_init_45 : decode cX5_init 45 = .ok (.aload_n 0, 1) := by decide +kernel
theorem dX5_init_46 : decode cX5_init 46 = .ok (.new 32, 3) := by decide +kernel
theorem dX5_init_49 : decode cX5_init 49 = .ok (.dup, 1) := by decide +kernel
theorem dX5_init_50 : decode cX5_init 50 = .ok (.invokespecial 34, 3) := by decide +kernel
theorem dX5_init_53 : decode cX5_init 53 = .ok (.putfield 35, 3) := by decide +kernel
theorem dX5_init_56 : decode cX5_init 56 = .ok (.aload_n 0, 1) := by decide +kernel
theorem dX5_init_57 : decode cX5_init 57 = .ok (.new 39, 3) := by decide +kernel
theorem dX5_init_60 : decode cX5_init 60 = .ok (.dup, 1) := by decide +kernel
theorem dX5_init_61 : decode cX5_init 61 = .ok (.invokespecial 41, 3) := by decide +kernel
theorem dX5_init_64 : decode cX5_init 64 = .ok (.putfield 42, 3) := by decide +kernel
theorem dX5_init_67 : decode cX5_init 67 = .ok (.return_, 1) := by decide +kernel
theorem dX5_station_0 : decode cX5_station 0 = .ok (.iload_n 1, 1) := by decide +kernel
theorem dX5_station_1 : decode cX5_station 1 = .ok (.iconst 1, 1) := by decide +kernel
theorem dX5_station_2 : decode cX5_station 2 = .ok (.bipush 20, 2) := by decide +kernel
theorem dX5_station_4 : decode cX5_station 4 = .ok (.invokestatic 46, 3) := by decide +kernel
theorem dX5_station_7 : decode cX5_station 7 = .ok (.ifCond .ne 6, 3) := by decide +kernel
theorem dX5_station_10 : decode cX5_station 10 = .ok (.bipush (-2), 2) := by decide +kernel
theorem dX5_station_12 : decode cX5_station 12 = .ok (.ireturn, 1) := by decide +kernel
theorem dX5_station_13 : decode cX5_station 13 = .ok (.aload_n 0, 1) := by decide +kernel
theorem dX5_station_14 : decode cX5_station 14 = .ok (.getfield 10, 3) := by decide +kernel
theorem dX5_station_17 : decode cX5_station 17 = .ok (.getfield 50, 3) := by decide +kernel
theorem dX5_station_20 : decode cX5_station 20 = .ok (.bipush 8, 2) := by decide +kernel
theorem dX5_station_22 : decode cX5_station 22 = .ok (.if_icmp .lt 6, 3) := by decide +kernel
theorem dX5_station_25 : decode cX5_station 25 = .ok (.bipush (-4), 2) := by decide +kernel
theorem dX5_station_27 : decode cX5_station 27 = .ok (.ireturn, 1) := by decide +kernel
theorem dX5_station_28 : decode cX5_station 28 = .ok (.aload_n 0, 1) := by decide +kernel
theorem dX5_station_29 : decode cX5_station 29 = .ok (.getfield 21, 3) := by decide +kernel
theorem dX5_station_32 : decode cX5_station 32 = .ok (.invokevirtual 54, 3) := by decide +kernel
theorem dX5_station_35 : decode cX5_station 35 = .ok (.aload_n 0, 1) := by decide +kernel
theorem dX5_station_36 : decode cX5_station 36 = .ok (.getfield 10, 3) := by decide +kernel
theorem dX5_station_39 : decode cX5_station 39 = .ok (.iload_n 1, 1) := by decide +kernel
theorem dX5_station_40 : decode cX5_station 40 = .ok (.invokevirtual 57, 3) := by decide +kernel
theorem dX5_station_43 : decode cX5_station 43 = .ok (.ireturn, 1) := by decide +kernel
theorem dX5_arc_0 : decode cX5_arc 0 = .ok (.aload_n 0, 1) := by decide +kernel
theorem dX5_arc_1 : decode cX5_arc 1 = .ok (.getfield 10, 3) := by decide +kernel
theorem dX5_arc_4 : decode cX5_arc 4 = .ok (.iload_n 1, 1) := by decide +kernel
theorem dX5_arc_5 : decode cX5_arc 5 = .ok (.invokevirtual 61, 3) := by decide +kernel
theorem dX5_arc_8 : decode cX5_arc 8 = .ok (.ifCond .eq 14, 3) := by decide +kernel
theorem dX5_arc_11 : decode cX5_arc 11 = .ok (.aload_n 0, 1) := by decide +kernel
theorem dX5_arc_12 : decode cX5_arc 12 = .ok (.getfield 10, 3) := by decide +kernel
theorem dX5_arc_15 : decode cX5_arc 15 = .ok (.iload_n 2, 1) := by decide +kernel
theorem dX5_arc_16 : decode cX5_arc 16 = .ok (.invokevirtual 61, 3) := by decide +kernel
theorem dX5_arc_19 : decode cX5_arc 19 = .ok (.ifCond .ne 5, 3) := by decide +kernel
theorem dX5_arc_22 : decode cX5_arc 22 = .ok (.iconst (-1), 1) := by decide +kernel
theorem dX5_arc_23 : decode cX5_arc 23 = .ok (.ireturn, 1) := by decide +kernel
theorem dX5_arc_24 : decode cX5_arc 24 = .ok (.iload_n 3, 1) := by decide +kernel
theorem dX5_arc_25 : decode cX5_arc 25 = .ok (.iconst 0, 1) := by decide +kernel
theorem dX5_arc_26 : decode cX5_arc 26 = .ok (.bipush 9, 2) := by decide +kernel
theorem dX5_arc_28 : decode cX5_arc 28 = .ok (.invokestatic 46, 3) := by decide +kernel
theorem dX5_arc_31 : decode cX5_arc 31 = .ok (.ifCond .ne 6, 3) := by decide +kernel
theorem dX5_arc_34 : decode cX5_arc 34 = .ok (.bipush (-2), 2) := by decide +kernel
theorem dX5_arc_36 : decode cX5_arc 36 = .ok (.ireturn, 1) := by decide +kernel
theorem dX5_arc_37 : decode cX5_arc 37 = .ok (.aload_n 0, 1) := by decide +kernel
theorem dX5_arc_38 : decode cX5_arc 38 = .ok (.getfield 10, 3) := by decide +kernel
theorem dX5_arc_41 : decode cX5_arc 41 = .ok (.getfield 65, 3) := by decide +kernel
theorem dX5_arc_44 : decode cX5_arc 44 = .ok (.bipush 16, 2) := by decide +kernel
theorem dX5_arc_46 : decode cX5_arc 46 = .ok (.if_icmp .lt 6, 3) := by decide +kernel
theorem dX5_arc_49 : decode cX5_arc 49 = .ok (.bipush (-4), 2) := by decide +kernel
theorem dX5_arc_51 : decode cX5_arc 51 = .ok (.ireturn, 1) := by decide +kernel
theorem dX5_arc_52 : decode cX5_arc 52 = .ok (.aload_n 0, 1) := by decide +kernel
theorem dX5_arc_53 : decode cX5_arc 53 = .ok (.getfield 10, 3) := by decide +kernel
theorem dX5_arc_56 : decode cX5_arc 56 = .ok (.iload_n 1, 1) := by decide +kernel
theorem dX5_arc_57 : decode cX5_arc 57 = .ok (.iload_n 2, 1) := by decide +kernel
theorem dX5_arc_58 : decode cX5_arc 58 = .ok (.iload_n 3, 1) := by decide +kernel
theorem dX5_arc_59 : decode cX5_arc 59 = .ok (.invokevirtual 68, 3) := by decide +kernel
theorem dX5_arc_62 : decode cX5_arc 62 = .ok (.istore 4, 2) := by decide +kernel
theorem dX5_arc_64 : decode cX5_arc 64 = .ok (.aload_n 0, 1) := by decide +kernel
theorem dX5_arc_65 : decode cX5_arc 65 = .ok (.getfield 21, 3) := by decide +kernel
theorem dX5_arc_68 : decode cX5_arc 68 = .ok (.invokevirtual 54, 3) := by decide +kernel
theorem dX5_arc_71 : decode cX5_arc 71 = .ok (.aload_n 0, 1) := by decide +kernel
theorem dX5_arc_72 : decode cX5_arc 72 = .ok (.getfield 21, 3) := by decide +kernel
theorem dX5_arc_75 : decode cX5_arc 75 = .ok (.invokevirtual 72, 3) := by decide +kernel
theorem dX5_arc_78 : decode cX5_arc 78 = .ok (.iload 4, 2) := by decide +kernel
theorem dX5_arc_80 : decode cX5_arc 80 = .ok (.ireturn, 1) := by decide +kernel
theorem dX5_time_0 : decode cX5_time 0 = .ok (.aload_n 0, 1) := by decide +kernel
theorem dX5_time_1 : decode cX5_time 1 = .ok (.getfield 10, 3) := by decide +kernel
theorem dX5_time_4 : decode cX5_time 4 = .ok (.iload_n 1, 1) := by decide +kernel
theorem dX5_time_5 : decode cX5_time 5 = .ok (.invokevirtual 61, 3) := by decide +kernel
theorem dX5_time_8 : decode cX5_time 8 = .ok (.ifCond .ne 5, 3) := by decide +kernel
theorem dX5_time_11 : decode cX5_time 11 = .ok (.iconst (-1), 1) := by decide +kernel
theorem dX5_time_12 : decode cX5_time 12 = .ok (.ireturn, 1) := by decide +kernel
theorem dX5_time_13 : decode cX5_time 13 = .ok (.iload_n 2, 1) := by decide +kernel
theorem dX5_time_14 : decode cX5_time 14 = .ok (.iconst 1, 1) := by decide +kernel
theorem dX5_time_15 : decode cX5_time 15 = .ok (.bipush 20, 2) := by decide +kernel
theorem dX5_time_17 : decode cX5_time 17 = .ok (.invokestatic 46, 3) := by decide +kernel
theorem dX5_time_20 : decode cX5_time 20 = .ok (.ifCond .ne 6, 3) := by decide +kernel
theorem dX5_time_23 : decode cX5_time 23 = .ok (.bipush (-2), 2) := by decide +kernel
theorem dX5_time_25 : decode cX5_time 25 = .ok (.ireturn, 1) := by decide +kernel
theorem dX5_time_26 : decode cX5_time 26 = .ok (.aload_n 0, 1) := by decide +kernel
theorem dX5_time_27 : decode cX5_time 27 = .ok (.getfield 10, 3) := by decide +kernel
theorem dX5_time_30 : decode cX5_time 30 = .ok (.getfield 75, 3) := by decide +kernel
theorem dX5_time_33 : decode cX5_time 33 = .ok (.iload_n 1, 1) := by decide +kernel
theorem dX5_time_34 : decode cX5_time 34 = .ok (.iaload, 1) := by decide +kernel
theorem dX5_time_35 : decode cX5_time 35 = .ok (.istore_n 3, 1) := by decide +kernel
theorem dX5_time_36 : decode cX5_time 36 = .ok (.aload_n 0, 1) := by decide +kernel
theorem dX5_time_37 : decode cX5_time 37 = .ok (.getfield 10, 3) := by decide +kernel
theorem dX5_time_40 : decode cX5_time 40 = .ok (.getfield 75, 3) := by decide +kernel
theorem dX5_time_43 : decode cX5_time 43 = .ok (.iload_n 1, 1) := by decide +kernel
theorem dX5_time_44 : decode cX5_time 44 = .ok (.iload_n 2, 1) := by decide +kernel
theorem dX5_time_45 : decode cX5_time 45 = .ok (.iastore, 1) := by decide +kernel
theorem dX5_time_46 : decode cX5_time 46 = .ok (.iload_n 3, 1) := by decide +kernel
theorem dX5_time_47 : decode cX5_time 47 = .ok (.ireturn, 1) := by decide +kernel
theorem dX5_put_0 : decode cX5_put 0 = .ok (.aload_n 0, 1) := by decide +kernel
theorem dX5_put_1 : decode cX5_put 1 = .ok (.getfield 10, 3) := by decide +kernel
theorem dX5_put_4 : decode cX5_put 4 = .ok (.iload_n 1, 1) := by decide +kernel
theorem dX5_put_5 : decode cX5_put 5 = .ok (.invokevirtual 79, 3) := by decide +kernel
theorem dX5_put_8 : decode cX5_put 8 = .ok (.ifCond .ne 5, 3) := by decide +kernel
theorem dX5_put_11 : decode cX5_put 11 = .ok (.iconst (-1), 1) := by decide +kernel
theorem dX5_put_12 : decode cX5_put 12 = .ok (.ireturn, 1) := by decide +kernel
theorem dX5_put_13 : decode cX5_put 13 = .ok (.iload_n 2, 1) := by decide +kernel
theorem dX5_put_14 : decode cX5_put 14 = .ok (.iconst 0, 1) := by decide +kernel
theorem dX5_put_15 : decode cX5_put 15 = .ok (.bipush 9, 2) := by decide +kernel
theorem dX5_put_17 : decode cX5_put 17 = .ok (.invokestatic 46, 3) := by decide +kernel
theorem dX5_put_20 : decode cX5_put 20 = .ok (.ifCond .ne 6, 3) := by decide +kernel
theorem dX5_put_23 : decode cX5_put 23 = .ok (.bipush (-2), 2) := by decide +kernel
theorem dX5_put_25 : decode cX5_put 25 = .ok (.ireturn, 1) := by decide +kernel
theorem dX5_put_26 : decode cX5_put 26 = .ok (.aload_n 0, 1) := by decide +kernel
theorem dX5_put_27 : decode cX5_put 27 = .ok (.getfield 10, 3) := by decide +kernel
theorem dX5_put_30 : decode cX5_put 30 = .ok (.getfield 82, 3) := by decide +kernel
theorem dX5_put_33 : decode cX5_put 33 = .ok (.iload_n 1, 1) := by decide +kernel
theorem dX5_put_34 : decode cX5_put 34 = .ok (.iaload, 1) := by decide +kernel
theorem dX5_put_35 : decode cX5_put 35 = .ok (.istore_n 3, 1) := by decide +kernel
theorem dX5_put_36 : decode cX5_put 36 = .ok (.aload_n 0, 1) := by decide +kernel
theorem dX5_put_37 : decode cX5_put 37 = .ok (.getfield 10, 3) := by decide +kernel
theorem dX5_put_40 : decode cX5_put 40 = .ok (.getfield 82, 3) := by decide +kernel
theorem dX5_put_43 : decode cX5_put 43 = .ok (.iload_n 1, 1) := by decide +kernel
theorem dX5_put_44 : decode cX5_put 44 = .ok (.iload_n 2, 1) := by decide +kernel
theorem dX5_put_45 : decode cX5_put 45 = .ok (.iastore, 1) := by decide +kernel
theorem dX5_put_46 : decode cX5_put 46 = .ok (.iload_n 3, 1) := by decide +kernel
theorem dX5_put_47 : decode cX5_put 47 = .ok (.ireturn, 1) := by decide +kernel
theorem dX5_about_0 : decode cX5_about 0 = .ok (.aload_n 0, 1) := by decide +kernel
theorem dX5_about_1 : decode cX5_about 1 = .ok (.getfield 10, 3) := by decide +kernel
theorem dX5_about_4 : decode cX5_about 4 = .ok (.iload_n 1, 1) := by decide +kernel
theorem dX5_about_5 : decode cX5_about 5 = .ok (.invokevirtual 79, 3) := by decide +kernel
theorem dX5_about_8 : decode cX5_about 8 = .ok (.ifCond .ne 5, 3) := by decide +kernel
theorem dX5_about_11 : decode cX5_about 11 = .ok (.iconst (-1), 1) := by decide +kernel
theorem dX5_about_12 : decode cX5_about 12 = .ok (.ireturn, 1) := by decide +kernel
theorem dX5_about_13 : decode cX5_about 13 = .ok (.iload_n 2, 1) := by decide +kernel
theorem dX5_about_14 : decode cX5_about 14 = .ok (.tableswitch 56 0 2 #[26, 36, 46], 26) := by decide +kernel
theorem dX5_about_40 : decode cX5_about 40 = .ok (.aload_n 0, 1) := by decide +kernel
theorem dX5_about_41 : decode cX5_about 41 = .ok (.getfield 10, 3) := by decide +kernel
theorem dX5_about_44 : decode cX5_about 44 = .ok (.getfield 85, 3) := by decide +kernel
theorem dX5_about_47 : decode cX5_about 47 = .ok (.iload_n 1, 1) := by decide +kernel
theorem dX5_about_48 : decode cX5_about 48 = .ok (.iaload, 1) := by decide +kernel
theorem dX5_about_49 : decode cX5_about 49 = .ok (.ireturn, 1) := by decide +kernel
theorem dX5_about_50 : decode cX5_about 50 = .ok (.aload_n 0, 1) := by decide +kernel
theorem dX5_about_51 : decode cX5_about 51 = .ok (.getfield 10, 3) := by decide +kernel
theorem dX5_about_54 : decode cX5_about 54 = .ok (.getfield 88, 3) := by decide +kernel
theorem dX5_about_57 : decode cX5_about 57 = .ok (.iload_n 1, 1) := by decide +kernel
theorem dX5_about_58 : decode cX5_about 58 = .ok (.iaload, 1) := by decide +kernel
theorem dX5_about_59 : decode cX5_about 59 = .ok (.ireturn, 1) := by decide +kernel
theorem dX5_about_60 : decode cX5_about 60 = .ok (.aload_n 0, 1) := by decide +kernel
theorem dX5_about_61 : decode cX5_about 61 = .ok (.getfield 10, 3) := by decide +kernel
theorem dX5_about_64 : decode cX5_about 64 = .ok (.getfield 82, 3) := by decide +kernel
theorem dX5_about_67 : decode cX5_about 67 = .ok (.iload_n 1, 1) := by decide +kernel
theorem dX5_about_68 : decode cX5_about 68 = .ok (.iaload, 1) := by decide +kernel
theorem dX5_about_69 : decode cX5_about 69 = .ok (.ireturn, 1) := by decide +kernel
theorem dX5_about_70 : decode cX5_about 70 = .ok (.bipush (-2), 2) := by decide +kernel
theorem dX5_about_72 : decode cX5_about 72 = .ok (.ireturn, 1) := by decide +kernel
theorem dX5_ready_0 : decode cX5_ready 0 = .ok (.aload_n 0, 1) := by decide +kernel
theorem dX5_ready_1 : decode cX5_ready 1 = .ok (.getfield 10, 3) := by decide +kernel
theorem dX5_ready_4 : decode cX5_ready 4 = .ok (.iload_n 1, 1) := by decide +kernel
theorem dX5_ready_5 : decode cX5_ready 5 = .ok (.invokevirtual 61, 3) := by decide +kernel
theorem dX5_ready_8 : decode cX5_ready 8 = .ok (.ifCond .ne 5, 3) := by decide +kernel
theorem dX5_ready_11 : decode cX5_ready 11 = .ok (.iconst (-1), 1) := by decide +kernel
theorem dX5_ready_12 : decode cX5_ready 12 = .ok (.ireturn, 1) := by decide +kernel
theorem dX5_ready_13 : decode cX5_ready 13 = .ok (.aload_n 0, 1) := by decide +kernel
theorem dX5_ready_14 : decode cX5_ready 14 = .ok (.getfield 10, 3) := by decide +kernel
theorem dX5_ready_17 : decode cX5_ready 17 = .ok (.iload_n 1, 1) := by decide +kernel
theorem dX5_ready_18 : decode cX5_ready 18 = .ok (.invokevirtual 91, 3) := by decide +kernel
theorem dX5_ready_21 : decode cX5_ready 21 = .ok (.ifCond .eq 7, 3) := by decide +kernel
theorem dX5_ready_24 : decode cX5_ready 24 = .ok (.iconst 1, 1) := by decide +kernel
theorem dX5_ready_25 : decode cX5_ready 25 = .ok (.goto 4, 3) := by decide +kernel
theorem dX5_ready_28 : decode cX5_ready 28 = .ok (.iconst 0, 1) := by decide +kernel
theorem dX5_ready_29 : decode cX5_ready 29 = .ok (.ireturn, 1) := by decide +kernel
theorem dX5_fire_0 : decode cX5_fire 0 = .ok (.aload_n 0, 1) := by decide +kernel
theorem dX5_fire_1 : decode cX5_fire 1 = .ok (.getfield 10, 3) := by decide +kernel
theorem dX5_fire_4 : decode cX5_fire 4 = .ok (.iload_n 1, 1) := by decide +kernel
theorem dX5_fire_5 : decode cX5_fire 5 = .ok (.invokevirtual 61, 3) := by decide +kernel
theorem dX5_fire_8 : decode cX5_fire 8 = .ok (.ifCond .ne 5, 3) := by decide +kernel
theorem dX5_fire_11 : decode cX5_fire 11 = .ok (.iconst (-1), 1) := by decide +kernel
theorem dX5_fire_12 : decode cX5_fire 12 = .ok (.ireturn, 1) := by decide +kernel
theorem dX5_fire_13 : decode cX5_fire 13 = .ok (.aload_n 0, 1) := by decide +kernel
theorem dX5_fire_14 : decode cX5_fire 14 = .ok (.getfield 10, 3) := by decide +kernel
theorem dX5_fire_17 : decode cX5_fire 17 = .ok (.iload_n 1, 1) := by decide +kernel
theorem dX5_fire_18 : decode cX5_fire 18 = .ok (.invokevirtual 91, 3) := by decide +kernel
theorem dX5_fire_21 : decode cX5_fire 21 = .ok (.ifCond .ne 6, 3) := by decide +kernel
theorem dX5_fire_24 : decode cX5_fire 24 = .ok (.bipush (-3), 2) := by decide +kernel
theorem dX5_fire_26 : decode cX5_fire 26 = .ok (.ireturn, 1) := by decide +kernel
theorem dX5_fire_27 : decode cX5_fire 27 = .ok (.aload_n 0, 1) := by decide +kernel
theorem dX5_fire_28 : decode cX5_fire 28 = .ok (.getfield 10, 3) := by decide +kernel
theorem dX5_fire_31 : decode cX5_fire 31 = .ok (.iload_n 1, 1) := by decide +kernel
theorem dX5_fire_32 : decode cX5_fire 32 = .ok (.invokevirtual 94, 3) := by decide +kernel
theorem dX5_fire_35 : decode cX5_fire 35 = .ok (.ifCond .ne 6, 3) := by decide +kernel
theorem dX5_fire_38 : decode cX5_fire 38 = .ok (.bipush (-4), 2) := by decide +kernel
theorem dX5_fire_40 : decode cX5_fire 40 = .ok (.ireturn, 1) := by decide +kernel
theorem dX5_fire_41 : decode cX5_fire 41 = .ok (.aload_n 0, 1) := by decide +kernel
theorem dX5_fire_42 : decode cX5_fire 42 = .ok (.getfield 10, 3) := by decide +kernel
theorem dX5_fire_45 : decode cX5_fire 45 = .ok (.iload_n 1, 1) := by decide +kernel
theorem dX5_fire_46 : decode cX5_fire 46 = .ok (.invokevirtual 97, 3) := by decide +kernel
theorem dX5_fire_49 : decode cX5_fire 49 = .ok (.aload_n 0, 1) := by decide +kernel
theorem dX5_fire_50 : decode cX5_fire 50 = .ok (.getfield 10, 3) := by decide +kernel
theorem dX5_fire_53 : decode cX5_fire 53 = .ok (.invokevirtual 101, 3) := by decide +kernel
theorem dX5_fire_56 : decode cX5_fire 56 = .ok (.ireturn, 1) := by decide +kernel
theorem dX5_round_0 : decode cX5_round 0 = .ok (.iconst 0, 1) := by decide +kernel
theorem dX5_round_1 : decode cX5_round 1 = .ok (.istore_n 1, 1) := by decide +kernel
theorem dX5_round_2 : decode cX5_round 2 = .ok (.iconst 0, 1) := by decide +kernel
theorem dX5_round_3 : decode cX5_round 3 = .ok (.istore_n 2, 1) := by decide +kernel
theorem dX5_round_4 : decode cX5_round 4 = .ok (.iload_n 2, 1) := by decide +kernel
theorem dX5_round_5 : decode cX5_round 5 = .ok (.aload_n 0, 1) := by decide +kernel
theorem dX5_round_6 : decode cX5_round 6 = .ok (.getfield 10, 3) := by decide +kernel
theorem dX5_round_9 : decode cX5_round 9 = .ok (.getfield 50, 3) := by decide +kernel
theorem dX5_round_12 : decode cX5_round 12 = .ok (.if_icmp .ge 42, 3) := by decide +kernel
theorem dX5_round_15 : decode cX5_round 15 = .ok (.aload_n 0, 1) := by decide +kernel
theorem dX5_round_16 : decode cX5_round 16 = .ok (.getfield 10, 3) := by decide +kernel
theorem dX5_round_19 : decode cX5_round 19 = .ok (.iload_n 2, 1) := by decide +kernel
theorem dX5_round_20 : decode cX5_round 20 = .ok (.invokevirtual 91, 3) := by decide +kernel
theorem dX5_round_23 : decode cX5_round 23 = .ok (.ifCond .eq 25, 3) := by decide +kernel
theorem dX5_round_26 : decode cX5_round 26 = .ok (.aload_n 0, 1) := by decide +kernel
theorem dX5_round_27 : decode cX5_round 27 = .ok (.getfield 10, 3) := by decide +kernel
theorem dX5_round_30 : decode cX5_round 30 = .ok (.iload_n 2, 1) := by decide +kernel
theorem dX5_round_31 : decode cX5_round 31 = .ok (.invokevirtual 94, 3) := by decide +kernel
theorem dX5_round_34 : decode cX5_round 34 = .ok (.ifCond .eq 14, 3) := by decide +kernel
theorem dX5_round_37 : decode cX5_round 37 = .ok (.aload_n 0, 1) := by decide +kernel
theorem dX5_round_38 : decode cX5_round 38 = .ok (.getfield 10, 3) := by decide +kernel
theorem dX5_round_41 : decode cX5_round 41 = .ok (.iload_n 2, 1) := by decide +kernel
theorem dX5_round_42 : decode cX5_round 42 = .ok (.invokevirtual 97, 3) := by decide +kernel
theorem dX5_round_45 : decode cX5_round 45 = .ok (.iinc 1 1, 3) := by decide +kernel
theorem dX5_round_48 : decode cX5_round 48 = .ok (.iinc 2 1, 3) := by decide +kernel
theorem dX5_round_51 : decode cX5_round 51 = .ok (.goto (-47), 3) := by decide +kernel
theorem dX5_round_54 : decode cX5_round 54 = .ok (.iload_n 1, 1) := by decide +kernel
theorem dX5_round_55 : decode cX5_round 55 = .ok (.ireturn, 1) := by decide +kernel
theorem dX5_loops_0 : decode cX5_loops 0 = .ok (.aload_n 0, 1) := by decide +kernel
theorem dX5_loops_1 : decode cX5_loops 1 = .ok (.getfield 21, 3) := by decide +kernel
theorem dX5_loops_4 : decode cX5_loops 4 = .ok (.getfield 105, 3) := by decide +kernel
theorem dX5_loops_7 : decode cX5_loops 7 = .ok (.ireturn, 1) := by decide +kernel
theorem dX5_loop_0 : decode cX5_loop 0 = .ok (.aload_n 0, 1) := by decide +kernel
theorem dX5_loop_1 : decode cX5_loop 1 = .ok (.getfield 21, 3) := by decide +kernel
theorem dX5_loop_4 : decode cX5_loop 4 = .ok (.iload_n 1, 1) := by decide +kernel
theorem dX5_loop_5 : decode cX5_loop 5 = .ok (.invokevirtual 108, 3) := by decide +kernel
theorem dX5_loop_8 : decode cX5_loop 8 = .ok (.ifCond .ne 5, 3) := by decide +kernel
theorem dX5_loop_11 : decode cX5_loop 11 = .ok (.iconst (-1), 1) := by decide +kernel
theorem dX5_loop_12 : decode cX5_loop 12 = .ok (.ireturn, 1) := by decide +kernel
theorem dX5_loop_13 : decode cX5_loop 13 = .ok (.aload_n 0, 1) := by decide +kernel
theorem dX5_loop_14 : decode cX5_loop 14 = .ok (.getfield 21, 3) := by decide +kernel
theorem dX5_loop_17 : decode cX5_loop 17 = .ok (.iload_n 1, 1) := by decide +kernel
theorem dX5_loop_18 : decode cX5_loop 18 = .ok (.iload_n 2, 1) := by decide +kernel
theorem dX5_loop_19 : decode cX5_loop 19 = .ok (.invokevirtual 111, 3) := by decide +kernel
theorem dX5_loop_22 : decode cX5_loop 22 = .ok (.ireturn, 1) := by decide +kernel
theorem dX5_sum_0 : decode cX5_sum 0 = .ok (.aload_n 0, 1) := by decide +kernel
theorem dX5_sum_1 : decode cX5_sum 1 = .ok (.getfield 21, 3) := by decide +kernel
theorem dX5_sum_4 : decode cX5_sum 4 = .ok (.iload_n 1, 1) := by decide +kernel
theorem dX5_sum_5 : decode cX5_sum 5 = .ok (.invokevirtual 108, 3) := by decide +kernel
theorem dX5_sum_8 : decode cX5_sum 8 = .ok (.ifCond .ne 5, 3) := by decide +kernel
theorem dX5_sum_11 : decode cX5_sum 11 = .ok (.iconst (-1), 1) := by decide +kernel
theorem dX5_sum_12 : decode cX5_sum 12 = .ok (.ireturn, 1) := by decide +kernel
theorem dX5_sum_13 : decode cX5_sum 13 = .ok (.iload_n 2, 1) := by decide +kernel
theorem dX5_sum_14 : decode cX5_sum 14 = .ok (.ifCond .eq 21, 3) := by decide +kernel
theorem dX5_sum_17 : decode cX5_sum 17 = .ok (.aload_n 0, 1) := by decide +kernel
theorem dX5_sum_18 : decode cX5_sum 18 = .ok (.getfield 21, 3) := by decide +kernel
theorem dX5_sum_21 : decode cX5_sum 21 = .ok (.iload_n 1, 1) := by decide +kernel
theorem dX5_sum_22 : decode cX5_sum 22 = .ok (.aload_n 0, 1) := by decide +kernel
theorem dX5_sum_23 : decode cX5_sum 23 = .ok (.getfield 10, 3) := by decide +kernel
theorem dX5_sum_26 : decode cX5_sum 26 = .ok (.getfield 82, 3) := by decide +kernel
theorem dX5_sum_29 : decode cX5_sum 29 = .ok (.invokevirtual 115, 3) := by decide +kernel
theorem dX5_sum_32 : decode cX5_sum 32 = .ok (.goto 11, 3) := by decide +kernel
theorem dX5_sum_35 : decode cX5_sum 35 = .ok (.aload_n 0, 1) := by decide +kernel
theorem dX5_sum_36 : decode cX5_sum 36 = .ok (.getfield 21, 3) := by decide +kernel
theorem dX5_sum_39 : decode cX5_sum 39 = .ok (.iload_n 1, 1) := by decide +kernel
theorem dX5_sum_40 : decode cX5_sum 40 = .ok (.invokevirtual 119, 3) := by decide +kernel
theorem dX5_sum_43 : decode cX5_sum 43 = .ok (.ireturn, 1) := by decide +kernel
theorem dX5_pace_0 : decode cX5_pace 0 = .ok (.aload_n 0, 1) := by decide +kernel
theorem dX5_pace_1 : decode cX5_pace 1 = .ok (.getfield 21, 3) := by decide +kernel
theorem dX5_pace_4 : decode cX5_pace 4 = .ok (.invokevirtual 122, 3) := by decide +kernel
theorem dX5_pace_7 : decode cX5_pace 7 = .ok (.istore_n 2, 1) := by decide +kernel
theorem dX5_pace_8 : decode cX5_pace 8 = .ok (.aload_n 0, 1) := by decide +kernel
theorem dX5_pace_9 : decode cX5_pace 9 = .ok (.getfield 21, 3) := by decide +kernel
theorem dX5_pace_12 : decode cX5_pace 12 = .ok (.iload_n 2, 1) := by decide +kernel
theorem dX5_pace_13 : decode cX5_pace 13 = .ok (.invokevirtual 108, 3) := by decide +kernel
theorem dX5_pace_16 : decode cX5_pace 16 = .ok (.ifCond .ne 7, 3) := by decide +kernel
theorem dX5_pace_19 : decode cX5_pace 19 = .ok (.ldc2_w 125, 3) := by decide +kernel
theorem dX5_pace_22 : decode cX5_pace 22 = .ok (.lreturn, 1) := by decide +kernel
theorem dX5_pace_23 : decode cX5_pace 23 = .ok (.aload_n 0, 1) := by decide +kernel
theorem dX5_pace_24 : decode cX5_pace 24 = .ok (.getfield 21, 3) := by decide +kernel
theorem dX5_pace_27 : decode cX5_pace 27 = .ok (.iload_n 2, 1) := by decide +kernel
theorem dX5_pace_28 : decode cX5_pace 28 = .ok (.aload_n 0, 1) := by decide +kernel
theorem dX5_pace_29 : decode cX5_pace 29 = .ok (.getfield 10, 3) := by decide +kernel
theorem dX5_pace_32 : decode cX5_pace 32 = .ok (.getfield 82, 3) := by decide +kernel
theorem dX5_pace_35 : decode cX5_pace 35 = .ok (.invokevirtual 115, 3) := by decide +kernel
theorem dX5_pace_38 : decode cX5_pace 38 = .ok (.istore_n 3, 1) := by decide +kernel
theorem dX5_pace_39 : decode cX5_pace 39 = .ok (.iload_n 3, 1) := by decide +kernel
theorem dX5_pace_40 : decode cX5_pace 40 = .ok (.ifCond .ne 7, 3) := by decide +kernel
theorem dX5_pace_43 : decode cX5_pace 43 = .ok (.ldc2_w 125, 3) := by decide +kernel
theorem dX5_pace_46 : decode cX5_pace 46 = .ok (.lreturn, 1) := by decide +kernel
theorem dX5_pace_47 : decode cX5_pace 47 = .ok (.aload_n 0, 1) := by decide +kernel
theorem dX5_pace_48 : decode cX5_pace 48 = .ok (.getfield 21, 3) := by decide +kernel
theorem dX5_pace_51 : decode cX5_pace 51 = .ok (.iload_n 2, 1) := by decide +kernel
theorem dX5_pace_52 : decode cX5_pace 52 = .ok (.invokevirtual 119, 3) := by decide +kernel
theorem dX5_pace_55 : decode cX5_pace 55 = .ok (.i2l, 1) := by decide +kernel
theorem dX5_pace_56 : decode cX5_pace 56 = .ok (.iload_n 3, 1) := by decide +kernel
theorem dX5_pace_57 : decode cX5_pace 57 = .ok (.i2l, 1) := by decide +kernel
theorem dX5_pace_58 : decode cX5_pace 58 = .ok (.iload_n 1, 1) := by decide +kernel
theorem dX5_pace_59 : decode cX5_pace 59 = .ok (.invokestatic 127, 3) := by decide +kernel
theorem dX5_pace_62 : decode cX5_pace 62 = .ok (.lreturn, 1) := by decide +kernel
theorem dX5_slowest_0 : decode cX5_slowest 0 = .ok (.aload_n 0, 1) := by decide +kernel
theorem dX5_slowest_1 : decode cX5_slowest 1 = .ok (.getfield 21, 3) := by decide +kernel
theorem dX5_slowest_4 : decode cX5_slowest 4 = .ok (.invokevirtual 122, 3) := by decide +kernel
theorem dX5_slowest_7 : decode cX5_slowest 7 = .ok (.ireturn, 1) := by decide +kernel
theorem dX5_begins_0 : decode cX5_begins 0 = .ok (.aload_n 0, 1) := by decide +kernel
theorem dX5_begins_1 : decode cX5_begins 1 = .ok (.getfield 10, 3) := by decide +kernel
theorem dX5_begins_4 : decode cX5_begins 4 = .ok (.iload_n 1, 1) := by decide +kernel
theorem dX5_begins_5 : decode cX5_begins 5 = .ok (.invokevirtual 61, 3) := by decide +kernel
theorem dX5_begins_8 : decode cX5_begins 8 = .ok (.ifCond .ne 5, 3) := by decide +kernel
theorem dX5_begins_11 : decode cX5_begins 11 = .ok (.iconst (-1), 1) := by decide +kernel
theorem dX5_begins_12 : decode cX5_begins 12 = .ok (.ireturn, 1) := by decide +kernel
theorem dX5_begins_13 : decode cX5_begins 13 = .ok (.iload_n 2, 1) := by decide +kernel
theorem dX5_begins_14 : decode cX5_begins 14 = .ok (.iconst 0, 1) := by decide +kernel
theorem dX5_begins_15 : decode cX5_begins 15 = .ok (.bipush 60, 2) := by decide +kernel
theorem dX5_begins_17 : decode cX5_begins 17 = .ok (.invokestatic 46, 3) := by decide +kernel
theorem dX5_begins_20 : decode cX5_begins 20 = .ok (.ifCond .ne 6, 3) := by decide +kernel
theorem dX5_begins_23 : decode cX5_begins 23 = .ok (.bipush (-2), 2) := by decide +kernel
theorem dX5_begins_25 : decode cX5_begins 25 = .ok (.ireturn, 1) := by decide +kernel
theorem dX5_begins_26 : decode cX5_begins 26 = .ok (.aload_n 0, 1) := by decide +kernel
theorem dX5_begins_27 : decode cX5_begins 27 = .ok (.getfield 28, 3) := by decide +kernel
theorem dX5_begins_30 : decode cX5_begins 30 = .ok (.iload_n 1, 1) := by decide +kernel
theorem dX5_begins_31 : decode cX5_begins 31 = .ok (.iload_n 2, 1) := by decide +kernel
theorem dX5_begins_32 : decode cX5_begins 32 = .ok (.invokevirtual 131, 3) := by decide +kernel
theorem dX5_begins_35 : decode cX5_begins 35 = .ok (.ireturn, 1) := by decide +kernel
theorem dX5_note_0 : decode cX5_note 0 = .ok (.aload_n 0, 1) := by decide +kernel
theorem dX5_note_1 : decode cX5_note 1 = .ok (.getfield 21, 3) := by decide +kernel
theorem dX5_note_4 : decode cX5_note 4 = .ok (.invokevirtual 134, 3) := by decide +kernel
theorem dX5_note_7 : decode cX5_note 7 = .ok (.aload_n 0, 1) := by decide +kernel
theorem dX5_note_8 : decode cX5_note 8 = .ok (.getfield 21, 3) := by decide +kernel
theorem dX5_note_11 : decode cX5_note 11 = .ok (.getfield 105, 3) := by decide +kernel
theorem dX5_note_14 : decode cX5_note 14 = .ok (.ireturn, 1) := by decide +kernel
theorem dX5_audit_0 : decode cX5_audit 0 = .ok (.aload_n 0, 1) := by decide +kernel
theorem dX5_audit_1 : decode cX5_audit 1 = .ok (.getfield 21, 3) := by decide +kernel
theorem dX5_audit_4 : decode cX5_audit 4 = .ok (.getfield 137, 3) := by decide +kernel
theorem dX5_audit_7 : decode cX5_audit 7 = .ok (.ifCond .ne 6, 3) := by decide +kernel
theorem dX5_audit_10 : decode cX5_audit 10 = .ok (.bipush (-3), 2) := by decide +kernel
theorem dX5_audit_12 : decode cX5_audit 12 = .ok (.ireturn, 1) := by decide +kernel
theorem dX5_audit_13 : decode cX5_audit 13 = .ok (.aload_n 0, 1) := by decide +kernel
theorem dX5_audit_14 : decode cX5_audit 14 = .ok (.getfield 21, 3) := by decide +kernel
theorem dX5_audit_17 : decode cX5_audit 17 = .ok (.iload_n 1, 1) := by decide +kernel
theorem dX5_audit_18 : decode cX5_audit 18 = .ok (.invokevirtual 141, 3) := by decide +kernel
theorem dX5_audit_21 : decode cX5_audit 21 = .ok (.ireturn, 1) := by decide +kernel
theorem dX5_cards_0 : decode cX5_cards 0 = .ok (.aload_n 0, 1) := by decide +kernel
theorem dX5_cards_1 : decode cX5_cards 1 = .ok (.getfield 10, 3) := by decide +kernel
theorem dX5_cards_4 : decode cX5_cards 4 = .ok (.iload_n 1, 1) := by decide +kernel
theorem dX5_cards_5 : decode cX5_cards 5 = .ok (.invokevirtual 79, 3) := by decide +kernel
theorem dX5_cards_8 : decode cX5_cards 8 = .ok (.ifCond .ne 5, 3) := by decide +kernel
theorem dX5_cards_11 : decode cX5_cards 11 = .ok (.iconst (-1), 1) := by decide +kernel
theorem dX5_cards_12 : decode cX5_cards 12 = .ok (.ireturn, 1) := by decide +kernel
theorem dX5_cards_13 : decode cX5_cards 13 = .ok (.iload_n 2, 1) := by decide +kernel
theorem dX5_cards_14 : decode cX5_cards 14 = .ok (.iconst 1, 1) := by decide +kernel
theorem dX5_cards_15 : decode cX5_cards 15 = .ok (.sipush 1000, 3) := by decide +kernel
theorem dX5_cards_18 : decode cX5_cards 18 = .ok (.invokestatic 46, 3) := by decide +kernel
theorem dX5_cards_21 : decode cX5_cards 21 = .ok (.ifCond .eq 14, 3) := by decide +kernel
theorem dX5_cards_24 : decode cX5_cards 24 = .ok (.iload_n 3, 1) := by decide +kernel
theorem dX5_cards_25 : decode cX5_cards 25 = .ok (.iconst 1, 1) := by decide +kernel
theorem dX5_cards_26 : decode cX5_cards 26 = .ok (.sipush 1000, 3) := by decide +kernel
theorem dX5_cards_29 : decode cX5_cards 29 = .ok (.invokestatic 46, 3) := by decide +kernel
theorem dX5_cards_32 : decode cX5_cards 32 = .ok (.ifCond .ne 6, 3) := by decide +kernel
theorem dX5_cards_35 : decode cX5_cards 35 = .ok (.bipush (-2), 2) := by decide +kernel
theorem dX5_cards_37 : decode cX5_cards 37 = .ok (.ireturn, 1) := by decide +kernel
theorem dX5_cards_38 : decode cX5_cards 38 = .ok (.aload_n 0, 1) := by decide +kernel
theorem dX5_cards_39 : decode cX5_cards 39 = .ok (.getfield 21, 3) := by decide +kernel
theorem dX5_cards_42 : decode cX5_cards 42 = .ok (.iload_n 1, 1) := by decide +kernel
theorem dX5_cards_43 : decode cX5_cards 43 = .ok (.iload_n 2, 1) := by decide +kernel
theorem dX5_cards_44 : decode cX5_cards 44 = .ok (.iload_n 3, 1) := by decide +kernel
theorem dX5_cards_45 : decode cX5_cards 45 = .ok (.invokevirtual 145, 3) := by decide +kernel
theorem dX5_cards_48 : decode cX5_cards 48 = .ok (.ireturn, 1) := by decide +kernel
theorem dX5_machine_0 : decode cX5_machine 0 = .ok (.iload_n 1, 1) := by decide +kernel
theorem dX5_machine_1 : decode cX5_machine 1 = .ok (.iconst 0, 1) := by decide +kernel
theorem dX5_machine_2 : decode cX5_machine 2 = .ok (.iconst 1, 1) := by decide +kernel
theorem dX5_machine_3 : decode cX5_machine 3 = .ok (.invokestatic 46, 3) := by decide +kernel
theorem dX5_machine_6 : decode cX5_machine 6 = .ok (.ifCond .ne 5, 3) := by decide +kernel
theorem dX5_machine_9 : decode cX5_machine 9 = .ok (.iconst (-1), 1) := by decide +kernel
theorem dX5_machine_10 : decode cX5_machine 10 = .ok (.ireturn, 1) := by decide +kernel
theorem dX5_machine_11 : decode cX5_machine 11 = .ok (.iload_n 2, 1) := by decide +kernel
theorem dX5_machine_12 : decode cX5_machine 12 = .ok (.iconst 0, 1) := by decide +kernel
theorem dX5_machine_13 : decode cX5_machine 13 = .ok (.iconst 4, 1) := by decide +kernel
theorem dX5_machine_14 : decode cX5_machine 14 = .ok (.invokestatic 46, 3) := by decide +kernel
theorem dX5_machine_17 : decode cX5_machine 17 = .ok (.ifCond .eq 12, 3) := by decide +kernel
theorem dX5_machine_20 : decode cX5_machine 20 = .ok (.iload_n 3, 1) := by decide +kernel
theorem dX5_machine_21 : decode cX5_machine 21 = .ok (.iconst 0, 1) := by decide +kernel
theorem dX5_machine_22 : decode cX5_machine 22 = .ok (.iconst 4, 1) := by decide +kernel
theorem dX5_machine_23 : decode cX5_machine 23 = .ok (.invokestatic 46, 3) := by decide +kernel
theorem dX5_machine_26 : decode cX5_machine 26 = .ok (.ifCond .ne 6, 3) := by decide +kernel
theorem dX5_machine_29 : decode cX5_machine 29 = .ok (.bipush (-2), 2) := by decide +kernel
theorem dX5_machine_31 : decode cX5_machine 31 = .ok (.ireturn, 1) := by decide +kernel
theorem dX5_machine_32 : decode cX5_machine 32 = .ok (.bipush 10, 2) := by decide +kernel
theorem dX5_machine_34 : decode cX5_machine 34 = .ok (.aload_n 0, 1) := by decide +kernel
theorem dX5_machine_35 : decode cX5_machine 35 = .ok (.getfield 35, 3) := by decide +kernel
theorem dX5_machine_38 : decode cX5_machine 38 = .ok (.getfield 148, 3) := by decide +kernel
theorem dX5_machine_41 : decode cX5_machine 41 = .ok (.iload_n 1, 1) := by decide +kernel
theorem dX5_machine_42 : decode cX5_machine 42 = .ok (.iaload, 1) := by decide +kernel
theorem dX5_machine_43 : decode cX5_machine 43 = .ok (.imul, 1) := by decide +kernel
theorem dX5_machine_44 : decode cX5_machine 44 = .ok (.aload_n 0, 1) := by decide +kernel
theorem dX5_machine_45 : decode cX5_machine 45 = .ok (.getfield 35, 3) := by decide +kernel
theorem dX5_machine_48 : decode cX5_machine 48 = .ok (.getfield 151, 3) := by decide +kernel
theorem dX5_machine_51 : decode cX5_machine 51 = .ok (.iload_n 1, 1) := by decide +kernel
theorem dX5_machine_52 : decode cX5_machine 52 = .ok (.iaload, 1) := by decide +kernel
theorem dX5_machine_53 : decode cX5_machine 53 = .ok (.iadd, 1) := by decide +kernel
theorem dX5_machine_54 : decode cX5_machine 54 = .ok (.istore 4, 2) := by decide +kernel
theorem dX5_machine_56 : decode cX5_machine 56 = .ok (.aload_n 0, 1) := by decide +kernel
theorem dX5_machine_57 : decode cX5_machine 57 = .ok (.getfield 35, 3) := by decide +kernel
theorem dX5_machine_60 : decode cX5_machine 60 = .ok (.getfield 148, 3) := by decide +kernel
theorem dX5_machine_63 : decode cX5_machine 63 = .ok (.iload_n 1, 1) := by decide +kernel
theorem dX5_machine_64 : decode cX5_machine 64 = .ok (.iload_n 2, 1) := by decide +kernel
theorem dX5_machine_65 : decode cX5_machine 65 = .ok (.iastore, 1) := by decide +kernel
theorem dX5_machine_66 : decode cX5_machine 66 = .ok (.aload_n 0, 1) := by decide +kernel
theorem dX5_machine_67 : decode cX5_machine 67 = .ok (.getfield 35, 3) := by decide +kernel
theorem dX5_machine_70 : decode cX5_machine 70 = .ok (.getfield 151, 3) := by decide +kernel
theorem dX5_machine_73 : decode cX5_machine 73 = .ok (.iload_n 1, 1) := by decide +kernel
theorem dX5_machine_74 : decode cX5_machine 74 = .ok (.iload_n 3, 1) := by decide +kernel
theorem dX5_machine_75 : decode cX5_machine 75 = .ok (.iastore, 1) := by decide +kernel
theorem dX5_machine_76 : decode cX5_machine 76 = .ok (.iload 4, 2) := by decide +kernel
theorem dX5_machine_78 : decode cX5_machine 78 = .ok (.ireturn, 1) := by decide +kernel
theorem dX5_store_0 : decode cX5_store 0 = .ok (.iload_n 1, 1) := by decide +kernel
theorem dX5_store_1 : decode cX5_store 1 = .ok (.iconst 0, 1) := by decide +kernel
theorem dX5_store_2 : decode cX5_store 2 = .ok (.bipush 6, 2) := by decide +kernel
theorem dX5_store_4 : decode cX5_store 4 = .ok (.invokestatic 46, 3) := by decide +kernel
theorem dX5_store_7 : decode cX5_store 7 = .ok (.ifCond .ne 6, 3) := by decide +kernel
theorem dX5_store_10 : decode cX5_store 10 = .ok (.bipush (-2), 2) := by decide +kernel
theorem dX5_store_12 : decode cX5_store 12 = .ok (.ireturn, 1) := by decide +kernel
theorem dX5_store_13 : decode cX5_store 13 = .ok (.aload_n 0, 1) := by decide +kernel
theorem dX5_store_14 : decode cX5_store 14 = .ok (.getfield 35, 3) := by decide +kernel
theorem dX5_store_17 : decode cX5_store 17 = .ok (.getfield 154, 3) := by decide +kernel
theorem dX5_store_20 : decode cX5_store 20 = .ok (.istore_n 2, 1) := by decide +kernel
theorem dX5_store_21 : decode cX5_store 21 = .ok (.aload_n 0, 1) := by decide +kernel
theorem dX5_store_22 : decode cX5_store 22 = .ok (.getfield 35, 3) := by decide +kernel
theorem dX5_store_25 : decode cX5_store 25 = .ok (.iload_n 1, 1) := by decide +kernel
theorem dX5_store_26 : decode cX5_store 26 = .ok (.putfield 154, 3) := by decide +kernel
theorem dX5_store_29 : decode cX5_store 29 = .ok (.iload_n 2, 1) := by decide +kernel
theorem dX5_store_30 : decode cX5_store 30 = .ok (.ireturn, 1) := by decide +kernel
theorem dX5_given_0 : decode cX5_given 0 = .ok (.iload_n 1, 1) := by decide +kernel
theorem dX5_given_1 : decode cX5_given 1 = .ok (.iconst 1, 1) := by decide +kernel
theorem dX5_given_2 : decode cX5_given 2 = .ok (.bipush 10, 2) := by decide +kernel
theorem dX5_given_4 : decode cX5_given 4 = .ok (.invokestatic 46, 3) := by decide +kernel
theorem dX5_given_7 : decode cX5_given 7 = .ok (.ifCond .ne 7, 3) := by decide +kernel
theorem dX5_given_10 : decode cX5_given 10 = .ok (.ldc2_w 157, 3) := by decide +kernel
theorem dX5_given_13 : decode cX5_given 13 = .ok (.lreturn, 1) := by decide +kernel
theorem dX5_given_14 : decode cX5_given 14 = .ok (.aload_n 0, 1) := by decide +kernel
theorem dX5_given_15 : decode cX5_given 15 = .ok (.getfield 35, 3) := by decide +kernel
theorem dX5_given_18 : decode cX5_given 18 = .ok (.iload_n 1, 1) := by decide +kernel
theorem dX5_given_19 : decode cX5_given 19 = .ok (.aload_n 0, 1) := by decide +kernel
theorem dX5_given_20 : decode cX5_given 20 = .ok (.getfield 35, 3) := by decide +kernel
theorem dX5_given_23 : decode cX5_given 23 = .ok (.getfield 154, 3) := by decide +kernel
theorem dX5_given_26 : decode cX5_given 26 = .ok (.invokevirtual 159, 3) := by decide +kernel
theorem dX5_given_29 : decode cX5_given 29 = .ok (.iload_n 1, 1) := by decide +kernel
theorem dX5_given_30 : decode cX5_given 30 = .ok (.invokestatic 163, 3) := by decide +kernel
theorem dX5_given_33 : decode cX5_given 33 = .ok (.iload_n 2, 1) := by decide +kernel
theorem dX5_given_34 : decode cX5_given 34 = .ok (.invokestatic 127, 3) := by decide +kernel
theorem dX5_given_37 : decode cX5_given 37 = .ok (.lreturn, 1) := by decide +kernel
theorem dX5_just_0 : decode cX5_just 0 = .ok (.iload_n 1, 1) := by decide +kernel
theorem dX5_just_1 : decode cX5_just 1 = .ok (.iconst 1, 1) := by decide +kernel
theorem dX5_just_2 : decode cX5_just 2 = .ok (.bipush 10, 2) := by decide +kernel
theorem dX5_just_4 : decode cX5_just 4 = .ok (.invokestatic 46, 3) := by decide +kernel
theorem dX5_just_7 : decode cX5_just 7 = .ok (.ifCond .eq 13, 3) := by decide +kernel
theorem dX5_just_10 : decode cX5_just 10 = .ok (.iload_n 2, 1) := by decide +kernel
theorem dX5_just_11 : decode cX5_just 11 = .ok (.iconst 0, 1) := by decide +kernel
theorem dX5_just_12 : decode cX5_just 12 = .ok (.bipush 10, 2) := by decide +kernel
theorem dX5_just_14 : decode cX5_just 14 = .ok (.invokestatic 46, 3) := by decide +kernel
theorem dX5_just_17 : decode cX5_just 17 = .ok (.ifCond .ne 7, 3) := by decide +kernel
theorem dX5_just_20 : decode cX5_just 20 = .ok (.ldc2_w 157, 3) := by decide +kernel
theorem dX5_just_23 : decode cX5_just 23 = .ok (.lreturn, 1) := by decide +kernel
theorem dX5_just_24 : decode cX5_just 24 = .ok (.aload_n 0, 1) := by decide +kernel
theorem dX5_just_25 : decode cX5_just 25 = .ok (.getfield 35, 3) := by decide +kernel
theorem dX5_just_28 : decode cX5_just 28 = .ok (.iload_n 1, 1) := by decide +kernel
theorem dX5_just_29 : decode cX5_just 29 = .ok (.iload_n 2, 1) := by decide +kernel
theorem dX5_just_30 : decode cX5_just 30 = .ok (.invokevirtual 167, 3) := by decide +kernel
theorem dX5_just_33 : decode cX5_just 33 = .ok (.iload_n 1, 1) := by decide +kernel
theorem dX5_just_34 : decode cX5_just 34 = .ok (.invokestatic 163, 3) := by decide +kernel
theorem dX5_just_37 : decode cX5_just 37 = .ok (.iload_n 3, 1) := by decide +kernel
theorem dX5_just_38 : decode cX5_just 38 = .ok (.invokestatic 127, 3) := by decide +kernel
theorem dX5_just_41 : decode cX5_just 41 = .ok (.lreturn, 1) := by decide +kernel
theorem dX5_least_0 : decode cX5_least 0 = .ok (.iload_n 1, 1) := by decide +kernel
theorem dX5_least_1 : decode cX5_least 1 = .ok (.iconst 1, 1) := by decide +kernel
theorem dX5_least_2 : decode cX5_least 2 = .ok (.bipush 10, 2) := by decide +kernel
theorem dX5_least_4 : decode cX5_least 4 = .ok (.invokestatic 46, 3) := by decide +kernel
theorem dX5_least_7 : decode cX5_least 7 = .ok (.ifCond .ne 6, 3) := by decide +kernel
theorem dX5_least_10 : decode cX5_least 10 = .ok (.bipush (-2), 2) := by decide +kernel
theorem dX5_least_12 : decode cX5_least 12 = .ok (.ireturn, 1) := by decide +kernel
theorem dX5_least_13 : decode cX5_least 13 = .ok (.iload_n 2, 1) := by decide +kernel
theorem dX5_least_14 : decode cX5_least 14 = .ok (.iconst 1, 1) := by decide +kernel
theorem dX5_least_15 : decode cX5_least 15 = .ok (.sipush 1000, 3) := by decide +kernel
theorem dX5_least_18 : decode cX5_least 18 = .ok (.invokestatic 46, 3) := by decide +kernel
theorem dX5_least_21 : decode cX5_least 21 = .ok (.ifCond .eq 14, 3) := by decide +kernel
theorem dX5_least_24 : decode cX5_least 24 = .ok (.iload_n 3, 1) := by decide +kernel
theorem dX5_least_25 : decode cX5_least 25 = .ok (.iconst 1, 1) := by decide +kernel
theorem dX5_least_26 : decode cX5_least 26 = .ok (.sipush 1000, 3) := by decide +kernel
theorem dX5_least_29 : decode cX5_least 29 = .ok (.invokestatic 46, 3) := by decide +kernel
theorem dX5_least_32 : decode cX5_least 32 = .ok (.ifCond .ne 6, 3) := by decide +kernel
theorem dX5_least_35 : decode cX5_least 35 = .ok (.bipush (-2), 2) := by decide +kernel
theorem dX5_least_37 : decode cX5_least 37 = .ok (.ireturn, 1) := by decide +kernel
theorem dX5_least_38 : decode cX5_least 38 = .ok (.iload_n 2, 1) := by decide +kernel
theorem dX5_least_39 : decode cX5_least 39 = .ok (.i2l, 1) := by decide +kernel
theorem dX5_least_40 : decode cX5_least 40 = .ok (.iload_n 1, 1) := by decide +kernel
theorem dX5_least_41 : decode cX5_least 41 = .ok (.invokestatic 163, 3) := by decide +kernel
theorem dX5_least_44 : decode cX5_least 44 = .ok (.lmul, 1) := by decide +kernel
theorem dX5_least_45 : decode cX5_least 45 = .ok (.lstore 4, 2) := by decide +kernel
theorem dX5_least_47 : decode cX5_least 47 = .ok (.iconst 0, 1) := by decide +kernel
theorem dX5_least_48 : decode cX5_least 48 = .ok (.istore 6, 2) := by decide +kernel
theorem dX5_least_50 : decode cX5_least 50 = .ok (.iload 6, 2) := by decide +kernel
theorem dX5_least_52 : decode cX5_least 52 = .ok (.bipush 6, 2) := by decide +kernel
theorem dX5_least_54 : decode cX5_least 54 = .ok (.if_icmp .gt 31, 3) := by decide +kernel
theorem dX5_least_57 : decode cX5_least 57 = .ok (.aload_n 0, 1) := by decide +kernel
theorem dX5_least_58 : decode cX5_least 58 = .ok (.getfield 35, 3) := by decide +kernel
theorem dX5_least_61 : decode cX5_least 61 = .ok (.iload_n 1, 1) := by decide +kernel
theorem dX5_least_62 : decode cX5_least 62 = .ok (.iload 6, 2) := by decide +kernel
theorem dX5_least_64 : decode cX5_least 64 = .ok (.invokevirtual 159, 3) := by decide +kernel
theorem dX5_least_67 : decode cX5_least 67 = .ok (.iload_n 3, 1) := by decide +kernel
theorem dX5_least_68 : decode cX5_least 68 = .ok (.i2l, 1) := by decide +kernel
theorem dX5_least_69 : decode cX5_least 69 = .ok (.lmul, 1) := by decide +kernel
theorem dX5_least_70 : decode cX5_least 70 = .ok (.lload 4, 2) := by decide +kernel
theorem dX5_least_72 : decode cX5_least 72 = .ok (.lcmp, 1) := by decide +kernel
theorem dX5_least_73 : decode cX5_least 73 = .ok (.ifCond .lt 6, 3) := by decide +kernel
theorem dX5_least_76 : decode cX5_least 76 = .ok (.iload 6, 2) := by decide +kernel
theorem dX5_least_78 : decode cX5_least 78 = .ok (.ireturn, 1) := by decide +kernel
theorem dX5_least_79 : decode cX5_least 79 = .ok (.iinc 6 1, 3) := by decide +kernel
theorem dX5_least_82 : decode cX5_least 82 = .ok (.goto (-32), 3) := by decide +kernel
theorem dX5_least_85 : decode cX5_least 85 = .ok (.bipush (-9), 2) := by decide +kernel
theorem dX5_least_87 : decode cX5_least 87 = .ok (.ireturn, 1) := by decide +kernel
theorem dX5_demand_0 : decode cX5_demand 0 = .ok (.iload_n 1, 1) := by decide +kernel
theorem dX5_demand_1 : decode cX5_demand 1 = .ok (.iconst 0, 1) := by decide +kernel
theorem dX5_demand_2 : decode cX5_demand 2 = .ok (.iconst 5, 1) := by decide +kernel
theorem dX5_demand_3 : decode cX5_demand 3 = .ok (.invokestatic 46, 3) := by decide +kernel
theorem dX5_demand_6 : decode cX5_demand 6 = .ok (.ifCond .ne 5, 3) := by decide +kernel
theorem dX5_demand_9 : decode cX5_demand 9 = .ok (.iconst (-1), 1) := by decide +kernel
theorem dX5_demand_10 : decode cX5_demand 10 = .ok (.ireturn, 1) := by decide +kernel
theorem dX5_demand_11 : decode cX5_demand 11 = .ok (.iload_n 2, 1) := by decide +kernel
theorem dX5_demand_12 : decode cX5_demand 12 = .ok (.iconst 0, 1) := by decide +kernel
theorem dX5_demand_13 : decode cX5_demand 13 = .ok (.bipush 20, 2) := by decide +kernel
theorem dX5_demand_15 : decode cX5_demand 15 = .ok (.invokestatic 46, 3) := by decide +kernel
theorem dX5_demand_18 : decode cX5_demand 18 = .ok (.ifCond .ne 6, 3) := by decide +kernel
theorem dX5_demand_21 : decode cX5_demand 21 = .ok (.bipush (-2), 2) := by decide +kernel
theorem dX5_demand_23 : decode cX5_demand 23 = .ok (.ireturn, 1) := by decide +kernel
theorem dX5_demand_24 : decode cX5_demand 24 = .ok (.aload_n 0, 1) := by decide +kernel
theorem dX5_demand_25 : decode cX5_demand 25 = .ok (.getfield 42, 3) := by decide +kernel
theorem dX5_demand_28 : decode cX5_demand 28 = .ok (.getfield 170, 3) := by decide +kernel
theorem dX5_demand_31 : decode cX5_demand 31 = .ok (.iload_n 1, 1) := by decide +kernel
theorem dX5_demand_32 : decode cX5_demand 32 = .ok (.iaload, 1) := by decide +kernel
theorem dX5_demand_33 : decode cX5_demand 33 = .ok (.istore_n 3, 1) := by decide +kernel
theorem dX5_demand_34 : decode cX5_demand 34 = .ok (.aload_n 0, 1) := by decide +kernel
theorem dX5_demand_35 : decode cX5_demand 35 = .ok (.getfield 42, 3) := by decide +kernel
theorem dX5_demand_38 : decode cX5_demand 38 = .ok (.getfield 170, 3) := by decide +kernel
theorem dX5_demand_41 : decode cX5_demand 41 = .ok (.iload_n 1, 1) := by decide +kernel
theorem dX5_demand_42 : decode cX5_demand 42 = .ok (.iload_n 2, 1) := by decide +kernel
theorem dX5_demand_43 : decode cX5_demand 43 = .ok (.iastore, 1) := by decide +kernel
theorem dX5_demand_44 : decode cX5_demand 44 = .ok (.aload_n 0, 1) := by decide +kernel
theorem dX5_demand_45 : decode cX5_demand 45 = .ok (.getfield 42, 3) := by decide +kernel
theorem dX5_demand_48 : decode cX5_demand 48 = .ok (.invokevirtual 173, 3) := by decide +kernel
theorem dX5_demand_51 : decode cX5_demand 51 = .ok (.iload_n 3, 1) := by decide +kernel
theorem dX5_demand_52 : decode cX5_demand 52 = .ok (.ireturn, 1) := by decide +kernel
theorem dX5_at_0 : decode cX5_at 0 = .ok (.iload_n 1, 1) := by decide +kernel
theorem dX5_at_1 : decode cX5_at 1 = .ok (.iconst 0, 1) := by decide +kernel
theorem dX5_at_2 : decode cX5_at 2 = .ok (.aload_n 0, 1) := by decide +kernel
theorem dX5_at_3 : decode cX5_at 3 = .ok (.getfield 42, 3) := by decide +kernel
theorem dX5_at_6 : decode cX5_at 6 = .ok (.getfield 176, 3) := by decide +kernel
theorem dX5_at_9 : decode cX5_at 9 = .ok (.iconst 1, 1) := by decide +kernel
theorem dX5_at_10 : decode cX5_at 10 = .ok (.isub, 1) := by decide +kernel
theorem dX5_at_11 : decode cX5_at 11 = .ok (.invokestatic 46, 3) := by decide +kernel
theorem dX5_at_14 : decode cX5_at 14 = .ok (.ifCond .eq 15, 3) := by decide +kernel
theorem dX5_at_17 : decode cX5_at 17 = .ok (.aload_n 0, 1) := by decide +kernel
theorem dX5_at_18 : decode cX5_at 18 = .ok (.getfield 42, 3) := by decide +kernel
theorem dX5_at_21 : decode cX5_at 21 = .ok (.getfield 179, 3) := by decide +kernel
theorem dX5_at_24 : decode cX5_at 24 = .ok (.iload_n 1, 1) := by decide +kernel
theorem dX5_at_25 : decode cX5_at 25 = .ok (.iaload, 1) := by decide +kernel
theorem dX5_at_26 : decode cX5_at 26 = .ok (.goto 5, 3) := by decide +kernel
theorem dX5_at_29 : decode cX5_at 29 = .ok (.bipush (-9), 2) := by decide +kernel
theorem dX5_at_31 : decode cX5_at 31 = .ok (.ireturn, 1) := by decide +kernel
theorem dX5_rough_0 : decode cX5_rough 0 = .ok (.aload_n 0, 1) := by decide +kernel
theorem dX5_rough_1 : decode cX5_rough 1 = .ok (.getfield 42, 3) := by decide +kernel
theorem dX5_rough_4 : decode cX5_rough 4 = .ok (.getfield 182, 3) := by decide +kernel
theorem dX5_rough_7 : decode cX5_rough 7 = .ok (.ireturn, 1) := by decide +kernel
theorem dX5_changes_0 : decode cX5_changes 0 = .ok (.aload_n 0, 1) := by decide +kernel
theorem dX5_changes_1 : decode cX5_changes 1 = .ok (.getfield 42, 3) := by decide +kernel
theorem dX5_changes_4 : decode cX5_changes 4 = .ok (.getfield 185, 3) := by decide +kernel
theorem dX5_changes_7 : decode cX5_changes 7 = .ok (.ireturn, 1) := by decide +kernel
theorem dX5_total_0 : decode cX5_total 0 = .ok (.iload_n 1, 1) := by decide +kernel
theorem dX5_total_1 : decode cX5_total 1 = .ok (.tableswitch 87 0 5 #[39, 47, 55, 63, 71, 79], 39) := by decide +kernel
theorem dX5_total_40 : decode cX5_total 40 = .ok (.aload_n 0, 1) := by decide +kernel
theorem dX5_total_41 : decode cX5_total 41 = .ok (.getfield 10, 3) := by decide +kernel
theorem dX5_total_44 : decode cX5_total 44 = .ok (.getfield 50, 3) := by decide +kernel
theorem dX5_total_47 : decode cX5_total 47 = .ok (.ireturn, 1) := by decide +kernel
theorem dX5_total_48 : decode cX5_total 48 = .ok (.aload_n 0, 1) := by decide +kernel
theorem dX5_total_49 : decode cX5_total 49 = .ok (.getfield 10, 3) := by decide +kernel
theorem dX5_total_52 : decode cX5_total 52 = .ok (.getfield 65, 3) := by decide +kernel
theorem dX5_total_55 : decode cX5_total 55 = .ok (.ireturn, 1) := by decide +kernel
theorem dX5_total_56 : decode cX5_total 56 = .ok (.aload_n 0, 1) := by decide +kernel
theorem dX5_total_57 : decode cX5_total 57 = .ok (.getfield 10, 3) := by decide +kernel
theorem dX5_total_60 : decode cX5_total 60 = .ok (.invokevirtual 188, 3) := by decide +kernel
theorem dX5_total_63 : decode cX5_total 63 = .ok (.ireturn, 1) := by decide +kernel
theorem dX5_total_64 : decode cX5_total 64 = .ok (.aload_n 0, 1) := by decide +kernel
theorem dX5_total_65 : decode cX5_total 65 = .ok (.getfield 35, 3) := by decide +kernel
theorem dX5_total_68 : decode cX5_total 68 = .ok (.getfield 154, 3) := by decide +kernel
theorem dX5_total_71 : decode cX5_total 71 = .ok (.ireturn, 1) := by decide +kernel
theorem dX5_total_72 : decode cX5_total 72 = .ok (.aload_n 0, 1) := by decide +kernel
theorem dX5_total_73 : decode cX5_total 73 = .ok (.getfield 42, 3) := by decide +kernel
theorem dX5_total_76 : decode cX5_total 76 = .ok (.getfield 176, 3) := by decide +kernel
theorem dX5_total_79 : decode cX5_total 79 = .ok (.ireturn, 1) := by decide +kernel
theorem dX5_total_80 : decode cX5_total 80 = .ok (.aload_n 0, 1) := by decide +kernel
theorem dX5_total_81 : decode cX5_total 81 = .ok (.getfield 10, 3) := by decide +kernel
theorem dX5_total_84 : decode cX5_total 84 = .ok (.invokevirtual 101, 3) := by decide +kernel
theorem dX5_total_87 : decode cX5_total 87 = .ok (.ireturn, 1) := by decide +kernel
theorem dX5_total_88 : decode cX5_total 88 = .ok (.bipush (-2), 2) := by decide +kernel
theorem dX5_total_90 : decode cX5_total 90 = .ok (.ireturn, 1) := by decide +kernel
theorem dX5_within_0 : decode cX5_within 0 = .ok (.iload_n 0, 1) := by decide +kernel
theorem dX5_within_1 : decode cX5_within 1 = .ok (.iload_n 1, 1) := by decide +kernel
theorem dX5_within_2 : decode cX5_within 2 = .ok (.if_icmp .lt 12, 3) := by decide +kernel
theorem dX5_within_5 : decode cX5_within 5 = .ok (.iload_n 0, 1) := by decide +kernel
theorem dX5_within_6 : decode cX5_within 6 = .ok (.iload_n 2, 1) := by decide +kernel
theorem dX5_within_7 : decode cX5_within 7 = .ok (.if_icmp .gt 7, 3) := by decide +kernel
theorem dX5_within_10 : decode cX5_within 10 = .ok (.iconst 1, 1) := by decide +kernel
theorem dX5_within_11 : decode cX5_within 11 = .ok (.goto 4, 3) := by decide +kernel
theorem dX5_within_14 : decode cX5_within 14 = .ok (.iconst 0, 1) := by decide +kernel
theorem dX5_within_15 : decode cX5_within 15 = .ok (.ireturn, 1) := by decide +kernel
theorem dX5_inLeastTerms_0 : decode cX5_inLeastTerms 0 = .ok (.lload_n 0, 1) := by decide +kernel
theorem dX5_inLeastTerms_1 : decode cX5_inLeastTerms 1 = .ok (.lload_n 2, 1) := by decide +kernel
theorem dX5_inLeastTerms_2 : decode cX5_inLeastTerms 2 = .ok (.invokestatic 191, 3) := by decide +kernel
theorem dX5_inLeastTerms_5 : decode cX5_inLeastTerms 5 = .ok (.lstore 5, 2) := by decide +kernel
theorem dX5_inLeastTerms_7 : decode cX5_inLeastTerms 7 = .ok (.iload 4, 2) := by decide +kernel
theorem dX5_inLeastTerms_9 : decode cX5_inLeastTerms 9 = .ok (.ifCond .eq 10, 3) := by decide +kernel
theorem dX5_inLeastTerms_12 : decode cX5_inLeastTerms 12 = .ok (.lload_n 0, 1) := by decide +kernel
theorem dX5_inLeastTerms_13 : decode cX5_inLeastTerms 13 = .ok (.lload 5, 2) := by decide +kernel
theorem dX5_inLeastTerms_15 : decode cX5_inLeastTerms 15 = .ok (.ldiv, 1) := by decide +kernel
theorem dX5_inLeastTerms_16 : decode cX5_inLeastTerms 16 = .ok (.goto 7, 3) := by decide +kernel
theorem dX5_inLeastTerms_19 : decode cX5_inLeastTerms 19 = .ok (.lload_n 2, 1) := by decide +kernel
theorem dX5_inLeastTerms_20 : decode cX5_inLeastTerms 20 = .ok (.lload 5, 2) := by decide +kernel
theorem dX5_inLeastTerms_22 : decode cX5_inLeastTerms 22 = .ok (.ldiv, 1) := by decide +kernel
theorem dX5_inLeastTerms_23 : decode cX5_inLeastTerms 23 = .ok (.lreturn, 1) := by decide +kernel
theorem dX5_commonDivisor_0 : decode cX5_commonDivisor 0 = .ok (.lload_n 0, 1) := by decide +kernel
theorem dX5_commonDivisor_1 : decode cX5_commonDivisor 1 = .ok (.lstore 4, 2) := by decide +kernel
theorem dX5_commonDivisor_3 : decode cX5_commonDivisor 3 = .ok (.lload_n 2, 1) := by decide +kernel
theorem dX5_commonDivisor_4 : decode cX5_commonDivisor 4 = .ok (.lstore 6, 2) := by decide +kernel
theorem dX5_commonDivisor_6 : decode cX5_commonDivisor 6 = .ok (.iconst 0, 1) := by decide +kernel
theorem dX5_commonDivisor_7 : decode cX5_commonDivisor 7 = .ok (.istore 8, 2) := by decide +kernel
theorem dX5_commonDivisor_9 : decode cX5_commonDivisor 9 = .ok (.iload 8, 2) := by decide +kernel
theorem dX5_commonDivisor_11 : decode cX5_commonDivisor 11 = .ok (.bipush 100, 2) := by decide +kernel
theorem dX5_commonDivisor_13 : decode cX5_commonDivisor 13 = .ok (.if_icmp .ge 31, 3) := by decide +kernel
theorem dX5_commonDivisor_16 : decode cX5_commonDivisor 16 = .ok (.lload 6, 2) := by decide +kernel
theorem dX5_commonDivisor_18 : decode cX5_commonDivisor 18 = .ok (.lconst 0, 1) := by decide +kernel
theorem dX5_commonDivisor_19 : decode cX5_commonDivisor 19 = .ok (.lcmp, 1) := by decide +kernel
theorem dX5_commonDivisor_20 : decode cX5_commonDivisor 20 = .ok (.ifCond .le 24, 3) := by decide +kernel
theorem dX5_commonDivisor_23 : decode cX5_commonDivisor 23 = .ok (.lload 4, 2) := by decide +kernel
theorem dX5_commonDivisor_25 : decode cX5_commonDivisor 25 = .ok (.lload 6, 2) := by decide +kernel
theorem dX5_commonDivisor_27 : decode cX5_commonDivisor 27 = .ok (.lrem, 1) := by decide +kernel
theorem dX5_commonDivisor_28 : decode cX5_commonDivisor 28 = .ok (.lstore 9, 2) := by decide +kernel
theorem dX5_commonDivisor_30 : decode cX5_commonDivisor 30 = .ok (.lload 6, 2) := by decide +kernel
theorem dX5_commonDivisor_32 : decode cX5_commonDivisor 32 = .ok (.lstore 4, 2) := by decide +kernel
theorem dX5_commonDivisor_34 : decode cX5_commonDivisor 34 = .ok (.lload 9, 2) := by decide +kernel
theorem dX5_commonDivisor_36 : decode cX5_commonDivisor 36 = .ok (.lstore 6, 2) := by decide +kernel
theorem dX5_commonDivisor_38 : decode cX5_commonDivisor 38 = .ok (.iinc 8 1, 3) := by decide +kernel
theorem dX5_commonDivisor_41 : decode cX5_commonDivisor 41 = .ok (.goto (-32), 3) := by decide +kernel
theorem dX5_commonDivisor_44 : decode cX5_commonDivisor 44 = .ok (.lconst 1, 1) := by decide +kernel
theorem dX5_commonDivisor_45 : decode cX5_commonDivisor 45 = .ok (.lload 4, 2) := by decide +kernel
theorem dX5_commonDivisor_47 : decode cX5_commonDivisor 47 = .ok (.invokestatic 195, 3) := by decide +kernel
theorem dX5_commonDivisor_50 : decode cX5_commonDivisor 50 = .ok (.lreturn, 1) := by decide +kernel
theorem dJ9_abs_0f7a4_0 : decode cJ9_abs_0f7a4 0 = .ok (.iload_n 0, 1) := by decide +kernel
theorem dJ9_abs_0f7a4_1 : decode cJ9_abs_0f7a4 1 = .ok (.ifCond .ge 8, 3) := by decide +kernel
theorem dJ9_abs_0f7a4_4 : decode cJ9_abs_0f7a4 4 = .ok (.iload_n 0, 1) := by decide +kernel
theorem dJ9_abs_0f7a4_5 : decode cJ9_abs_0f7a4 5 = .ok (.ineg, 1) := by decide +kernel
theorem dJ9_abs_0f7a4_6 : decode cJ9_abs_0f7a4 6 = .ok (.goto 4, 3) := by decide +kernel
theorem dJ9_abs_0f7a4_9 : decode cJ9_abs_0f7a4 9 = .ok (.iload_n 0, 1) := by decide +kernel
theorem dJ9_abs_0f7a4_10 : decode cJ9_abs_0f7a4 10 = .ok (.ireturn, 1) := by decide +kernel
theorem dJ9_max_7cf53_0 : decode cJ9_max_7cf53 0 = .ok (.iload_n 0, 1) := by decide +kernel
theorem dJ9_max_7cf53_1 : decode cJ9_max_7cf53 1 = .ok (.iload_n 1, 1) := by decide +kernel
theorem dJ9_max_7cf53_2 : decode cJ9_max_7cf53 2 = .ok (.if_icmp .lt 7, 3) := by decide +kernel
theorem dJ9_max_7cf53_5 : decode cJ9_max_7cf53 5 = .ok (.iload_n 0, 1) := by decide +kernel
theorem dJ9_max_7cf53_6 : decode cJ9_max_7cf53 6 = .ok (.goto 4, 3) := by decide +kernel
theorem dJ9_max_7cf53_9 : decode cJ9_max_7cf53 9 = .ok (.iload_n 1, 1) := by decide +kernel
theorem dJ9_max_7cf53_10 : decode cJ9_max_7cf53 10 = .ok (.ireturn, 1) := by decide +kernel
theorem dJ9_max_f86c9_0 : decode cJ9_max_f86c9 0 = .ok (.lload_n 0, 1) := by decide +kernel
theorem dJ9_max_f86c9_1 : decode cJ9_max_f86c9 1 = .ok (.lload_n 2, 1) := by decide +kernel
theorem dJ9_max_f86c9_2 : decode cJ9_max_f86c9 2 = .ok (.lcmp, 1) := by decide +kernel
theorem dJ9_max_f86c9_3 : decode cJ9_max_f86c9 3 = .ok (.ifCond .lt 7, 3) := by decide +kernel
theorem dJ9_max_f86c9_6 : decode cJ9_max_f86c9 6 = .ok (.lload_n 0, 1) := by decide +kernel
theorem dJ9_max_f86c9_7 : decode cJ9_max_f86c9 7 = .ok (.goto 4, 3) := by decide +kernel
theorem dJ9_max_f86c9_10 : decode cJ9_max_f86c9 10 = .ok (.lload_n 2, 1) := by decide +kernel
theorem dJ9_max_f86c9_11 : decode cJ9_max_f86c9 11 = .ok (.lreturn, 1) := by decide +kernel
theorem dJ9_min_7cf53_0 : decode cJ9_min_7cf53 0 = .ok (.iload_n 0, 1) := by decide +kernel
theorem dJ9_min_7cf53_1 : decode cJ9_min_7cf53 1 = .ok (.iload_n 1, 1) := by decide +kernel
theorem dJ9_min_7cf53_2 : decode cJ9_min_7cf53 2 = .ok (.if_icmp .gt 7, 3) := by decide +kernel
theorem dJ9_min_7cf53_5 : decode cJ9_min_7cf53 5 = .ok (.iload_n 0, 1) := by decide +kernel
theorem dJ9_min_7cf53_6 : decode cJ9_min_7cf53 6 = .ok (.goto 4, 3) := by decide +kernel
theorem dJ9_min_7cf53_9 : decode cJ9_min_7cf53 9 = .ok (.iload_n 1, 1) := by decide +kernel
theorem dJ9_min_7cf53_10 : decode cJ9_min_7cf53 10 = .ok (.ireturn, 1) := by decide +kernel
theorem dJ7_fill_d0a16_0 : decode cJ7_fill_d0a16 0 = .ok (.iconst 0, 1) := by decide +kernel
theorem dJ7_fill_d0a16_1 : decode cJ7_fill_d0a16 1 = .ok (.istore_n 3, 1) := by decide +kernel
theorem dJ7_fill_d0a16_2 : decode cJ7_fill_d0a16 2 = .ok (.aload_n 0, 1) := by decide +kernel
theorem dJ7_fill_d0a16_3 : decode cJ7_fill_d0a16 3 = .ok (.arraylength, 1) := by decide +kernel
theorem dJ7_fill_d0a16_4 : decode cJ7_fill_d0a16 4 = .ok (.istore 4, 2) := by decide +kernel
theorem dJ7_fill_d0a16_6 : decode cJ7_fill_d0a16 6 = .ok (.iload_n 3, 1) := by decide +kernel
theorem dJ7_fill_d0a16_7 : decode cJ7_fill_d0a16 7 = .ok (.iload 4, 2) := by decide +kernel
theorem dJ7_fill_d0a16_9 : decode cJ7_fill_d0a16 9 = .ok (.if_icmp .ge 13, 3) := by decide +kernel
theorem dJ7_fill_d0a16_12 : decode cJ7_fill_d0a16 12 = .ok (.aload_n 0, 1) := by decide +kernel
theorem dJ7_fill_d0a16_13 : decode cJ7_fill_d0a16 13 = .ok (.iload_n 3, 1) := by decide +kernel
theorem dJ7_fill_d0a16_14 : decode cJ7_fill_d0a16 14 = .ok (.lload_n 1, 1) := by decide +kernel
theorem dJ7_fill_d0a16_15 : decode cJ7_fill_d0a16 15 = .ok (.lastore, 1) := by decide +kernel
theorem dJ7_fill_d0a16_16 : decode cJ7_fill_d0a16 16 = .ok (.iinc 3 1, 3) := by decide +kernel
theorem dJ7_fill_d0a16_19 : decode cJ7_fill_d0a16 19 = .ok (.goto (-13), 3) := by decide +kernel
theorem dJ7_fill_d0a16_22 : decode cJ7_fill_d0a16 22 = .ok (.return_, 1) := by decide +kernel
