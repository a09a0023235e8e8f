theorem dX6_init_0 : decode cX6_init 0 = .ok (.aload_n 0, 1) := by decide +kernel
theorem dX6_init_1 : decode cX6_init 1 = .ok (.invokespecial 1, 3) := by decide +kernel
theorem dX6_init_4 : decode cX6_init 4 = .ok (.aload_n 0, 1) := by decide +kernel
theorem dX6_init_5 : decode cX6_init 5 = .ok (.bipush 8, 2) := by decide +kernel
theorem dX6_init_7 : decode cX6_init 7 = .ok (.newarray .int, 2) := by decide +kernel
theorem dX6_init_9 : decode cX6_init 9 = .ok (.putfield 7, 3) := by decide +kernel
theorem dX6_init_12 : decode cX6_init 12 = .ok (.aload_n 0, 1) := by decide +kernel
theorem dX6_init_13 : decode cX6_init 13 = .ok (.bipush 16, 2) := by decide +kernel
theorem dX6_init_15 : decode cX6_init 15 = .ok (.newarray .int, 2) := by decide +kernel
theorem dX6_init_17 : decode cX6_init 17 = .ok (.putfield 13, 3) := by decide +kernel
theorem dX6_init_20 : decode cX6_init 20 = .ok (.aload_n 0, 1) := by decide +kernel
theorem dX6_init_21 : decode cX6_init 21 = .ok (.bipush 16, 2) := by decide +kernel
theorem dX6_init_23 : decode cX6_init 23 = .ok (.newarray .int, 2) := by decide +kernel
theorem dX6_init_25 : decode cX6_init 25 = .ok (.putfield 16, 3) := by decide +kernel
theorem dX6_init_28 : decode cX6_init 28 = .ok (.aload_n 0, 1) := by decide +kernel
theorem dX6_init_29 : decode cX6_init 29 = .ok (.bipush 16, 2) := by decide +kernel
theorem dX6_init_31 : decode cX6_init 31 = .ok (.newarray .int, 2) := by decide +kernel
theorem dX6_init_33 : decode cX6_init 33 = .ok (.putfield 19, 3) := by decide +kernel
theorem dX6_init_36 : decode cX6_init 36 = .ok (.aload_n 0, 1) := by decide +kernel
theorem dX6_init_37 : decode cX6_init 37 = .ok (.sipush 16000, 3) := by decide +kernel
theorem dX6_init_40 : decode cX6_init 40 = .ok (.newarray .int, 2) := by decide +kernel
theorem dX6_init_42 : decode cX6_init 42 = .ok (.putfield 22, 3) := by decide +kernel
theorem dX6_init_45 : decode cX6_init 45 = .ok (.aload_n 0, 1) := by decide +kernel
theorem dX6_init_46 : decode cX6_init 46 = .ok (.sipush 2000, 3) := by decide +kernel
theorem dX6_init_49 : decode cX6_init 49 = .ok (.newarray .int, 2) := by decide +kernel
theorem dX6_init_51 : decode cX6_init 51 = .ok (.putfield 25, 3) := by decide +kernel
theorem dX6_init_54 : decode cX6_init 54 = .ok (.aload_n 0, 1) := by decide +kernel
theorem dX6_init_55 : decode cX6_init 55 = .ok (.bipush 9, 2) := by decide +kernel
theorem dX6_init_57 : decode cX6_init 57 = .ok (.newarray .int, 2) := by decide +kernel
theorem dX6_init_59 : decode cX6_init 59 = .ok (.putfield 28, 3) := by decide +kernel
theorem dX6_init_62 : decode cX6_init 62 = .ok (.aload_n 0, 1) := by decide +kernel
theorem dX6_init_63 : decode cX6_init 63 = .ok (.sipush 488, 3) := by decide +kernel
theorem dX6_init_66 : decode cX6_init 66 = .ok (.newarray .int, 2) := by decide +kernel
theorem dX6_init_68 : decode cX6_init 68 = .ok (.putfield 31, 3) := by decide +kernel
theorem dX6_init_71 : decode cX6_init 71 = .ok (.aload_n 0, 1) := by decide +kernel
theorem dX6_init_72 : decode cX6_init 72 = .ok (.sipush 2000, 3) := by decide +kernel
theorem dX6_init_75 : decode cX6_init 75 = .ok (.newarray .int, 2) := by decide +kernel
theorem dX6_init_77 : decode cX6_init 77 = .ok (.putfield 34, 3) := by decide +kernel
theorem dX6_init_80 : decode cX6_init 80 = .ok (.aload_n 0, 1) := by decide +kernel
theorem dX6_init_81 : decode cX6_init 81 = .ok (.iconst 2, 1) := by decide +kernel
theorem dX6_init_82 : decode cX6_init 82 = .ok (.newarray .int, 2) := by decide +kernel
theorem dX6_init_84 : decode cX6_init 84 = .ok (.putfield 37, 3) := by decide +kernel
theorem dX6_init_87 : decode cX6_init 87 = .ok (.aload_n 0, 1) := by decide +kernel
theorem dX6_init_88 : decode cX6_init 88 = .ok (.iconst 2, 1) := by decide +kernel
theorem dX6_init_89 : decode cX6_init 89 = .ok (.newarray .int, 2) := by decide +kernel
theorem dX6_init_91 : decode cX6_init 91 = .ok (.putfield 40, 3) := by decide +kernel
theorem dX6_init_94 : decode cX6_init 94 = .ok (.aload_n 0, 1) := by decide +kernel
theorem dX6_init_95 : decode cX6_init 95 = .ok (.sipush 308, 3) := by decide +kernel
theorem dX6_init_98 : decode cX6_init 98 = .ok (.newarray .long, 2) := by decide +kernel
theorem dX6_init_100 : decode cX6_init 100 = .ok (.putfield 43, 3) := by decide +kernel
theorem dX6_init_103 : decode cX6_init 103 = .ok (.aload_n 0, 1) := by decide +kernel
theorem dX6_init_104 : decode cX6_init 104 = .ok (.sipush 308, 3) := by decide +kernel
theorem dX6_init_107 : decode cX6_init 107 = .ok (.newarray .long, 2) := by decide +kernel
theorem dX6_init_109 : decode cX6_init 109 = .ok (.putfield 47, 3) := by decide +kernel
theorem dX6_init_112 : decode cX6_init 112 = .ok (.aload_n 0, 1) := by decide +kernel
theorem dX6_init_113 : decode cX6_init 113 = .ok (.bipush 6, 2) := by decide +kernel
theorem dX6_init_115 : decode cX6_init 115 = .ok (.newarray .int, 2) := by decide +kernel
theorem dX6_init_117 : decode cX6_init 117 = .ok (.putfield 50, 3) := by decide +kernel
theorem dX6_init_120 : decode cX6_init 120 = .ok (.aload_n 0, 1) := by decide +kernel
theorem dX6_init_121 : decode cX6_init 121 = .ok (.bipush 6, 2) := by decide +kernel
theorem dX6_init_123 : decode cX6_init 123 = .ok (.newarray .int, 2) := by decide +kernel
theorem dX6_init_125 : decode cX6_init 125 = .ok (.putfield 53, 3) := by decide +kernel
theorem dX6_init_128 : decode cX6_init 128 = .ok (.aload_n 0, 1) := by decide +kernel
theorem dX6_init_129 : decode cX6_init 129 = .ok (.bipush 120, 2) := by decide +kernel
theorem dX6_init_131 : decode cX6_init 131 = .ok (.newarray .int, 2) := by decide +kernel
theorem dX6_init_133 : decode cX6_init 133 = .ok (.putfield 56, 3) := by decide +kernel
theorem dX6_init_136 : decode cX6_init 136 = .ok (.return_, 1) := by decide +kernel
theorem dX6_in_0 : decode cX6_in 0 = .ok (.lload_n 0, 1) := by decide +kernel
theorem dX6_in_1 : decode cX6_in 1 = .ok (.lload_n 2, 1) := by decide +kernel
theorem dX6_in_2 : decode cX6_in 2 = .ok (.lcmp, 1) := by decide +kernel
theorem dX6_in_3 : decode cX6_in 3 = .ok (.ifCond .lt 14, 3) := by decide +kernel
theorem dX6_in_6 : decode cX6_in 6 = .ok (.lload_n 0, 1) := by decide +kernel
theorem dX6_in_7 : decode cX6_in 7 = .ok (.lload 4, 2) := by decide +kernel
theorem dX6_in_9 : decode cX6_in 9 = .ok (.lcmp, 1) := by decide +kernel
theorem dX6_in_10 : decode cX6_in 10 = .ok (.ifCond .gt 7, 3) := by decide +kernel
theorem dX6_in_13 : decode cX6_in 13 = .ok (.iconst 1, 1) := by decide +kernel
theorem dX6_in_14 : decode cX6_in 14 = .ok (.goto 4, 3) := by decide +kernel
theorem dX6_in_17 : decode cX6_in 17 = .ok (.iconst 0, 1) := by decide +kernel
theorem dX6_in_18 : decode cX6_in 18 = .ok (.ireturn, 1) := by decide +kernel
theorem dX6_isStation_0 : decode cX6_isStation 0 = .ok (.iload_n 1, 1) := by decide +kernel
theorem dX6_isStation_1 : decode cX6_isStation 1 = .ok (.i2l, 1) := by decide +kernel
theorem dX6_isStation_2 : decode cX6_isStation 2 = .ok (.lconst 0, 1) := by decide +kernel
theorem dX6_isStation_3 : decode cX6_isStation 3 = .ok (.aload_n 0, 1) := by decide +kernel
theorem dX6_isStation_4 : decode cX6_isStation 4 = .ok (.getfield 59, 3) := by decide +kernel
theorem dX6_isStation_7 : decode cX6_isStation 7 = .ok (.iconst 1, 1) := by decide +kernel
theorem dX6_isStation_8 : decode cX6_isStation 8 = .ok (.isub, 1) := by decide +kernel
theorem dX6_isStation_9 : decode cX6_isStation 9 = .ok (.i2l, 1) := by decide +kernel
theorem dX6_isStation_10 : decode cX6_isStation 10 = .ok (.invokestatic 63, 3) := by decide +kernel
theorem dX6_isStation_13 : decode cX6_isStation 13 = .ok (.ireturn, 1) := by decide +kernel
theorem dX6_isArc_0 : decode cX6_isArc 0 = .ok (.iload_n 1, 1) := by decide +kernel
theorem dX6_isArc_1 : decode cX6_isArc 1 = .ok (.i2l, 1) := by decide +kernel
theorem dX6_isArc_2 : decode cX6_isArc 2 = .ok (.lconst 0, 1) := by decide +kernel
theorem dX6_isArc_3 : decode cX6_isArc 3 = .ok (.aload_n 0, 1) := by decide +kernel
theorem dX6_isArc_4 : decode cX6_isArc 4 = .ok (.getfield 67, 3) := by decide +kernel
theorem dX6_isArc_7 : decode cX6_isArc 7 = .ok (.iconst 1, 1) := by decide +kernel
theorem dX6_isArc_8 : decode cX6_isArc 8 = .ok (.isub, 1) := by decide +kernel
theorem dX6_isArc_9 : decode cX6_isArc 9 = .ok (.i2l, 1) := by decide +kernel
theorem dX6_isArc_10 : decode cX6_isArc 10 = .ok (.invokestatic 63, 3) := by decide +kernel
theorem dX6_isArc_13 : decode cX6_isArc 13 = .ok (.ireturn, 1) := by decide +kernel
theorem dX6_station_0 : decode cX6_station 0 = .ok (.iload_n 1, 1) := by decide +kernel
theorem dX6_station_1 : decode cX6_station 1 = .ok (.i2l, 1) := by decide +kernel
theorem dX6_station_2 : decode cX6_station 2 = .ok (.lconst 1, 1) := by decide +kernel
theorem dX6_station_3 : decode cX6_station 3 = .ok (.ldc2_w 70, 3) := by decide +kernel
theorem dX6_station_6 : decode cX6_station 6 = .ok (.invokestatic 63, 3) := by decide +kernel
theorem dX6_station_9 : decode cX6_station 9 = .ok (.ifCond .ne 6, 3) := by decide +kernel
theorem dX6_station_12 : decode cX6_station 12 = .ok (.bipush (-2), 2) := by decide +kernel
theorem dX6_station_14 : decode cX6_station 14 = .ok (.ireturn, 1) := by decide +kernel
theorem dX6_station_15 : decode cX6_station 15 = .ok (.aload_n 0, 1) := by decide +kernel
theorem dX6_station_16 : decode cX6_station 16 = .ok (.getfield 59, 3) := by decide +kernel
theorem dX6_station_19 : decode cX6_station 19 = .ok (.bipush 8, 2) := by decide +kernel
theorem dX6_station_21 : decode cX6_station 21 = .ok (.if_icmp .ne 6, 3) := by decide +kernel
theorem dX6_station_24 : decode cX6_station 24 = .ok (.bipush (-4), 2) := by decide +kernel
theorem dX6_station_26 : decode cX6_station 26 = .ok (.ireturn, 1) := by decide +kernel
theorem dX6_station_27 : decode cX6_station 27 = .ok (.aload_n 0, 1) := by decide +kernel
theorem dX6_station_28 : decode cX6_station 28 = .ok (.getfield 7, 3) := by decide +kernel
theorem dX6_station_31 : decode cX6_station 31 = .ok (.aload_n 0, 1) := by decide +kernel
theorem dX6_station_32 : decode cX6_station 32 = .ok (.getfield 59, 3) := by decide +kernel
theorem dX6_station_35 : decode cX6_station 35 = .ok (.iload_n 1, 1) := by decide +kernel
theorem dX6_station_36 : decode cX6_station 36 = .ok (.iastore, 1) := by decide +kernel
theorem dX6_station_37 : decode cX6_station 37 = .ok (.aload_n 0, 1) := by decide +kernel
theorem dX6_station_38 : decode cX6_station 38 = .ok (.dup, 1) := by decide +kernel
theorem dX6_station_39 : decode cX6_station 39 = .ok (.getfield 59, 3) := by decide +kernel
theorem dX6_station_42 : decode cX6_station 42 = .ok (.iconst 1, 1) := by decide +kernel
theorem dX6_station_43 : decode cX6_station 43 = .ok (.iadd, 1) := by decide +kernel
theorem dX6_station_44 : decode cX6_station 44 = .ok (.putfield 59, 3) := by decide +kernel
theorem dX6_station_47 : decode cX6_station 47 = .ok (.aload_n 0, 1) := by decide +kernel
theorem dX6_station_48 : decode cX6_station 48 = .ok (.iconst 0, 1) := by decide +kernel
theorem dX6_station_49 : decode cX6_station 49 = .ok (.putfield 72, 3) := by decide +kernel
theorem dX6_station_52 : decode cX6_station 52 = .ok (.aload_n 0, 1) := by decide +kernel
theorem dX6_station_53 : decode cX6_station 53 = .ok (.getfield 59, 3) := by decide +kernel
theorem dX6_station_56 : decode cX6_station 56 = .ok (.iconst 1, 1) := by decide +kernel
theorem dX6_station_57 : decode cX6_station 57 = .ok (.isub, 1) := by decide +kernel
theorem dX6_station_58 : decode cX6_station 58 = .ok (.ireturn, 1) := by decide +kernel
theorem dX6_arc_0 : decode cX6_arc 0 = .ok (.aload_n 0, 1) := by decide +kernel
theorem dX6_arc_1 : decode cX6_arc 1 = .ok (.iload_n 1, 1) := by decide +kernel
theorem dX6_arc_2 : decode cX6_arc 2 = .ok (.invokevirtual 76, 3) := by decide +kernel
theorem dX6_arc_5 : decode cX6_arc 5 = .ok (.ifCond .eq 11, 3) := by decide +kernel
theorem dX6_arc_8 : decode cX6_arc 8 = .ok (.aload_n 0, 1) := by decide +kernel
theorem dX6_arc_9 : decode cX6_arc 9 = .ok (.iload_n 2, 1) := by decide +kernel
theorem dX6_arc_10 : decode cX6_arc 10 = .ok (.invokevirtual 76, 3) := by decide +kernel
theorem dX6_arc_13 : decode cX6_arc 13 = .ok (.ifCond .ne 5, 3) := by decide +kernel
theorem dX6_arc_16 : decode cX6_arc 16 = .ok (.iconst (-1), 1) := by decide +kernel
theorem dX6_arc_17 : decode cX6_arc 17 = .ok (.ireturn, 1) := by decide +kernel
theorem dX6_arc_18 : decode cX6_arc 18 = .ok (.iload_n 3, 1) := by decide +kernel
theorem dX6_arc_19 : decode cX6_arc 19 = .ok (.i2l, 1) := by decide +kernel
theorem dX6_arc_20 : decode cX6_arc 20 = .ok (.lconst 0, 1) := by decide +kernel
theorem dX6_arc_21 : decode cX6_arc 21 = .ok (.ldc2_w 80, 3) := by decide +kernel
theorem dX6_arc_24 : decode cX6_arc 24 = .ok (.invokestatic 63, 3) := by decide +kernel
theorem dX6_arc_27 : decode cX6_arc 27 = .ok (.ifCond .ne 6, 3) := by decide +kernel
theorem dX6_arc_30 : decode cX6_arc 30 = .ok (.bipush (-2), 2) := by decide +kernel
theorem dX6_arc_32 : decode cX6_arc 32 = .ok (.ireturn, 1) := by decide +kernel
theorem dX6_arc_33 : decode cX6_arc 33 = .ok (.aload_n 0, 1) := by decide +kernel
theorem dX6_arc_34 : decode cX6_arc 34 = .ok (.getfield 67, 3) := by decide +kernel
theorem dX6_arc_37 : decode cX6_arc 37 = .ok (.bipush 16, 2) := by decide +kernel
theorem dX6_arc_39 : decode cX6_arc 39 = .ok (.if_icmp .ne 6, 3) := by decide +kernel
theorem dX6_arc_42 : decode cX6_arc 42 = .ok (.bipush (-4), 2) := by decide +kernel
theorem dX6_arc_44 : decode cX6_arc 44 = .ok (.ireturn, 1) := by decide +kernel
theorem dX6_arc_45 : decode cX6_arc 45 = .ok (.aload_n 0, 1) := by decide +kernel
theorem dX6_arc_46 : decode cX6_arc 46 = .ok (.getfield 13, 3) := by decide +kernel
theorem dX6_arc_49 : decode cX6_arc 49 = .ok (.aload_n 0, 1) := by decide +kernel
theorem dX6_arc_50 : decode cX6_arc 50 = .ok (.getfield 67, 3) := by decide +kernel
theorem dX6_arc_53 : decode cX6_arc 53 = .ok (.iload_n 1, 1) := by decide +kernel
theorem dX6_arc_54 : decode cX6_arc 54 = .ok (.iastore, 1) := by decide +kernel
theorem dX6_arc_55 : decode cX6_arc 55 = .ok (.aload_n 0, 1) := by decide +kernel
theorem dX6_arc_56 : decode cX6_arc 56 = .ok (.getfield 16, 3) := by decide +kernel
theorem dX6_arc_59 : decode cX6_arc 59 = .ok (.aload_n 0, 1) := by decide +kernel
theorem dX6_arc_60 : decode cX6_arc 60 = .ok (.getfield 67, 3) := by decide +kernel
theorem dX6_arc_63 : decode cX6_arc 63 = .ok (.iload_n 2, 1) := by decide +kernel
theorem dX6_arc_64 : decode cX6_arc 64 = .ok (.iastore, 1) := by decide +kernel
theorem dX6_arc_65 : decode cX6_arc 65 = .ok (.aload_n 0, 1) := by decide +kernel
theorem dX6_arc_66 : decode cX6_arc 66 = .ok (.getfield 19, 3) := by decide +kernel
theorem dX6_arc_69 : decode cX6_arc 69 = .ok (.aload_n 0, 1) := by decide +kernel
theorem dX6_arc_70 : decode cX6_arc 70 = .ok (.getfield 67, 3) := by decide +kernel
theorem dX6_arc_73 : decode cX6_arc 73 = .ok (.iload_n 3, 1) := by decide +kernel
theorem dX6_arc_74 : decode cX6_arc 74 = .ok (.iastore, 1) := by decide +kernel
theorem dX6_arc_75 : decode cX6_arc 75 = .ok (.aload_n 0, 1) := by decide +kernel
theorem dX6_arc_76 : decode cX6_arc 76 = .ok (.dup, 1) := by decide +kernel
theorem dX6_arc_77 : decode cX6_arc 77 = .ok (.getfield 67, 3) := by decide +kernel
theorem dX6_arc_80 : decode cX6_arc 80 = .ok (.iconst 1, 1) := by decide +kernel
theorem dX6_arc_81 : decode cX6_arc 81 = .ok (.iadd, 1) := by decide +kernel
theorem dX6_arc_82 : decode cX6_arc 82 = .ok (.putfield 67, 3) := by decide +kernel
theorem dX6_arc_85 : decode cX6_arc 85 = .ok (.aload_n 0, 1) := by decide +kernel
theorem dX6_arc_86 : decode cX6_arc 86 = .ok (.iconst 0, 1) := by decide +kernel
theorem dX6_arc_87 : decode cX6_arc 87 = .ok (.putfield 72, 3) := by decide +kernel
theorem dX6_arc_90 : decode cX6_arc 90 = .ok (.aload_n 0, 1) := by decide +kernel
theorem dX6_arc_91 : decode cX6_arc 91 = .ok (.getfield 67, 3) := by decide +kernel
theorem dX6_arc_94 : decode cX6_arc 94 = .ok (.iconst 1, 1) := by decide +kernel
theorem dX6_arc_95 : decode cX6_arc 95 = .ok (.isub, 1) := by decide +kernel
theorem dX6_arc_96 : decode cX6_arc 96 = .ok (.ireturn, 1) := by decide +kernel
theorem dX6_time_0 : decode cX6_time 0 = .ok (.aload_n 0, 1) := by decide +kernel
theorem dX6_time_1 : decode cX6_time 1 = .ok (.iload_n 1, 1) := by decide +kernel
theorem dX6_time_2 : decode cX6_time 2 = .ok (.invokevirtual 76, 3) := by decide +kernel
theorem dX6_time_5 : decode cX6_time 5 = .ok (.ifCond .ne 5, 3) := by decide +kernel
theorem dX6_time_8 : decode cX6_time 8 = .ok (.iconst (-1), 1) := by decide +kernel
theorem dX6_time_9 : decode cX6_time 9 = .ok (.ireturn, 1) := by decide +kernel
theorem dX6_time_10 : decode cX6_time 10 = .ok (.iload_n 2, 1) := by decide +kernel
theorem dX6_time_11 : decode cX6_time 11 = .ok (.i2l, 1) := by decide +kernel
theorem dX6_time_12 : decode cX6_time 12 = .ok (.lconst 1, 1) := by decide +kernel
theorem dX6_time_13 : decode cX6_time 13 = .ok (.ldc2_w 70, 3) := by decide +kernel
theorem dX6_time_16 : decode cX6_time 16 = .ok (.invokestatic 63, 3) := by decide +kernel
theorem dX6_time_19 : decode cX6_time 19 = .ok (.ifCond .ne 6, 3) := by decide +kernel
theorem dX6_time_22 : decode cX6_time 22 = .ok (.bipush (-2), 2) := by decide +kernel
theorem dX6_time_24 : decode cX6_time 24 = .ok (.ireturn, 1) := by decide +kernel
theorem dX6_time_25 : decode cX6_time 25 = .ok (.aload_n 0, 1) := by decide +kernel
theorem dX6_time_26 : decode cX6_time 26 = .ok (.getfield 7, 3) := by decide +kernel
theorem dX6_time_29 : decode cX6_time 29 = .ok (.iload_n 1, 1) := by decide +kernel
theorem dX6_time_30 : decode cX6_time 30 = .ok (.iaload, 1) := by decide +kernel
theorem dX6_time_31 : decode cX6_time 31 = .ok (.istore_n 3, 1) := by decide +kernel
theorem dX6_time_32 : decode cX6_time 32 = .ok (.aload_n 0, 1) := by decide +kernel
theorem dX6_time_33 : decode cX6_time 33 = .ok (.getfield 7, 3) := by decide +kernel
theorem dX6_time_36 : decode cX6_time 36 = .ok (.iload_n 1, 1) := by decide +kernel
theorem dX6_time_37 : decode cX6_time 37 = .ok (.iload_n 2, 1) := by decide +kernel
theorem dX6_time_38 : decode cX6_time 38 = .ok (.iastore, 1) := by decide +kernel
theorem dX6_time_39 : decode cX6_time 39 = .ok (.iload_n 3, 1) := by decide +kernel
theorem dX6_time_40 : decode cX6_time 40 = .ok (.ireturn, 1) := by decide +kernel
theorem dX6_put_0 : decode cX6_put 0 = .ok (.aload_n 0, 1) := by decide +kernel
theorem dX6_put_1 : decode cX6_put 1 = .ok (.iload_n 1, 1) := by decide +kernel
theorem dX6_put_2 : decode cX6_put 2 = .ok (.invokevirtual 82, 3) := by decide +kernel
theorem dX6_put_5 : decode cX6_put 5 = .ok (.ifCond .ne 5, 3) := by decide +kernel
theorem dX6_put_8 : decode cX6_put 8 = .ok (.iconst (-1), 1) := by decide +kernel
theorem dX6_put_9 : decode cX6_put 9 = .ok (.ireturn, 1) := by decide +kernel
theorem dX6_put_10 : decode cX6_put 10 = .ok (.iload_n 2, 1) := by decide +kernel
theorem dX6_put_11 : decode cX6_put 11 = .ok (.i2l, 1) := by decide +kernel
theorem dX6_put_12 : decode cX6_put 12 = .ok (.lconst 0, 1) := by decide +kernel
theorem dX6_put_13 : decode cX6_put 13 = .ok (.ldc2_w 80, 3) := by decide +kernel
theorem dX6_put_16 : decode cX6_put 16 = .ok (.invokestatic 63, 3) := by decide +kernel
theorem dX6_put_19 : decode cX6_put 19 = .ok (.ifCond .ne 6, 3) := by decide +kernel
theorem dX6_put_22 : decode cX6_put 22 = .ok (.bipush (-2), 2) := by decide +kernel
theorem dX6_put_24 : decode cX6_put 24 = .ok (.ireturn, 1) := by decide +kernel
theorem dX6_put_25 : decode cX6_put 25 = .ok (.aload_n 0, 1) := by decide +kernel
theorem dX6_put_26 : decode cX6_put 26 = .ok (.getfield 19, 3) := by decide +kernel
theorem dX6_put_29 : decode cX6_put 29 = .ok (.iload_n 1, 1) := by decide +kernel
theorem dX6_put_30 : decode cX6_put 30 = .ok (.iaload, 1) := by decide +kernel
theorem dX6_put_31 : decode cX6_put 31 = .ok (.istore_n 3, 1) := by decide +kernel
theorem dX6_put_32 : decode cX6_put 32 = .ok (.aload_n 0, 1) := by decide +kernel
theorem dX6_put_33 : decode cX6_put 33 = .ok (.getfield 19, 3) := by decide +kernel
theorem dX6_put_36 : decode cX6_put 36 = .ok (.iload_n 1, 1) := by decide +kernel
theorem dX6_put_37 : decode cX6_put 37 = .ok (.iload_n 2, 1) := by decide +kernel
theorem dX6_put_38 : decode cX6_put 38 = .ok (.iastore, 1) := by decide +kernel
theorem dX6_put_39 : decode cX6_put 39 = .ok (.iload_n 3, 1) := by decide +kernel
theorem dX6_put_40 : decode cX6_put 40 = .ok (.ireturn, 1) := by decide +kernel
theorem dX6_about_0 : decode cX6_about 0 = .ok (.aload_n 0, 1) := by decide +kernel
theorem dX6_about_1 : decode cX6_about 1 = .ok (.iload_n 1, 1) := by decide +kernel
theorem dX6_about_2 : decode cX6_about 2 = .ok (.invokevirtual 82, 3) := by decide +kernel
theorem dX6_about_5 : decode cX6_about 5 = .ok (.ifCond .ne 5, 3) := by decide +kernel
theorem dX6_about_8 : decode cX6_about 8 = .ok (.iconst (-1), 1) := by decide +kernel
theorem dX6_about_9 : decode cX6_about 9 = .ok (.ireturn, 1) := by decide +kernel
theorem dX6_about_10 : decode cX6_about 10 = .ok (.iload_n 2, 1) := by decide +kernel
theorem dX6_about_11 : decode cX6_about 11 = .ok (.ifCond .ne 12, 3) := by decide +kernel
theorem dX6_about_14 : decode cX6_about 14 = .ok (.aload_n 0, 1) := by decide +kernel
theorem dX6_about_15 : decode cX6_about 15 = .ok (.getfield 13, 3) := by decide +kernel
theorem dX6_about_18 : decode cX6_about 18 = .ok (.iload_n 1, 1) := by decide +kernel
theorem dX6_about_19 : decode cX6_about 19 = .ok (.iaload, 1) := by decide +kernel
theorem dX6_about_20 : decode cX6_about 20 = .ok (.goto 33, 3) := by decide +kernel
theorem dX6_about_23 : decode cX6_about 23 = .ok (.iload_n 2, 1) := by decide +kernel
theorem dX6_about_24 : decode cX6_about 24 = .ok (.iconst 1, 1) := by decide +kernel
theorem dX6_about_25 : decode cX6_about 25 = .ok (.if_icmp .ne 12, 3) := by decide +kernel
theorem dX6_about_28 : decode cX6_about 28 = .ok (.aload_n 0, 1) := by decide +kernel
theorem dX6_about_29 : decode cX6_about 29 = .ok (.getfield 16, 3) := by decide +kernel
theorem dX6_about_32 : decode cX6_about 32 = .ok (.iload_n 1, 1) := by decide +kernel
theorem dX6_about_33 : decode cX6_about 33 = .ok (.iaload, 1) := by decide +kernel
theorem dX6_about_34 : decode cX6_about 34 = .ok (.goto 19, 3) := by decide +kernel
theorem dX6_about_37 : decode cX6_about 37 = .ok (.iload_n 2, 1) := by decide +kernel
theorem dX6_about_38 : decode cX6_about 38 = .ok (.iconst 2, 1) := by decide +kernel
theorem dX6_about_39 : decode cX6_about 39 = .ok (.if_icmp .ne 12, 3) := by decide +kernel
theorem dX6_about_42 : decode cX6_about 42 = .ok (.aload_n 0, 1) := by decide +kernel
theorem dX6_about_43 : decode cX6_about 43 = .ok (.getfield 19, 3) := by decide +kernel
theorem dX6_about_46 : decode cX6_about 46 = .ok (.iload_n 1, 1) := by decide +kernel
theorem dX6_about_47 : decode cX6_about 47 = .ok (.iaload, 1) := by decide +kernel
theorem dX6_about_48 : decode cX6_about 48 = .ok (.goto 5, 3) := by decide +kernel
theorem dX6_about_51 : decode cX6_about 51 = .ok (.bipush (-2), 2) := by decide +kernel
theorem dX6_about_53 : decode cX6_about 53 = .ok (.ireturn, 1) := by decide +kernel
theorem dX6_isReady_0 : decode cX6_isReady 0 = .ok (.iconst 1, 1) := by decide +kernel
theorem dX6_isReady_1 : decode cX6_isReady 1 = .ok (.istore_n 2, 1) := by decide +kernel
theorem dX6_isReady_2 : decode cX6_isReady 2 = .ok (.iconst 0, 1) := by decide +kernel
theorem dX6_isReady_3 : decode cX6_isReady 3 = .ok (.istore_n 3, 1) := by decide +kernel
theorem dX6_isReady_4 : decode cX6_isReady 4 = .ok (.iload_n 3, 1) := by decide +kernel
theorem dX6_isReady_5 : decode cX6_isReady 5 = .ok (.aload_n 0, 1) := by decide +kernel
theorem dX6_isReady_6 : decode cX6_isReady 6 = .ok (.getfield 67, 3) := by decide +kernel
theorem dX6_isReady_9 : decode cX6_isReady 9 = .ok (.if_icmp .ge 38, 3) := by decide +kernel
theorem dX6_isReady_12 : decode cX6_isReady 12 = .ok (.iload_n 2, 1) := by decide +kernel
theorem dX6_isReady_13 : decode cX6_isReady 13 = .ok (.ifCond .eq 26, 3) := by decide +kernel
theorem dX6_isReady_16 : decode cX6_isReady 16 = .ok (.aload_n 0, 1) := by decide +kernel
theorem dX6_isReady_17 : decode cX6_isReady 17 = .ok (.getfield 16, 3) := by decide +kernel
theorem dX6_isReady_20 : decode cX6_isReady 20 = .ok (.iload_n 3, 1) := by decide +kernel
theorem dX6_isReady_21 : decode cX6_isReady 21 = .ok (.iaload, 1) := by decide +kernel
theorem dX6_isReady_22 : decode cX6_isReady 22 = .ok (.iload_n 1, 1) := by decide +kernel
theorem dX6_isReady_23 : decode cX6_isReady 23 = .ok (.if_icmp .ne 12, 3) := by decide +kernel
theorem dX6_isReady_26 : decode cX6_isReady 26 = .ok (.aload_n 0, 1) := by decide +kernel
theorem dX6_isReady_27 : decode cX6_isReady 27 = .ok (.getfield 19, 3) := by decide +kernel
theorem dX6_isReady_30 : decode cX6_isReady 30 = .ok (.iload_n 3, 1) := by decide +kernel
theorem dX6_isReady_31 : decode cX6_isReady 31 = .ok (.iaload, 1) := by decide +kernel
theorem dX6_isReady_32 : decode cX6_isReady 32 = .ok (.ifCond .le 7, 3) := by decide +kernel
theorem dX6_isReady_35 : decode cX6_isReady 35 = .ok (.iconst 1, 1) := by decide +kernel
theorem dX6_isReady_36 : decode cX6_isReady 36 = .ok (.goto 4, 3) := by decide +kernel
theorem dX6_isReady_39 : decode cX6_isReady 39 = .ok (.iconst 0, 1) := by decide +kernel
theorem dX6_isReady_40 : decode cX6_isReady 40 = .ok (.istore_n 2, 1) := by decide +kernel
theorem dX6_isReady_41 : decode cX6_isReady 41 = .ok (.iinc 3 1, 3) := by decide +kernel
theorem dX6_isReady_44 : decode cX6_isReady 44 = .ok (.goto (-40), 3) := by decide +kernel
theorem dX6_isReady_47 : decode cX6_isReady 47 = .ok (.iload_n 2, 1) := by decide +kernel
theorem dX6_isReady_48 : decode cX6_isReady 48 = .ok (.ireturn, 1) := by decide +kernel
theorem dX6_hasRoom_0 : decode cX6_hasRoom 0 = .ok (.iconst 1, 1) := by decide +kernel
theorem dX6_hasRoom_1 : decode cX6_hasRoom 1 = .ok (.istore_n 2, 1) := by decide +kernel
theorem dX6_hasRoom_2 : decode cX6_hasRoom 2 = .ok (.iconst 0, 1) := by decide +kernel
theorem dX6_hasRoom_3 : decode cX6_hasRoom 3 = .ok (.istore_n 3, 1) := by decide +kernel
theorem dX6_hasRoom_4 : decode cX6_hasRoom 4 = .ok (.iload_n 3, 1) := by decide +kernel
theorem dX6_hasRoom_5 : decode cX6_hasRoom 5 = .ok (.aload_n 0, 1) := by decide +kernel
theorem dX6_hasRoom_6 : decode cX6_hasRoom 6 = .ok (.getfield 67, 3) := by decide +kernel
theorem dX6_hasRoom_9 : decode cX6_hasRoom 9 = .ok (.if_icmp .ge 50, 3) := by decide +kernel
theorem dX6_hasRoom_12 : decode cX6_hasRoom 12 = .ok (.iload_n 2, 1) := by decide +kernel
theorem dX6_hasRoom_13 : decode cX6_hasRoom 13 = .ok (.ifCond .eq 38, 3) := by decide +kernel
theorem dX6_hasRoom_16 : decode cX6_hasRoom 16 = .ok (.aload_n 0, 1) := by decide +kernel
theorem dX6_hasRoom_17 : decode cX6_hasRoom 17 = .ok (.getfield 13, 3) := by decide +kernel
theorem dX6_hasRoom_20 : decode cX6_hasRoom 20 = .ok (.iload_n 3, 1) := by decide +kernel
theorem dX6_hasRoom_21 : decode cX6_hasRoom 21 = .ok (.iaload, 1) := by decide +kernel
theorem dX6_hasRoom_22 : decode cX6_hasRoom 22 = .ok (.iload_n 1, 1) := by decide +kernel
theorem dX6_hasRoom_23 : decode cX6_hasRoom 23 = .ok (.if_icmp .ne 24, 3) := by decide +kernel
theorem dX6_hasRoom_26 : decode cX6_hasRoom 26 = .ok (.aload_n 0, 1) := by decide +kernel
theorem dX6_hasRoom_27 : decode cX6_hasRoom 27 = .ok (.getfield 16, 3) := by decide +kernel
theorem dX6_hasRoom_30 : decode cX6_hasRoom 30 = .ok (.iload_n 3, 1) := by decide +kernel
theorem dX6_hasRoom_31 : decode cX6_hasRoom 31 = .ok (.iaload, 1) := by decide +kernel
theorem dX6_hasRoom_32 : decode cX6_hasRoom 32 = .ok (.iload_n 1, 1) := by decide +kernel
theorem dX6_hasRoom_33 : decode cX6_hasRoom 33 = .ok (.if_icmp .eq 14, 3) := by decide +kernel
theorem dX6_hasRoom_36 : decode cX6_hasRoom 36 = .ok (.aload_n 0, 1) := by decide +kernel
theorem dX6_hasRoom_37 : decode cX6_hasRoom 37 = .ok (.getfield 19, 3) := by decide +kernel
theorem dX6_hasRoom_40 : decode cX6_hasRoom 40 = .ok (.iload_n 3, 1) := by decide +kernel
theorem dX6_hasRoom_41 : decode cX6_hasRoom 41 = .ok (.iaload, 1) := by decide +kernel
theorem dX6_hasRoom_42 : decode cX6_hasRoom 42 = .ok (.bipush 9, 2) := by decide +kernel
theorem dX6_hasRoom_44 : decode cX6_hasRoom 44 = .ok (.if_icmp .ge 7, 3) := by decide +kernel
theorem dX6_hasRoom_47 : decode cX6_hasRoom 47 = .ok (.iconst 1, 1) := by decide +kernel
theorem dX6_hasRoom_48 : decode cX6_hasRoom 48 = .ok (.goto 4, 3) := by decide +kernel
theorem dX6_hasRoom_51 : decode cX6_hasRoom 51 = .ok (.iconst 0, 1) := by decide +kernel
theorem dX6_hasRoom_52 : decode cX6_hasRoom 52 = .ok (.istore_n 2, 1) := by decide +kernel
theorem dX6_hasRoom_53 : decode cX6_hasRoom 53 = .ok (.iinc 3 1, 3) := by decide +kernel
theorem dX6_hasRoom_56 : decode cX6_hasRoom 56 = .ok (.goto (-52), 3) := by decide +kernel
theorem dX6_hasRoom_59 : decode cX6_hasRoom 59 = .ok (.iload_n 2, 1) := by decide +kernel
theorem dX6_hasRoom_60 : decode cX6_hasRoom 60 = .ok (.ireturn, 1) := by decide +kernel
theorem dX6_fires_0 : decode cX6_fires 0 = .ok (.iconst 0, 1) := by decide +kernel
theorem dX6_fires_1 : decode cX6_fires 1 = .ok (.istore_n 2, 1) := by decide +kernel
theorem dX6_fires_2 : decode cX6_fires 2 = .ok (.iload_n 2, 1) := by decide +kernel
theorem dX6_fires_3 : decode cX6_fires 3 = .ok (.aload_n 0, 1) := by decide +kernel
theorem dX6_fires_4 : decode cX6_fires 4 = .ok (.getfield 67, 3) := by decide +kernel
theorem dX6_fires_7 : decode cX6_fires 7 = .ok (.if_icmp .ge 49, 3) := by decide +kernel
theorem dX6_fires_10 : decode cX6_fires 10 = .ok (.aload_n 0, 1) := by decide +kernel
theorem dX6_fires_11 : decode cX6_fires 11 = .ok (.getfield 19, 3) := by decide +kernel
theorem dX6_fires_14 : decode cX6_fires 14 = .ok (.iload_n 2, 1) := by decide +kernel
theorem dX6_fires_15 : decode cX6_fires 15 = .ok (.dup2, 1) := by decide +kernel
theorem dX6_fires_16 : decode cX6_fires 16 = .ok (.iaload, 1) := by decide +kernel
theorem dX6_fires_17 : decode cX6_fires 17 = .ok (.aload_n 0, 1) := by decide +kernel
theorem dX6_fires_18 : decode cX6_fires 18 = .ok (.getfield 13, 3) := by decide +kernel
theorem dX6_fires_21 : decode cX6_fires 21 = .ok (.iload_n 2, 1) := by decide +kernel
theorem dX6_fires_22 : decode cX6_fires 22 = .ok (.iaload, 1) := by decide +kernel
theorem dX6_fires_23 : decode cX6_fires 23 = .ok (.iload_n 1, 1) := by decide +kernel
theorem dX6_fires_24 : decode cX6_fires 24 = .ok (.if_icmp .ne 7, 3) := by decide +kernel
theorem dX6_fires_27 : decode cX6_fires 27 = .ok (.iconst 1, 1) := by decide +kernel
theorem dX6_fires_28 : decode cX6_fires 28 = .ok (.goto 4, 3) := by decide +kernel
theorem dX6_fires_31 : decode cX6_fires 31 = .ok (.iconst 0, 1) := by decide +kernel
theorem dX6_fires_32 : decode cX6_fires 32 = .ok (.aload_n 0, 1) := by decide +kernel
theorem dX6_fires_33 : decode cX6_fires 33 = .ok (.getfield 16, 3) := by decide +kernel
theorem dX6_fires_36 : decode cX6_fires 36 = .ok (.iload_n 2, 1) := by decide +kernel
theorem dX6_fires_37 : decode cX6_fires 37 = .ok (.iaload, 1) := by decide +kernel
theorem dX6_fires_38 : decode cX6_fires 38 = .ok (.iload_n 1, 1) := by decide +kernel
theorem dX6_fires_39 : decode cX6_fires 39 = .ok (.if_icmp .ne 7, 3) := by decide +kernel
theorem dX6_fires_42 : decode cX6_fires 42 = .ok (.iconst 1, 1) := by decide +kernel
theorem dX6_fires_43 : decode cX6_fires 43 = .ok (.goto 4, 3) := by decide +kernel
theorem dX6_fires_46 : decode cX6_fires 46 = .ok (.iconst 0, 1) := by decide +kernel
theorem dX6_fires_47 : decode cX6_fires 47 = .ok (.isub, 1) := by decide +kernel
theorem dX6_fires_48 : decode cX6_fires 48 = .ok (.iadd, 1) := by decide +kernel
theorem dX6_fires_49 : decode cX6_fires 49 = .ok (.iastore, 1) := by decide +kernel
theorem dX6_fires_50 : decode cX6_fires 50 = .ok (.iinc 2 1, 3) := by decide +kernel
theorem dX6_fires_53 : decode cX6_fires 53 = .ok (.goto (-51), 3) := by decide +kernel
theorem dX6_fires_56 : decode cX6_fires 56 = .ok (.return_, 1) := by decide +kernel
theorem dX6_readyMany_0 : decode cX6_readyMany 0 = .ok (.iconst 0, 1) := by decide +kernel
theorem dX6_readyMany_1 : decode cX6_readyMany 1 = .ok (.istore_n 1, 1) := by decide +kernel
theorem dX6_readyMany_2 : decode cX6_readyMany 2 = .ok (.iconst 0, 1) := by decide +kernel
theorem dX6_readyMany_3 : decode cX6_readyMany 3 = .ok (.istore_n 2, 1) := by decide +kernel
theorem dX6_readyMany_4 : decode cX6_readyMany 4 = .ok (.iload_n 2, 1) := by decide +kernel
theorem dX6_readyMany_5 : decode cX6_readyMany 5 = .ok (.aload_n 0, 1) := by decide +kernel
theorem dX6_readyMany_6 : decode cX6_readyMany 6 = .ok (.getfield 59, 3) := by decide +kernel
theorem dX6_readyMany_9 : decode cX6_readyMany 9 = .ok (.if_icmp .ge 25, 3) := by decide +kernel
theorem dX6_readyMany_12 : decode cX6_readyMany 12 = .ok (.iload_n 1, 1) := by decide +kernel
theorem dX6_readyMany_13 : decode cX6_readyMany 13 = .ok (.aload_n 0, 1) := by decide +kernel
theorem dX6_readyMany_14 : decode cX6_readyMany 14 = .ok (.iload_n 2, 1) := by decide +kernel
theorem dX6_readyMany_15 : decode cX6_readyMany 15 = .ok (.invokevirtual 85, 3) := by decide +kernel
theorem dX6_readyMany_18 : decode cX6_readyMany 18 = .ok (.ifCond .eq 7, 3) := by decide +kernel
theorem dX6_readyMany_21 : decode cX6_readyMany 21 = .ok (.iconst 1, 1) := by decide +kernel
theorem dX6_readyMany_22 : decode cX6_readyMany 22 = .ok (.goto 4, 3) := by decide +kernel
theorem dX6_readyMany_25 : decode cX6_readyMany 25 = .ok (.iconst 0, 1) := by decide +kernel
theorem dX6_readyMany_26 : decode cX6_readyMany 26 = .ok (.iadd, 1) := by decide +kernel
theorem dX6_readyMany_27 : decode cX6_readyMany 27 = .ok (.istore_n 1, 1) := by decide +kernel
theorem dX6_readyMany_28 : decode cX6_readyMany 28 = .ok (.iinc 2 1, 3) := by decide +kernel
theorem dX6_readyMany_31 : decode cX6_readyMany 31 = .ok (.goto (-27), 3) := by decide +kernel
theorem dX6_readyMany_34 : decode cX6_readyMany 34 = .ok (.iload_n 1, 1) := by decide +kernel
theorem dX6_readyMany_35 : decode cX6_readyMany 35 = .ok (.ireturn, 1) := by decide +kernel
theorem dX6_ready_0 : decode cX6_ready 0 = .ok (.aload_n 0, 1) := by decide +kernel
theorem dX6_ready_1 : decode cX6_ready 1 = .ok (.iload_n 1, 1) := by decide +kernel
theorem dX6_ready_2 : decode cX6_ready 2 = .ok (.invokevirtual 76, 3) := by decide +kernel
theorem dX6_ready_5 : decode cX6_ready 5 = .ok (.ifCond .ne 7, 3) := by decide +kernel
theorem dX6_ready_8 : decode cX6_ready 8 = .ok (.iconst (-1), 1) := by decide +kernel
theorem dX6_ready_9 : decode cX6_ready 9 = .ok (.goto 16, 3) := by decide +kernel
theorem dX6_ready_12 : decode cX6_ready 12 = .ok (.aload_n 0, 1) := by decide +kernel
theorem dX6_ready_13 : decode cX6_ready 13 = .ok (.iload_n 1, 1) := by decide +kernel
theorem dX6_ready_14 : decode cX6_ready 14 = .ok (.invokevirtual 85, 3) := by decide +kernel
theorem dX6_ready_17 : decode cX6_ready 17 = .ok (.ifCond .eq 7, 3) := by decide +kernel
theorem dX6_ready_20 : decode cX6_ready 20 = .ok (.iconst 1, 1) := by decide +kernel
theorem dX6_ready_21 : decode cX6_ready 21 = .ok (.goto 4, 3) := by decide +kernel
theorem dX6_ready_24 : decode cX6_ready 24 = .ok (.iconst 0, 1) := by decide +kernel
theorem dX6_ready_25 : decode cX6_ready 25 = .ok (.ireturn, 1) := by decide +kernel
theorem dX6_fire_0 : decode cX6_fire 0 = .ok (.aload_n 0, 1) := by decide +kernel
theorem dX6_fire_1 : decode cX6_fire 1 = .ok (.iload_n 1, 1) := by decide +kernel
theorem dX6_fire_2 : decode cX6_fire 2 = .ok (.invokevirtual 76, 3) := by decide +kernel
theorem dX6_fire_5 : decode cX6_fire 5 = .ok (.ifCond .ne 5, 3) := by decide +kernel
theorem dX6_fire_8 : decode cX6_fire 8 = .ok (.iconst (-1), 1) := by decide +kernel
theorem dX6_fire_9 : decode cX6_fire 9 = .ok (.ireturn, 1) := by decide +kernel
theorem dX6_fire_10 : decode cX6_fire 10 = .ok (.aload_n 0, 1) := by decide +kernel
theorem dX6_fire_11 : decode cX6_fire 11 = .ok (.iload_n 1, 1) := by decide +kernel
theorem dX6_fire_12 : decode cX6_fire 12 = .ok (.invokevirtual 85, 3) := by decide +kernel
theorem dX6_fire_15 : decode cX6_fire 15 = .ok (.ifCond .ne 6, 3) := by decide +kernel
theorem dX6_fire_18 : decode cX6_fire 18 = .ok (.bipush (-3), 2) := by decide +kernel
theorem dX6_fire_20 : decode cX6_fire 20 = .ok (.ireturn, 1) := by decide +kernel
theorem dX6_fire_21 : decode cX6_fire 21 = .ok (.aload_n 0, 1) := by decide +kernel
theorem dX6_fire_22 : decode cX6_fire 22 = .ok (.iload_n 1, 1) := by decide +kernel
theorem dX6_fire_23 : decode cX6_fire 23 = .ok (.invokevirtual 88, 3) := by decide +kernel
theorem dX6_fire_26 : decode cX6_fire 26 = .ok (.ifCond .ne 6, 3) := by decide +kernel
theorem dX6_fire_29 : decode cX6_fire 29 = .ok (.bipush (-4), 2) := by decide +kernel
theorem dX6_fire_31 : decode cX6_fire 31 = .ok (.ireturn, 1) := by decide +kernel
theorem dX6_fire_32 : decode cX6_fire 32 = .ok (.aload_n 0, 1) := by decide +kernel
theorem dX6_fire_33 : decode cX6_fire 33 = .ok (.iload_n 1, 1) := by decide +kernel
theorem dX6_fire_34 : decode cX6_fire 34 = .ok (.invokevirtual 91, 3) := by decide +kernel
theorem dX6_fire_37 : decode cX6_fire 37 = .ok (.aload_n 0, 1) := by decide +kernel
theorem dX6_fire_38 : decode cX6_fire 38 = .ok (.invokevirtual 95, 3) := by decide +kernel
theorem dX6_fire_41 : decode cX6_fire 41 = .ok (.ireturn, 1) := by decide +kernel
theorem dX6_round_0 : decode cX6_round 0 = .ok (.iconst 0, 1) := by decide +kernel
theorem dX6_round_1 : decode cX6_round 1 = .ok (.istore_n 1, 1) := by decide +kernel
theorem dX6_round_2 : decode cX6_round 2 = .ok (.iconst 0, 1) := by decide +kernel
theorem dX6_round_3 : decode cX6_round 3 = .ok (.istore_n 2, 1) := by decide +kernel
theorem dX6_round_4 : decode cX6_round 4 = .ok (.iload_n 2, 1) := by decide +kernel
theorem dX6_round_5 : decode cX6_round 5 = .ok (.aload_n 0, 1) := by decide +kernel
theorem dX6_round_6 : decode cX6_round 6 = .ok (.getfield 59, 3) := by decide +kernel
theorem dX6_round_9 : decode cX6_round 9 = .ok (.if_icmp .ge 33, 3) := by decide +kernel
theorem dX6_round_12 : decode cX6_round 12 = .ok (.aload_n 0, 1) := by decide +kernel
theorem dX6_round_13 : decode cX6_round 13 = .ok (.iload_n 2, 1) := by decide +kernel
theorem dX6_round_14 : decode cX6_round 14 = .ok (.invokevirtual 85, 3) := by decide +kernel
theorem dX6_round_17 : decode cX6_round 17 = .ok (.ifCond .eq 19, 3) := by decide +kernel
theorem dX6_round_20 : decode cX6_round 20 = .ok (.aload_n 0, 1) := by decide +kernel
theorem dX6_round_21 : decode cX6_round 21 = .ok (.iload_n 2, 1) := by decide +kernel
theorem dX6_round_22 : decode cX6_round 22 = .ok (.invokevirtual 88, 3) := by decide +kernel
theorem dX6_round_25 : decode cX6_round 25 = .ok (.ifCond .eq 11, 3) := by decide +kernel
theorem dX6_round_28 : decode cX6_round 28 = .ok (.aload_n 0, 1) := by decide +kernel
theorem dX6_round_29 : decode cX6_round 29 = .ok (.iload_n 2, 1) := by decide +kernel
theorem dX6_round_30 : decode cX6_round 30 = .ok (.invokevirtual 91, 3) := by decide +kernel
theorem dX6_round_33 : decode cX6_round 33 = .ok (.iinc 1 1, 3) := by decide +kernel
theorem dX6_round_36 : decode cX6_round 36 = .ok (.iinc 2 1, 3) := by decide +kernel
theorem dX6_round_39 : decode cX6_round 39 = .ok (.goto (-35), 3) := by decide +kernel
theorem dX6_round_42 : decode cX6_round 42 = .ok (.iload_n 1, 1) := by decide +kernel
theorem dX6_round_43 : decode cX6_round 43 = .ok (.ireturn, 1) := by decide +kernel
theorem dX6_keep_0 : decode cX6_keep 0 = .ok (.aload_n 0, 1) := by decide +kernel
theorem dX6_keep_1 : decode cX6_keep 1 = .ok (.getfield 99, 3) := by decide +kernel
theorem dX6_keep_4 : decode cX6_keep 4 = .ok (.sipush 2000, 3) := by decide +kernel
theorem dX6_keep_7 : decode cX6_keep 7 = .ok (.if_icmp .ge 56, 3) := by decide +kernel
theorem dX6_keep_10 : decode cX6_keep 10 = .ok (.iconst 0, 1) := by decide +kernel
theorem dX6_keep_11 : decode cX6_keep 11 = .ok (.istore_n 2, 1) := by decide +kernel
theorem dX6_keep_12 : decode cX6_keep 12 = .ok (.iload_n 2, 1) := by decide +kernel
theorem dX6_keep_13 : decode cX6_keep 13 = .ok (.iload_n 1, 1) := by decide +kernel
theorem dX6_keep_14 : decode cX6_keep 14 = .ok (.if_icmp .ge 29, 3) := by decide +kernel
theorem dX6_keep_17 : decode cX6_keep 17 = .ok (.aload_n 0, 1) := by decide +kernel
theorem dX6_keep_18 : decode cX6_keep 18 = .ok (.getfield 22, 3) := by decide +kernel
theorem dX6_keep_21 : decode cX6_keep 21 = .ok (.bipush 8, 2) := by decide +kernel
theorem dX6_keep_23 : decode cX6_keep 23 = .ok (.aload_n 0, 1) := by decide +kernel
theorem dX6_keep_24 : decode cX6_keep 24 = .ok (.getfield 99, 3) := by decide +kernel
theorem dX6_keep_27 : decode cX6_keep 27 = .ok (.imul, 1) := by decide +kernel
theorem dX6_keep_28 : decode cX6_keep 28 = .ok (.iload_n 2, 1) := by decide +kernel
theorem dX6_keep_29 : decode cX6_keep 29 = .ok (.iadd, 1) := by decide +kernel
theorem dX6_keep_30 : decode cX6_keep 30 = .ok (.aload_n 0, 1) := by decide +kernel
theorem dX6_keep_31 : decode cX6_keep 31 = .ok (.getfield 28, 3) := by decide +kernel
theorem dX6_keep_34 : decode cX6_keep 34 = .ok (.iload_n 2, 1) := by decide +kernel
theorem dX6_keep_35 : decode cX6_keep 35 = .ok (.iaload, 1) := by decide +kernel
theorem dX6_keep_36 : decode cX6_keep 36 = .ok (.iastore, 1) := by decide +kernel
theorem dX6_keep_37 : decode cX6_keep 37 = .ok (.iinc 2 1, 3) := by decide +kernel
theorem dX6_keep_40 : decode cX6_keep 40 = .ok (.goto (-28), 3) := by decide +kernel
theorem dX6_keep_43 : decode cX6_keep 43 = .ok (.aload_n 0, 1) := by decide +kernel
theorem dX6_keep_44 : decode cX6_keep 44 = .ok (.getfield 25, 3) := by decide +kernel
theorem dX6_keep_47 : decode cX6_keep 47 = .ok (.aload_n 0, 1) := by decide +kernel
theorem dX6_keep_48 : decode cX6_keep 48 = .ok (.getfield 99, 3) := by decide +kernel
theorem dX6_keep_51 : decode cX6_keep 51 = .ok (.iload_n 1, 1) := by decide +kernel
theorem dX6_keep_52 : decode cX6_keep 52 = .ok (.iastore, 1) := by decide +kernel
theorem dX6_keep_53 : decode cX6_keep 53 = .ok (.aload_n 0, 1) := by decide +kernel
theorem dX6_keep_54 : decode cX6_keep 54 = .ok (.dup, 1) := by decide +kernel
theorem dX6_keep_55 : decode cX6_keep 55 = .ok (.getfield 99, 3) := by decide +kernel
theorem dX6_keep_58 : decode cX6_keep 58 = .ok (.iconst 1, 1) := by decide +kernel
theorem dX6_keep_59 : decode cX6_keep 59 = .ok (.iadd, 1) := by decide +kernel
theorem dX6_keep_60 : decode cX6_keep 60 = .ok (.putfield 99, 3) := by decide +kernel
theorem dX6_keep_63 : decode cX6_keep 63 = .ok (.return_, 1) := by decide +kernel
theorem dX6_mayGo_0 : decode cX6_mayGo 0 = .ok (.aload_n 0, 1) := by decide +kernel
theorem dX6_mayGo_1 : decode cX6_mayGo 1 = .ok (.getfield 13, 3) := by decide +kernel
theorem dX6_mayGo_4 : decode cX6_mayGo 4 = .ok (.iload_n 1, 1) := by decide +kernel
theorem dX6_mayGo_5 : decode cX6_mayGo 5 = .ok (.iaload, 1) := by decide +kernel
theorem dX6_mayGo_6 : decode cX6_mayGo 6 = .ok (.iload_n 3, 1) := by decide +kernel
theorem dX6_mayGo_7 : decode cX6_mayGo 7 = .ok (.if_icmp .ne 30, 3) := by decide +kernel
theorem dX6_mayGo_10 : decode cX6_mayGo 10 = .ok (.aload_n 0, 1) := by decide +kernel
theorem dX6_mayGo_11 : decode cX6_mayGo 11 = .ok (.getfield 16, 3) := by decide +kernel
theorem dX6_mayGo_14 : decode cX6_mayGo 14 = .ok (.iload_n 1, 1) := by decide +kernel
theorem dX6_mayGo_15 : decode cX6_mayGo 15 = .ok (.iaload, 1) := by decide +kernel
theorem dX6_mayGo_16 : decode cX6_mayGo 16 = .ok (.iload 4, 2) := by decide +kernel
theorem dX6_mayGo_18 : decode cX6_mayGo 18 = .ok (.if_icmp .lt 19, 3) := by decide +kernel
theorem dX6_mayGo_21 : decode cX6_mayGo 21 = .ok (.aload_n 0, 1) := by decide +kernel
theorem dX6_mayGo_22 : decode cX6_mayGo 22 = .ok (.getfield 16, 3) := by decide +kernel
theorem dX6_mayGo_25 : decode cX6_mayGo 25 = .ok (.iload_n 1, 1) := by decide +kernel
theorem dX6_mayGo_26 : decode cX6_mayGo 26 = .ok (.iaload, 1) := by decide +kernel
theorem dX6_mayGo_27 : decode cX6_mayGo 27 = .ok (.iload_n 3, 1) := by decide +kernel
theorem dX6_mayGo_28 : decode cX6_mayGo 28 = .ok (.if_icmp .ne 11, 3) := by decide +kernel
theorem dX6_mayGo_31 : decode cX6_mayGo 31 = .ok (.iload_n 3, 1) := by decide +kernel
theorem dX6_mayGo_32 : decode cX6_mayGo 32 = .ok (.iload 4, 2) := by decide +kernel
theorem dX6_mayGo_34 : decode cX6_mayGo 34 = .ok (.if_icmp .eq 5, 3) := by decide +kernel
theorem dX6_mayGo_37 : decode cX6_mayGo 37 = .ok (.iconst 0, 1) := by decide +kernel
theorem dX6_mayGo_38 : decode cX6_mayGo 38 = .ok (.ireturn, 1) := by decide +kernel
theorem dX6_mayGo_39 : decode cX6_mayGo 39 = .ok (.iconst 1, 1) := by decide +kernel
theorem dX6_mayGo_40 : decode cX6_mayGo 40 = .ok (.istore 5, 2) := by decide +kernel
theorem dX6_mayGo_42 : decode cX6_mayGo 42 = .ok (.iconst 0, 1) := by decide +kernel
theorem dX6_mayGo_43 : decode cX6_mayGo 43 = .ok (.istore 6, 2) := by decide +kernel
theorem dX6_mayGo_45 : decode cX6_mayGo 45 = .ok (.iload 6, 2) := by decide +kernel
theorem dX6_mayGo_47 : decode cX6_mayGo 47 = .ok (.iload_n 2, 1) := by decide +kernel
theorem dX6_mayGo_48 : decode cX6_mayGo 48 = .ok (.if_icmp .ge 53, 3) := by decide +kernel
theorem dX6_mayGo_51 : decode cX6_mayGo 51 = .ok (.iload 5, 2) := by decide +kernel
theorem dX6_mayGo_53 : decode cX6_mayGo 53 = .ok (.ifCond .eq 39, 3) := by decide +kernel
theorem dX6_mayGo_56 : decode cX6_mayGo 56 = .ok (.aload_n 0, 1) := by decide +kernel
theorem dX6_mayGo_57 : decode cX6_mayGo 57 = .ok (.getfield 16, 3) := by decide +kernel
theorem dX6_mayGo_60 : decode cX6_mayGo 60 = .ok (.iload_n 1, 1) := by decide +kernel
theorem dX6_mayGo_61 : decode cX6_mayGo 61 = .ok (.iaload, 1) := by decide +kernel
theorem dX6_mayGo_62 : decode cX6_mayGo 62 = .ok (.aload_n 0, 1) := by decide +kernel
theorem dX6_mayGo_63 : decode cX6_mayGo 63 = .ok (.getfield 13, 3) := by decide +kernel
theorem dX6_mayGo_66 : decode cX6_mayGo 66 = .ok (.aload_n 0, 1) := by decide +kernel
theorem dX6_mayGo_67 : decode cX6_mayGo 67 = .ok (.getfield 28, 3) := by decide +kernel
theorem dX6_mayGo_70 : decode cX6_mayGo 70 = .ok (.iload 6, 2) := by decide +kernel
theorem dX6_mayGo_72 : decode cX6_mayGo 72 = .ok (.iaload, 1) := by decide +kernel
theorem dX6_mayGo_73 : decode cX6_mayGo 73 = .ok (.iaload, 1) := by decide +kernel
theorem dX6_mayGo_74 : decode cX6_mayGo 74 = .ok (.if_icmp .ne 14, 3) := by decide +kernel
theorem dX6_mayGo_77 : decode cX6_mayGo 77 = .ok (.aload_n 0, 1) := by decide +kernel
theorem dX6_mayGo_78 : decode cX6_mayGo 78 = .ok (.getfield 16, 3) := by decide +kernel
theorem dX6_mayGo_81 : decode cX6_mayGo 81 = .ok (.iload_n 1, 1) := by decide +kernel
theorem dX6_mayGo_82 : decode cX6_mayGo 82 = .ok (.iaload, 1) := by decide +kernel
theorem dX6_mayGo_83 : decode cX6_mayGo 83 = .ok (.iload 4, 2) := by decide +kernel
theorem dX6_mayGo_85 : decode cX6_mayGo 85 = .ok (.if_icmp .ne 7, 3) := by decide +kernel
theorem dX6_mayGo_88 : decode cX6_mayGo 88 = .ok (.iconst 1, 1) := by decide +kernel
theorem dX6_mayGo_89 : decode cX6_mayGo 89 = .ok (.goto 4, 3) := by decide +kernel
theorem dX6_mayGo_92 : decode cX6_mayGo 92 = .ok (.iconst 0, 1) := by decide +kernel
theorem dX6_mayGo_93 : decode cX6_mayGo 93 = .ok (.istore 5, 2) := by decide +kernel
theorem dX6_mayGo_95 : decode cX6_mayGo 95 = .ok (.iinc 6 1, 3) := by decide +kernel
theorem dX6_mayGo_98 : decode cX6_mayGo 98 = .ok (.goto (-53), 3) := by decide +kernel
theorem dX6_mayGo_101 : decode cX6_mayGo 101 = .ok (.iload 5, 2) := by decide +kernel
theorem dX6_mayGo_103 : decode cX6_mayGo 103 = .ok (.ireturn, 1) := by decide +kernel
theorem dX6_find_0 : decode cX6_find 0 = .ok (.aload_n 0, 1) := by decide +kernel
theorem dX6_find_1 : decode cX6_find 1 = .ok (.iconst 0, 1) := by decide +kernel
theorem dX6_find_2 : decode cX6_find 2 = .ok (.putfield 99, 3) := by decide +kernel
theorem dX6_find_5 : decode cX6_find 5 = .ok (.iconst 0, 1) := by decide +kernel
theorem dX6_find_6 : decode cX6_find 6 = .ok (.istore_n 1, 1) := by decide +kernel
theorem dX6_find_7 : decode cX6_find 7 = .ok (.iload_n 1, 1) := by decide +kernel
theorem dX6_find_8 : decode cX6_find 8 = .ok (.aload_n 0, 1) := by decide +kernel
theorem dX6_find_9 : decode cX6_find 9 = .ok (.getfield 59, 3) := by decide +kernel
theorem dX6_find_12 : decode cX6_find 12 = .ok (.if_icmp .ge 134, 3) := by decide +kernel
theorem dX6_find_15 : decode cX6_find 15 = .ok (.iconst 0, 1) := by decide +kernel
theorem dX6_find_16 : decode cX6_find 16 = .ok (.istore_n 2, 1) := by decide +kernel
theorem dX6_find_17 : decode cX6_find 17 = .ok (.iconst 0, 1) := by decide +kernel
theorem dX6_find_18 : decode cX6_find 18 = .ok (.istore_n 3, 1) := by decide +kernel
theorem dX6_find_19 : decode cX6_find 19 = .ok (.iload_n 2, 1) := by decide +kernel
theorem dX6_find_20 : decode cX6_find 20 = .ok (.ifCond .gt 11, 3) := by decide +kernel
theorem dX6_find_23 : decode cX6_find 23 = .ok (.iload_n 3, 1) := by decide +kernel
theorem dX6_find_24 : decode cX6_find 24 = .ok (.aload_n 0, 1) := by decide +kernel
theorem dX6_find_25 : decode cX6_find 25 = .ok (.getfield 67, 3) := by decide +kernel
theorem dX6_find_28 : decode cX6_find 28 = .ok (.if_icmp .ge 112, 3) := by decide +kernel
theorem dX6_find_31 : decode cX6_find 31 = .ok (.iload_n 2, 1) := by decide +kernel
theorem dX6_find_32 : decode cX6_find 32 = .ok (.ifCond .ne 7, 3) := by decide +kernel
theorem dX6_find_35 : decode cX6_find 35 = .ok (.iload_n 1, 1) := by decide +kernel
theorem dX6_find_36 : decode cX6_find 36 = .ok (.goto 16, 3) := by decide +kernel
theorem dX6_find_39 : decode cX6_find 39 = .ok (.aload_n 0, 1) := by decide +kernel
theorem dX6_find_40 : decode cX6_find 40 = .ok (.getfield 16, 3) := by decide +kernel
theorem dX6_find_43 : decode cX6_find 43 = .ok (.aload_n 0, 1) := by decide +kernel
theorem dX6_find_44 : decode cX6_find 44 = .ok (.getfield 28, 3) := by decide +kernel
theorem dX6_find_47 : decode cX6_find 47 = .ok (.iload_n 2, 1) := by decide +kernel
theorem dX6_find_48 : decode cX6_find 48 = .ok (.iconst 1, 1) := by decide +kernel
theorem dX6_find_49 : decode cX6_find 49 = .ok (.isub, 1) := by decide +kernel
theorem dX6_find_50 : decode cX6_find 50 = .ok (.iaload, 1) := by decide +kernel
theorem dX6_find_51 : decode cX6_find 51 = .ok (.iaload, 1) := by decide +kernel
theorem dX6_find_52 : decode cX6_find 52 = .ok (.istore 4, 2) := by decide +kernel
theorem dX6_find_54 : decode cX6_find 54 = .ok (.iload_n 3, 1) := by decide +kernel
theorem dX6_find_55 : decode cX6_find 55 = .ok (.aload_n 0, 1) := by decide +kernel
theorem dX6_find_56 : decode cX6_find 56 = .ok (.getfield 67, 3) := by decide +kernel
theorem dX6_find_59 : decode cX6_find 59 = .ok (.if_icmp .ne 18, 3) := by decide +kernel
theorem dX6_find_62 : decode cX6_find 62 = .ok (.iinc 2 (-1), 3) := by decide +kernel
theorem dX6_find_65 : decode cX6_find 65 = .ok (.aload_n 0, 1) := by decide +kernel
theorem dX6_find_66 : decode cX6_find 66 = .ok (.getfield 28, 3) := by decide +kernel
theorem dX6_find_69 : decode cX6_find 69 = .ok (.iload_n 2, 1) := by decide +kernel
theorem dX6_find_70 : decode cX6_find 70 = .ok (.iaload, 1) := by decide +kernel
theorem dX6_find_71 : decode cX6_find 71 = .ok (.iconst 1, 1) := by decide +kernel
theorem dX6_find_72 : decode cX6_find 72 = .ok (.iadd, 1) := by decide +kernel
theorem dX6_find_73 : decode cX6_find 73 = .ok (.istore_n 3, 1) := by decide +kernel
theorem dX6_find_74 : decode cX6_find 74 = .ok (.goto 63, 3) := by decide +kernel
theorem dX6_find_77 : decode cX6_find 77 = .ok (.aload_n 0, 1) := by decide +kernel
theorem dX6_find_78 : decode cX6_find 78 = .ok (.iload_n 3, 1) := by decide +kernel
theorem dX6_find_79 : decode cX6_find 79 = .ok (.iload_n 2, 1) := by decide +kernel
theorem dX6_find_80 : decode cX6_find 80 = .ok (.iload 4, 2) := by decide +kernel
theorem dX6_find_82 : decode cX6_find 82 = .ok (.iload_n 1, 1) := by decide +kernel
theorem dX6_find_83 : decode cX6_find 83 = .ok (.invokevirtual 102, 3) := by decide +kernel
theorem dX6_find_86 : decode cX6_find 86 = .ok (.ifCond .ne 9, 3) := by decide +kernel
theorem dX6_find_89 : decode cX6_find 89 = .ok (.iinc 3 1, 3) := by decide +kernel
theorem dX6_find_92 : decode cX6_find 92 = .ok (.goto 45, 3) := by decide +kernel
theorem dX6_find_95 : decode cX6_find 95 = .ok (.aload_n 0, 1) := by decide +kernel
theorem dX6_find_96 : decode cX6_find 96 = .ok (.getfield 16, 3) := by decide +kernel
theorem dX6_find_99 : decode cX6_find 99 = .ok (.iload_n 3, 1) := by decide +kernel
theorem dX6_find_100 : decode cX6_find 100 = .ok (.iaload, 1) := by decide +kernel
theorem dX6_find_101 : decode cX6_find 101 = .ok (.iload_n 1, 1) := by decide +kernel
theorem dX6_find_102 : decode cX6_find 102 = .ok (.if_icmp .ne 23, 3) := by decide +kernel
theorem dX6_find_105 : decode cX6_find 105 = .ok (.aload_n 0, 1) := by decide +kernel
theorem dX6_find_106 : decode cX6_find 106 = .ok (.getfield 28, 3) := by decide +kernel
theorem dX6_find_109 : decode cX6_find 109 = .ok (.iload_n 2, 1) := by decide +kernel
theorem dX6_find_110 : decode cX6_find 110 = .ok (.iload_n 3, 1) := by decide +kernel
theorem dX6_find_111 : decode cX6_find 111 = .ok (.iastore, 1) := by decide +kernel
theorem dX6_find_112 : decode cX6_find 112 = .ok (.aload_n 0, 1) := by decide +kernel
theorem dX6_find_113 : decode cX6_find 113 = .ok (.iload_n 2, 1) := by decide +kernel
theorem dX6_find_114 : decode cX6_find 114 = .ok (.iconst 1, 1) := by decide +kernel
theorem dX6_find_115 : decode cX6_find 115 = .ok (.iadd, 1) := by decide +kernel
theorem dX6_find_116 : decode cX6_find 116 = .ok (.invokevirtual 106, 3) := by decide +kernel
theorem dX6_find_119 : decode cX6_find 119 = .ok (.iinc 3 1, 3) := by decide +kernel
theorem dX6_find_122 : decode cX6_find 122 = .ok (.goto 15, 3) := by decide +kernel
theorem dX6_find_125 : decode cX6_find 125 = .ok (.aload_n 0, 1) := by decide +kernel
theorem dX6_find_126 : decode cX6_find 126 = .ok (.getfield 28, 3) := by decide +kernel
theorem dX6_find_129 : decode cX6_find 129 = .ok (.iload_n 2, 1) := by decide +kernel
theorem dX6_find_130 : decode cX6_find 130 = .ok (.iload_n 3, 1) := by decide +kernel
theorem dX6_find_131 : decode cX6_find 131 = .ok (.iastore, 1) := by decide +kernel
theorem dX6_find_132 : decode cX6_find 132 = .ok (.iinc 2 1, 3) := by decide +kernel
theorem dX6_find_135 : decode cX6_find 135 = .ok (.iconst 0, 1) := by decide +kernel
theorem dX6_find_136 : decode cX6_find 136 = .ok (.istore_n 3, 1) := by decide +kernel
theorem dX6_find_137 : decode cX6_find 137 = .ok (.goto (-118), 3) := by decide +kernel
theorem dX6_find_140 : decode cX6_find 140 = .ok (.iinc 1 1, 3) := by decide +kernel
theorem dX6_find_143 : decode cX6_find 143 = .ok (.goto (-136), 3) := by decide +kernel
theorem dX6_find_146 : decode cX6_find 146 = .ok (.return_, 1) := by decide +kernel
theorem dX6_cardsOf_0 : decode cX6_cardsOf 0 = .ok (.iconst 0, 1) := by decide +kernel
theorem dX6_cardsOf_1 : decode cX6_cardsOf 1 = .ok (.istore_n 2, 1) := by decide +kernel
theorem dX6_cardsOf_2 : decode cX6_cardsOf 2 = .ok (.iconst 0, 1) := by decide +kernel
theorem dX6_cardsOf_3 : decode cX6_cardsOf 3 = .ok (.istore_n 3, 1) := by decide +kernel
theorem dX6_cardsOf_4 : decode cX6_cardsOf 4 = .ok (.iload_n 3, 1) := by decide +kernel
theorem dX6_cardsOf_5 : decode cX6_cardsOf 5 = .ok (.aload_n 0, 1) := by decide +kernel
theorem dX6_cardsOf_6 : decode cX6_cardsOf 6 = .ok (.getfield 25, 3) := by decide +kernel
theorem dX6_cardsOf_9 : decode cX6_cardsOf 9 = .ok (.iload_n 1, 1) := by decide +kernel
theorem dX6_cardsOf_10 : decode cX6_cardsOf 10 = .ok (.iaload, 1) := by decide +kernel
theorem dX6_cardsOf_11 : decode cX6_cardsOf 11 = .ok (.if_icmp .ge 28, 3) := by decide +kernel
theorem dX6_cardsOf_14 : decode cX6_cardsOf 14 = .ok (.iload_n 2, 1) := by decide +kernel
theorem dX6_cardsOf_15 : decode cX6_cardsOf 15 = .ok (.aload_n 0, 1) := by decide +kernel
theorem dX6_cardsOf_16 : decode cX6_cardsOf 16 = .ok (.getfield 19, 3) := by decide +kernel
theorem dX6_cardsOf_19 : decode cX6_cardsOf 19 = .ok (.aload_n 0, 1) := by decide +kernel
theorem dX6_cardsOf_20 : decode cX6_cardsOf 20 = .ok (.getfield 22, 3) := by decide +kernel
theorem dX6_cardsOf_23 : decode cX6_cardsOf 23 = .ok (.bipush 8, 2) := by decide +kernel
theorem dX6_cardsOf_25 : decode cX6_cardsOf 25 = .ok (.iload_n 1, 1) := by decide +kernel
theorem dX6_cardsOf_26 : decode cX6_cardsOf 26 = .ok (.imul, 1) := by decide +kernel
theorem dX6_cardsOf_27 : decode cX6_cardsOf 27 = .ok (.iload_n 3, 1) := by decide +kernel
theorem dX6_cardsOf_28 : decode cX6_cardsOf 28 = .ok (.iadd, 1) := by decide +kernel
theorem dX6_cardsOf_29 : decode cX6_cardsOf 29 = .ok (.iaload, 1) := by decide +kernel
theorem dX6_cardsOf_30 : decode cX6_cardsOf 30 = .ok (.iaload, 1) := by decide +kernel
theorem dX6_cardsOf_31 : decode cX6_cardsOf 31 = .ok (.iadd, 1) := by decide +kernel
theorem dX6_cardsOf_32 : decode cX6_cardsOf 32 = .ok (.istore_n 2, 1) := by decide +kernel
theorem dX6_cardsOf_33 : decode cX6_cardsOf 33 = .ok (.iinc 3 1, 3) := by decide +kernel
theorem dX6_cardsOf_36 : decode cX6_cardsOf 36 = .ok (.goto (-32), 3) := by decide +kernel
theorem dX6_cardsOf_39 : decode cX6_cardsOf 39 = .ok (.iload_n 2, 1) := by decide +kernel
theorem dX6_cardsOf_40 : decode cX6_cardsOf 40 = .ok (.ireturn, 1) := by decide +kernel
theorem dX6_timeOf_0 : decode cX6_timeOf 0 = .ok (.iconst 0, 1) := by decide +kernel
theorem dX6_timeOf_1 : decode cX6_timeOf 1 = .ok (.istore_n 2, 1) := by decide +kernel
theorem dX6_timeOf_2 : decode cX6_timeOf 2 = .ok (.iconst 0, 1) := by decide +kernel
theorem dX6_timeOf_3 : decode cX6_timeOf 3 = .ok (.istore_n 3, 1) := by decide +kernel
theorem dX6_timeOf_4 : decode cX6_timeOf 4 = .ok (.iload_n 3, 1) := by decide +kernel
theorem dX6_timeOf_5 : decode cX6_timeOf 5 = .ok (.aload_n 0, 1) := by decide +kernel
theorem dX6_timeOf_6 : decode cX6_timeOf 6 = .ok (.getfield 25, 3) := by decide +kernel
theorem dX6_timeOf_9 : decode cX6_timeOf 9 = .ok (.iload_n 1, 1) := by decide +kernel
theorem dX6_timeOf_10 : decode cX6_timeOf 10 = .ok (.iaload, 1) := by decide +kernel
theorem dX6_timeOf_11 : decode cX6_timeOf 11 = .ok (.if_icmp .ge 33, 3) := by decide +kernel
theorem dX6_timeOf_14 : decode cX6_timeOf 14 = .ok (.iload_n 2, 1) := by decide +kernel
theorem dX6_timeOf_15 : decode cX6_timeOf 15 = .ok (.aload_n 0, 1) := by decide +kernel
theorem dX6_timeOf_16 : decode cX6_timeOf 16 = .ok (.getfield 7, 3) := by decide +kernel
theorem dX6_timeOf_19 : decode cX6_timeOf 19 = .ok (.aload_n 0, 1) := by decide +kernel
theorem dX6_timeOf_20 : decode cX6_timeOf 20 = .ok (.getfield 13, 3) := by decide +kernel
theorem dX6_timeOf_23 : decode cX6_timeOf 23 = .ok (.aload_n 0, 1) := by decide +kernel
theorem dX6_timeOf_24 : decode cX6_timeOf 24 = .ok (.getfield 22, 3) := by decide +kernel
theorem dX6_timeOf_27 : decode cX6_timeOf 27 = .ok (.bipush 8, 2) := by decide +kernel
theorem dX6_timeOf_29 : decode cX6_timeOf 29 = .ok (.iload_n 1, 1) := by decide +kernel
theorem dX6_timeOf_30 : decode cX6_timeOf 30 = .ok (.imul, 1) := by decide +kernel
theorem dX6_timeOf_31 : decode cX6_timeOf 31 = .ok (.iload_n 3, 1) := by decide +kernel
theorem dX6_timeOf_32 : decode cX6_timeOf 32 = .ok (.iadd, 1) := by decide +kernel
theorem dX6_timeOf_33 : decode cX6_timeOf 33 = .ok (.iaload, 1) := by decide +kernel
theorem dX6_timeOf_34 : decode cX6_timeOf 34 = .ok (.iaload, 1) := by decide +kernel
theorem dX6_timeOf_35 : decode cX6_timeOf 35 = .ok (.iaload, 1) := by decide +kernel
theorem dX6_timeOf_36 : decode cX6_timeOf 36 = .ok (.iadd, 1) := by decide +kernel
theorem dX6_timeOf_37 : decode cX6_timeOf 37 = .ok (.istore_n 2, 1) := by decide +kernel
theorem dX6_timeOf_38 : decode cX6_timeOf 38 = .ok (.iinc 3 1, 3) := by decide +kernel
theorem dX6_timeOf_41 : decode cX6_timeOf 41 = .ok (.goto (-37), 3) := by decide +kernel
theorem dX6_timeOf_44 : decode cX6_timeOf 44 = .ok (.iload_n 2, 1) := by decide +kernel
theorem dX6_timeOf_45 : decode cX6_timeOf 45 = .ok (.ireturn, 1) := by decide +kernel
theorem dX6_loops_0 : decode cX6_loops 0 = .ok (.aload_n 0, 1) := by decide +kernel
theorem dX6_loops_1 : decode cX6_loops 1 = .ok (.invokevirtual 109, 3) := by decide +kernel
theorem dX6_loops_4 : decode cX6_loops 4 = .ok (.aload_n 0, 1) := by decide +kernel
theorem dX6_loops_5 : decode cX6_loops 5 = .ok (.getfield 99, 3) := by decide +kernel
theorem dX6_loops_8 : decode cX6_loops 8 = .ok (.ireturn, 1) := by decide +kernel
theorem dX6_loop_0 : decode cX6_loop 0 = .ok (.aload_n 0, 1) := by decide +kernel
theorem dX6_loop_1 : decode cX6_loop 1 = .ok (.invokevirtual 109, 3) := by decide +kernel
theorem dX6_loop_4 : decode cX6_loop 4 = .ok (.iload_n 1, 1) := by decide +kernel
theorem dX6_loop_5 : decode cX6_loop 5 = .ok (.i2l, 1) := by decide +kernel
theorem dX6_loop_6 : decode cX6_loop 6 = .ok (.lconst 0, 1) := by decide +kernel
theorem dX6_loop_7 : decode cX6_loop 7 = .ok (.aload_n 0, 1) := by decide +kernel
theorem dX6_loop_8 : decode cX6_loop 8 = .ok (.getfield 99, 3) := by decide +kernel
theorem dX6_loop_11 : decode cX6_loop 11 = .ok (.iconst 1, 1) := by decide +kernel
theorem dX6_loop_12 : decode cX6_loop 12 = .ok (.isub, 1) := by decide +kernel
theorem dX6_loop_13 : decode cX6_loop 13 = .ok (.i2l, 1) := by decide +kernel
theorem dX6_loop_14 : decode cX6_loop 14 = .ok (.invokestatic 63, 3) := by decide +kernel
theorem dX6_loop_17 : decode cX6_loop 17 = .ok (.ifCond .ne 5, 3) := by decide +kernel
theorem dX6_loop_20 : decode cX6_loop 20 = .ok (.iconst (-1), 1) := by decide +kernel
theorem dX6_loop_21 : decode cX6_loop 21 = .ok (.ireturn, 1) := by decide +kernel
theorem dX6_loop_22 : decode cX6_loop 22 = .ok (.iload_n 2, 1) := by decide +kernel
theorem dX6_loop_23 : decode cX6_loop 23 = .ok (.i2l, 1) := by decide +kernel
theorem dX6_loop_24 : decode cX6_loop 24 = .ok (.lconst 0, 1) := by decide +kernel
theorem dX6_loop_25 : decode cX6_loop 25 = .ok (.aload_n 0, 1) := by decide +kernel
theorem dX6_loop_26 : decode cX6_loop 26 = .ok (.getfield 25, 3) := by decide +kernel
theorem dX6_loop_29 : decode cX6_loop 29 = .ok (.iload_n 1, 1) := by decide +kernel
theorem dX6_loop_30 : decode cX6_loop 30 = .ok (.iaload, 1) := by decide +kernel
theorem dX6_loop_31 : decode cX6_loop 31 = .ok (.iconst 1, 1) := by decide +kernel
theorem dX6_loop_32 : decode cX6_loop 32 = .ok (.isub, 1) := by decide +kernel
theorem dX6_loop_33 : decode cX6_loop 33 = .ok (.i2l, 1) := by decide +kernel
theorem dX6_loop_34 : decode cX6_loop 34 = .ok (.invokestatic 63, 3) := by decide +kernel
theorem dX6_loop_37 : decode cX6_loop 37 = .ok (.ifCond .eq 17, 3) := by decide +kernel
theorem dX6_loop_40 : decode cX6_loop 40 = .ok (.aload_n 0, 1) := by decide +kernel
theorem dX6_loop_41 : decode cX6_loop 41 = .ok (.getfield 22, 3) := by decide +kernel
theorem dX6_loop_44 : decode cX6_loop 44 = .ok (.bipush 8, 2) := by decide +kernel
theorem dX6_loop_46 : decode cX6_loop 46 = .ok (.iload_n 1, 1) := by decide +kernel
theorem dX6_loop_47 : decode cX6_loop 47 = .ok (.imul, 1) := by decide +kernel
theorem dX6_loop_48 : decode cX6_loop 48 = .ok (.iload_n 2, 1) := by decide +kernel
theorem dX6_loop_49 : decode cX6_loop 49 = .ok (.iadd, 1) := by decide +kernel
theorem dX6_loop_50 : decode cX6_loop 50 = .ok (.iaload, 1) := by decide +kernel
theorem dX6_loop_51 : decode cX6_loop 51 = .ok (.goto 5, 3) := by decide +kernel
theorem dX6_loop_54 : decode cX6_loop 54 = .ok (.bipush (-9), 2) := by decide +kernel
theorem dX6_loop_56 : decode cX6_loop 56 = .ok (.ireturn, 1) := by decide +kernel
theorem dX6_sum_0 : decode cX6_sum 0 = .ok (.aload_n 0, 1) := by decide +kernel
theorem dX6_sum_1 : decode cX6_sum 1 = .ok (.invokevirtual 109, 3) := by decide +kernel
theorem dX6_sum_4 : decode cX6_sum 4 = .ok (.iload_n 1, 1) := by decide +kernel
theorem dX6_sum_5 : decode cX6_sum 5 = .ok (.i2l, 1) := by decide +kernel
theorem dX6_sum_6 : decode cX6_sum 6 = .ok (.lconst 0, 1) := by decide +kernel
theorem dX6_sum_7 : decode cX6_sum 7 = .ok (.aload_n 0, 1) := by decide +kernel
theorem dX6_sum_8 : decode cX6_sum 8 = .ok (.getfield 99, 3) := by decide +kernel
theorem dX6_sum_11 : decode cX6_sum 11 = .ok (.iconst 1, 1) := by decide +kernel
theorem dX6_sum_12 : decode cX6_sum 12 = .ok (.isub, 1) := by decide +kernel
theorem dX6_sum_13 : decode cX6_sum 13 = .ok (.i2l, 1) := by decide +kernel
theorem dX6_sum_14 : decode cX6_sum 14 = .ok (.invokestatic 63, 3) := by decide +kernel
theorem dX6_sum_17 : decode cX6_sum 17 = .ok (.ifCond .ne 5, 3) := by decide +kernel
theorem dX6_sum_20 : decode cX6_sum 20 = .ok (.iconst (-1), 1) := by decide +kernel
theorem dX6_sum_21 : decode cX6_sum 21 = .ok (.ireturn, 1) := by decide +kernel
theorem dX6_sum_22 : decode cX6_sum 22 = .ok (.iload_n 2, 1) := by decide +kernel
theorem dX6_sum_23 : decode cX6_sum 23 = .ok (.ifCond .eq 11, 3) := by decide +kernel
theorem dX6_sum_26 : decode cX6_sum 26 = .ok (.aload_n 0, 1) := by decide +kernel
theorem dX6_sum_27 : decode cX6_sum 27 = .ok (.iload_n 1, 1) := by decide +kernel
theorem dX6_sum_28 : decode cX6_sum 28 = .ok (.invokevirtual 112, 3) := by decide +kernel
theorem dX6_sum_31 : decode cX6_sum 31 = .ok (.goto 8, 3) := by decide +kernel
theorem dX6_sum_34 : decode cX6_sum 34 = .ok (.aload_n 0, 1) := by decide +kernel
theorem dX6_sum_35 : decode cX6_sum 35 = .ok (.iload_n 1, 1) := by decide +kernel
theorem dX6_sum_36 : decode cX6_sum 36 = .ok (.invokevirtual 116, 3) := by decide +kernel
theorem dX6_sum_39 : decode cX6_sum 39 = .ok (.ireturn, 1) := by decide +kernel
theorem dX6_slow_0 : decode cX6_slow 0 = .ok (.bipush (-9), 2) := by decide +kernel
theorem dX6_slow_2 : decode cX6_slow 2 = .ok (.istore_n 1, 1) := by decide +kernel
theorem dX6_slow_3 : decode cX6_slow 3 = .ok (.iconst 0, 1) := by decide +kernel
theorem dX6_slow_4 : decode cX6_slow 4 = .ok (.istore_n 2, 1) := by decide +kernel
theorem dX6_slow_5 : decode cX6_slow 5 = .ok (.iload_n 2, 1) := by decide +kernel
theorem dX6_slow_6 : decode cX6_slow 6 = .ok (.aload_n 0, 1) := by decide +kernel
theorem dX6_slow_7 : decode cX6_slow 7 = .ok (.getfield 99, 3) := by decide +kernel
theorem dX6_slow_10 : decode cX6_slow 10 = .ok (.if_icmp .ge 56, 3) := by decide +kernel
theorem dX6_slow_13 : decode cX6_slow 13 = .ok (.aload_n 0, 1) := by decide +kernel
theorem dX6_slow_14 : decode cX6_slow 14 = .ok (.iload_n 2, 1) := by decide +kernel
theorem dX6_slow_15 : decode cX6_slow 15 = .ok (.invokevirtual 112, 3) := by decide +kernel
theorem dX6_slow_18 : decode cX6_slow 18 = .ok (.ifCond .ne 5, 3) := by decide +kernel
theorem dX6_slow_21 : decode cX6_slow 21 = .ok (.iload_n 2, 1) := by decide +kernel
theorem dX6_slow_22 : decode cX6_slow 22 = .ok (.ireturn, 1) := by decide +kernel
theorem dX6_slow_23 : decode cX6_slow 23 = .ok (.iload_n 1, 1) := by decide +kernel
theorem dX6_slow_24 : decode cX6_slow 24 = .ok (.bipush (-9), 2) := by decide +kernel
theorem dX6_slow_26 : decode cX6_slow 26 = .ok (.if_icmp .eq 28, 3) := by decide +kernel
theorem dX6_slow_29 : decode cX6_slow 29 = .ok (.aload_n 0, 1) := by decide +kernel
theorem dX6_slow_30 : decode cX6_slow 30 = .ok (.iload_n 2, 1) := by decide +kernel
theorem dX6_slow_31 : decode cX6_slow 31 = .ok (.invokevirtual 116, 3) := by decide +kernel
theorem dX6_slow_34 : decode cX6_slow 34 = .ok (.aload_n 0, 1) := by decide +kernel
theorem dX6_slow_35 : decode cX6_slow 35 = .ok (.iload_n 1, 1) := by decide +kernel
theorem dX6_slow_36 : decode cX6_slow 36 = .ok (.invokevirtual 112, 3) := by decide +kernel
theorem dX6_slow_39 : decode cX6_slow 39 = .ok (.imul, 1) := by decide +kernel
theorem dX6_slow_40 : decode cX6_slow 40 = .ok (.aload_n 0, 1) := by decide +kernel
theorem dX6_slow_41 : decode cX6_slow 41 = .ok (.iload_n 1, 1) := by decide +kernel
theorem dX6_slow_42 : decode cX6_slow 42 = .ok (.invokevirtual 116, 3) := by decide +kernel
theorem dX6_slow_45 : decode cX6_slow 45 = .ok (.aload_n 0, 1) := by decide +kernel
theorem dX6_slow_46 : decode cX6_slow 46 = .ok (.iload_n 2, 1) := by decide +kernel
theorem dX6_slow_47 : decode cX6_slow 47 = .ok (.invokevirtual 112, 3) := by decide +kernel
theorem dX6_slow_50 : decode cX6_slow 50 = .ok (.imul, 1) := by decide +kernel
theorem dX6_slow_51 : decode cX6_slow 51 = .ok (.if_icmp .le 7, 3) := by decide +kernel
theorem dX6_slow_54 : decode cX6_slow 54 = .ok (.iload_n 2, 1) := by decide +kernel
theorem dX6_slow_55 : decode cX6_slow 55 = .ok (.goto 4, 3) := by decide +kernel
theorem dX6_slow_58 : decode cX6_slow 58 = .ok (.iload_n 1, 1) := by decide +kernel
theorem dX6_slow_59 : decode cX6_slow 59 = .ok (.istore_n 1, 1) := by decide +kernel
theorem dX6_slow_60 : decode cX6_slow 60 = .ok (.iinc 2 1, 3) := by decide +kernel
theorem dX6_slow_63 : decode cX6_slow 63 = .ok (.goto (-58), 3) := by decide +kernel
theorem dX6_slow_66 : decode cX6_slow 66 = .ok (.iload_n 1, 1) := by decide +kernel
theorem dX6_slow_67 : decode cX6_slow 67 = .ok (.ireturn, 1) := by decide +kernel
theorem dX6_common_0 : decode cX6_common 0 = .ok (.lload_n 0, 1) := by decide +kernel
theorem dX6_common_1 : decode cX6_common 1 = .ok (.lstore 4, 2) := by decide +kernel
theorem dX6_common_3 : decode cX6_common 3 = .ok (.lload_n 2, 1) := by decide +kernel
theorem dX6_common_4 : decode cX6_common 4 = .ok (.lstore 6, 2) := by decide +kernel
theorem dX6_common_6 : decode cX6_common 6 = .ok (.lload 6, 2) := by decide +kernel
theorem dX6_common_8 : decode cX6_common 8 = .ok (.lconst 0, 1) := by decide +kernel
theorem dX6_common_9 : decode cX6_common 9 = .ok (.lcmp, 1) := by decide +kernel
theorem dX6_common_10 : decode cX6_common 10 = .ok (.ifCond .eq 21, 3) := by decide +kernel
theorem dX6_common_13 : decode cX6_common 13 = .ok (.lload 4, 2) := by decide +kernel
theorem dX6_common_15 : decode cX6_common 15 = .ok (.lload 6, 2) := by decide +kernel
theorem dX6_common_17 : decode cX6_common 17 = .ok (.lrem, 1) := by decide +kernel
theorem dX6_common_18 : decode cX6_common 18 = .ok (.lstore 8, 2) := by decide +kernel
theorem dX6_common_20 : decode cX6_common 20 = .ok (.lload 6, 2) := by decide +kernel
theorem dX6_common_22 : decode cX6_common 22 = .ok (.lstore 4, 2) := by decide +kernel
theorem dX6_common_24 : decode cX6_common 24 = .ok (.lload 8, 2) := by decide +kernel
theorem dX6_common_26 : decode cX6_common 26 = .ok (.lstore 6, 2) := by decide +kernel
theorem dX6_common_28 : decode cX6_common 28 = .ok (.goto (-22), 3) := by decide +kernel
theorem dX6_common_31 : decode cX6_common 31 = .ok (.lload 4, 2) := by decide +kernel
theorem dX6_common_33 : decode cX6_common 33 = .ok (.lreturn, 1) := by decide +kernel
theorem dX6_fraction_0 : decode cX6_fraction 0 = .ok (.lload_n 0, 1) := by decide +kernel
theorem dX6_fraction_1 : decode cX6_fraction 1 = .ok (.lload_n 2, 1) := by decide +kernel
theorem dX6_fraction_2 : decode cX6_fraction 2 = .ok (.invokestatic 119, 3) := by decide +kernel
theorem dX6_fraction_5 : decode cX6_fraction 5 = .ok (.lstore 5, 2) := by decide +kernel
theorem dX6_fraction_7 : decode cX6_fraction 7 = .ok (.iload 4, 2) := by decide +kernel
theorem dX6_fraction_9 : decode cX6_fraction 9 = .ok (.ifCond .eq 10, 3) := by decide +kernel
theorem dX6_fraction_12 : decode cX6_fraction 12 = .ok (.lload_n 0, 1) := by decide +kernel
theorem dX6_fraction_13 : decode cX6_fraction 13 = .ok (.lload 5, 2) := by decide +kernel
theorem dX6_fraction_15 : decode cX6_fraction 15 = .ok (.ldiv, 1) := by decide +kernel
theorem dX6_fraction_16 : decode cX6_fraction 16 = .ok (.goto 7, 3) := by decide +kernel
theorem dX6_fraction_19 : decode cX6_fraction 19 = .ok (.lload_n 2, 1) := by decide +kernel
theorem dX6_fraction_20 : decode cX6_fraction 20 = .ok (.lload 5, 2) := by decide +kernel
theorem dX6_fraction_22 : decode cX6_fraction 22 = .ok (.ldiv, 1) := by decide +kernel
theorem dX6_fraction_23 : decode cX6_fraction 23 = .ok (.lreturn, 1) := by decide +kernel
theorem dX6_pace_0 : decode cX6_pace 0 = .ok (.aload_n 0, 1) := by decide +kernel
theorem dX6_pace_1 : decode cX6_pace 1 = .ok (.invokevirtual 109, 3) := by decide +kernel
theorem dX6_pace_4 : decode cX6_pace 4 = .ok (.aload_n 0, 1) := by decide +kernel
theorem dX6_pace_5 : decode cX6_pace 5 = .ok (.invokevirtual 123, 3) := by decide +kernel
theorem dX6_pace_8 : decode cX6_pace 8 = .ok (.istore_n 2, 1) := by decide +kernel
theorem dX6_pace_9 : decode cX6_pace 9 = .ok (.iload_n 2, 1) := by decide +kernel
theorem dX6_pace_10 : decode cX6_pace 10 = .ok (.bipush (-9), 2) := by decide +kernel
theorem dX6_pace_12 : decode cX6_pace 12 = .ok (.if_icmp .eq 11, 3) := by decide +kernel
theorem dX6_pace_15 : decode cX6_pace 15 = .ok (.aload_n 0, 1) := by decide +kernel
theorem dX6_pace_16 : decode cX6_pace 16 = .ok (.iload_n 2, 1) := by decide +kernel
theorem dX6_pace_17 : decode cX6_pace 17 = .ok (.invokevirtual 112, 3) := by decide +kernel
theorem dX6_pace_20 : decode cX6_pace 20 = .ok (.ifCond .ne 9, 3) := by decide +kernel
theorem dX6_pace_23 : decode cX6_pace 23 = .ok (.ldc2_w 126, 3) := by decide +kernel
theorem dX6_pace_26 : decode cX6_pace 26 = .ok (.goto 19, 3) := by decide +kernel
theorem dX6_pace_29 : decode cX6_pace 29 = .ok (.aload_n 0, 1) := by decide +kernel
theorem dX6_pace_30 : decode cX6_pace 30 = .ok (.iload_n 2, 1) := by decide +kernel
theorem dX6_pace_31 : decode cX6_pace 31 = .ok (.invokevirtual 116, 3) := by decide +kernel
theorem dX6_pace_34 : decode cX6_pace 34 = .ok (.i2l, 1) := by decide +kernel
theorem dX6_pace_35 : decode cX6_pace 35 = .ok (.aload_n 0, 1) := by decide +kernel
theorem dX6_pace_36 : decode cX6_pace 36 = .ok (.iload_n 2, 1) := by decide +kernel
theorem dX6_pace_37 : decode cX6_pace 37 = .ok (.invokevirtual 112, 3) := by decide +kernel
theorem dX6_pace_40 : decode cX6_pace 40 = .ok (.i2l, 1) := by decide +kernel
theorem dX6_pace_41 : decode cX6_pace 41 = .ok (.iload_n 1, 1) := by decide +kernel
theorem dX6_pace_42 : decode cX6_pace 42 = .ok (.invokestatic 128, 3) := by decide +kernel
theorem dX6_pace_45 : decode cX6_pace 45 = .ok (.lreturn, 1) := by decide +kernel
theorem dX6_slowest_0 : decode cX6_slowest 0 = .ok (.aload_n 0, 1) := by decide +kernel
theorem dX6_slowest_1 : decode cX6_slowest 1 = .ok (.invokevirtual 109, 3) := by decide +kernel
theorem dX6_slowest_4 : decode cX6_slowest 4 = .ok (.aload_n 0, 1) := by decide +kernel
theorem dX6_slowest_5 : decode cX6_slowest 5 = .ok (.invokevirtual 123, 3) := by decide +kernel
theorem dX6_slowest_8 : decode cX6_slowest 8 = .ok (.ireturn, 1) := by decide +kernel
theorem dX6_beginOf_0 : decode cX6_beginOf 0 = .ok (.iconst 0, 1) := by decide +kernel
theorem dX6_beginOf_1 : decode cX6_beginOf 1 = .ok (.istore_n 3, 1) := by decide +kernel
theorem dX6_beginOf_2 : decode cX6_beginOf 2 = .ok (.iconst 0, 1) := by decide +kernel
theorem dX6_beginOf_3 : decode cX6_beginOf 3 = .ok (.istore 4, 2) := by decide +kernel
theorem dX6_beginOf_5 : decode cX6_beginOf 5 = .ok (.iconst 0, 1) := by decide +kernel
theorem dX6_beginOf_6 : decode cX6_beginOf 6 = .ok (.istore 5, 2) := by decide +kernel
theorem dX6_beginOf_8 : decode cX6_beginOf 8 = .ok (.iconst 0, 1) := by decide +kernel
theorem dX6_beginOf_9 : decode cX6_beginOf 9 = .ok (.istore 6, 2) := by decide +kernel
theorem dX6_beginOf_11 : decode cX6_beginOf 11 = .ok (.iload 6, 2) := by decide +kernel
theorem dX6_beginOf_13 : decode cX6_beginOf 13 = .ok (.aload_n 0, 1) := by decide +kernel
theorem dX6_beginOf_14 : decode cX6_beginOf 14 = .ok (.getfield 67, 3) := by decide +kernel
theorem dX6_beginOf_17 : decode cX6_beginOf 17 = .ok (.if_icmp .ge 140, 3) := by decide +kernel
theorem dX6_beginOf_20 : decode cX6_beginOf 20 = .ok (.aload_n 0, 1) := by decide +kernel
theorem dX6_beginOf_21 : decode cX6_beginOf 21 = .ok (.getfield 16, 3) := by decide +kernel
theorem dX6_beginOf_24 : decode cX6_beginOf 24 = .ok (.iload 6, 2) := by decide +kernel
theorem dX6_beginOf_26 : decode cX6_beginOf 26 = .ok (.iaload, 1) := by decide +kernel
theorem dX6_beginOf_27 : decode cX6_beginOf 27 = .ok (.iload_n 1, 1) := by decide +kernel
theorem dX6_beginOf_28 : decode cX6_beginOf 28 = .ok (.if_icmp .ne 123, 3) := by decide +kernel
theorem dX6_beginOf_31 : decode cX6_beginOf 31 = .ok (.aload_n 0, 1) := by decide +kernel
theorem dX6_beginOf_32 : decode cX6_beginOf 32 = .ok (.getfield 19, 3) := by decide +kernel
theorem dX6_beginOf_35 : decode cX6_beginOf 35 = .ok (.iload 6, 2) := by decide +kernel
theorem dX6_beginOf_37 : decode cX6_beginOf 37 = .ok (.iaload, 1) := by decide +kernel
theorem dX6_beginOf_38 : decode cX6_beginOf 38 = .ok (.iload_n 2, 1) := by decide +kernel
theorem dX6_beginOf_39 : decode cX6_beginOf 39 = .ok (.if_icmp .gt 112, 3) := by decide +kernel
theorem dX6_beginOf_42 : decode cX6_beginOf 42 = .ok (.aload_n 0, 1) := by decide +kernel
theorem dX6_beginOf_43 : decode cX6_beginOf 43 = .ok (.getfield 31, 3) := by decide +kernel
theorem dX6_beginOf_46 : decode cX6_beginOf 46 = .ok (.bipush 61, 2) := by decide +kernel
theorem dX6_beginOf_48 : decode cX6_beginOf 48 = .ok (.aload_n 0, 1) := by decide +kernel
theorem dX6_beginOf_49 : decode cX6_beginOf 49 = .ok (.getfield 13, 3) := by decide +kernel
theorem dX6_beginOf_52 : decode cX6_beginOf 52 = .ok (.iload 6, 2) := by decide +kernel
theorem dX6_beginOf_54 : decode cX6_beginOf 54 = .ok (.iaload, 1) := by decide +kernel
theorem dX6_beginOf_55 : decode cX6_beginOf 55 = .ok (.imul, 1) := by decide +kernel
theorem dX6_beginOf_56 : decode cX6_beginOf 56 = .ok (.iload_n 2, 1) := by decide +kernel
theorem dX6_beginOf_57 : decode cX6_beginOf 57 = .ok (.iadd, 1) := by decide +kernel
theorem dX6_beginOf_58 : decode cX6_beginOf 58 = .ok (.aload_n 0, 1) := by decide +kernel
theorem dX6_beginOf_59 : decode cX6_beginOf 59 = .ok (.getfield 19, 3) := by decide +kernel
theorem dX6_beginOf_62 : decode cX6_beginOf 62 = .ok (.iload 6, 2) := by decide +kernel
theorem dX6_beginOf_64 : decode cX6_beginOf 64 = .ok (.iaload, 1) := by decide +kernel
theorem dX6_beginOf_65 : decode cX6_beginOf 65 = .ok (.isub, 1) := by decide +kernel
theorem dX6_beginOf_66 : decode cX6_beginOf 66 = .ok (.iaload, 1) := by decide +kernel
theorem dX6_beginOf_67 : decode cX6_beginOf 67 = .ok (.istore 7, 2) := by decide +kernel
theorem dX6_beginOf_69 : decode cX6_beginOf 69 = .ok (.iload 4, 2) := by decide +kernel
theorem dX6_beginOf_71 : decode cX6_beginOf 71 = .ok (.ifCond .ne 10, 3) := by decide +kernel
theorem dX6_beginOf_74 : decode cX6_beginOf 74 = .ok (.iload 7, 2) := by decide +kernel
theorem dX6_beginOf_76 : decode cX6_beginOf 76 = .ok (.bipush (-2), 2) := by decide +kernel
theorem dX6_beginOf_78 : decode cX6_beginOf 78 = .ok (.if_icmp .ne 7, 3) := by decide +kernel
theorem dX6_beginOf_81 : decode cX6_beginOf 81 = .ok (.iconst 1, 1) := by decide +kernel
theorem dX6_beginOf_82 : decode cX6_beginOf 82 = .ok (.goto 4, 3) := by decide +kernel
theorem dX6_beginOf_85 : decode cX6_beginOf 85 = .ok (.iconst 0, 1) := by decide +kernel
theorem dX6_beginOf_86 : decode cX6_beginOf 86 = .ok (.istore 4, 2) := by decide +kernel
theorem dX6_beginOf_88 : decode cX6_beginOf 88 = .ok (.iload 5, 2) := by decide +kernel
theorem dX6_beginOf_90 : decode cX6_beginOf 90 = .ok (.ifCond .ne 10, 3) := by decide +kernel
theorem dX6_beginOf_93 : decode cX6_beginOf 93 = .ok (.iload 7, 2) := by decide +kernel
theorem dX6_beginOf_95 : decode cX6_beginOf 95 = .ok (.bipush (-9), 2) := by decide +kernel
theorem dX6_beginOf_97 : decode cX6_beginOf 97 = .ok (.if_icmp .ne 7, 3) := by decide +kernel
theorem dX6_beginOf_100 : decode cX6_beginOf 100 = .ok (.iconst 1, 1) := by decide +kernel
theorem dX6_beginOf_101 : decode cX6_beginOf 101 = .ok (.goto 4, 3) := by decide +kernel
theorem dX6_beginOf_104 : decode cX6_beginOf 104 = .ok (.iconst 0, 1) := by decide +kernel
theorem dX6_beginOf_105 : decode cX6_beginOf 105 = .ok (.istore 5, 2) := by decide +kernel
theorem dX6_beginOf_107 : decode cX6_beginOf 107 = .ok (.iload 7, 2) := by decide +kernel
theorem dX6_beginOf_109 : decode cX6_beginOf 109 = .ok (.ifCond .lt 40, 3) := by decide +kernel
theorem dX6_beginOf_112 : decode cX6_beginOf 112 = .ok (.iload 7, 2) := by decide +kernel
theorem dX6_beginOf_114 : decode cX6_beginOf 114 = .ok (.aload_n 0, 1) := by decide +kernel
theorem dX6_beginOf_115 : decode cX6_beginOf 115 = .ok (.getfield 7, 3) := by decide +kernel
theorem dX6_beginOf_118 : decode cX6_beginOf 118 = .ok (.aload_n 0, 1) := by decide +kernel
theorem dX6_beginOf_119 : decode cX6_beginOf 119 = .ok (.getfield 13, 3) := by decide +kernel
theorem dX6_beginOf_122 : decode cX6_beginOf 122 = .ok (.iload 6, 2) := by decide +kernel
theorem dX6_beginOf_124 : decode cX6_beginOf 124 = .ok (.iaload, 1) := by decide +kernel
theorem dX6_beginOf_125 : decode cX6_beginOf 125 = .ok (.iaload, 1) := by decide +kernel
theorem dX6_beginOf_126 : decode cX6_beginOf 126 = .ok (.iadd, 1) := by decide +kernel
theorem dX6_beginOf_127 : decode cX6_beginOf 127 = .ok (.iload_n 3, 1) := by decide +kernel
theorem dX6_beginOf_128 : decode cX6_beginOf 128 = .ok (.if_icmp .le 21, 3) := by decide +kernel
theorem dX6_beginOf_131 : decode cX6_beginOf 131 = .ok (.iload 7, 2) := by decide +kernel
theorem dX6_beginOf_133 : decode cX6_beginOf 133 = .ok (.aload_n 0, 1) := by decide +kernel
theorem dX6_beginOf_134 : decode cX6_beginOf 134 = .ok (.getfield 7, 3) := by decide +kernel
theorem dX6_beginOf_137 : decode cX6_beginOf 137 = .ok (.aload_n 0, 1) := by decide +kernel
theorem dX6_beginOf_138 : decode cX6_beginOf 138 = .ok (.getfield 13, 3) := by decide +kernel
theorem dX6_beginOf_141 : decode cX6_beginOf 141 = .ok (.iload 6, 2) := by decide +kernel
theorem dX6_beginOf_143 : decode cX6_beginOf 143 = .ok (.iaload, 1) := by decide +kernel
theorem dX6_beginOf_144 : decode cX6_beginOf 144 = .ok (.iaload, 1) := by decide +kernel
theorem dX6_beginOf_145 : decode cX6_beginOf 145 = .ok (.iadd, 1) := by decide +kernel
theorem dX6_beginOf_146 : decode cX6_beginOf 146 = .ok (.goto 4, 3) := by decide +kernel
theorem dX6_beginOf_149 : decode cX6_beginOf 149 = .ok (.iload_n 3, 1) := by decide +kernel
theorem dX6_beginOf_150 : decode cX6_beginOf 150 = .ok (.istore_n 3, 1) := by decide +kernel
theorem dX6_beginOf_151 : decode cX6_beginOf 151 = .ok (.iinc 6 1, 3) := by decide +kernel
theorem dX6_beginOf_154 : decode cX6_beginOf 154 = .ok (.goto (-143), 3) := by decide +kernel
theorem dX6_beginOf_157 : decode cX6_beginOf 157 = .ok (.iload 5, 2) := by decide +kernel
theorem dX6_beginOf_159 : decode cX6_beginOf 159 = .ok (.ifCond .eq 8, 3) := by decide +kernel
theorem dX6_beginOf_162 : decode cX6_beginOf 162 = .ok (.bipush (-9), 2) := by decide +kernel
theorem dX6_beginOf_164 : decode cX6_beginOf 164 = .ok (.goto 14, 3) := by decide +kernel
theorem dX6_beginOf_167 : decode cX6_beginOf 167 = .ok (.iload 4, 2) := by decide +kernel
theorem dX6_beginOf_169 : decode cX6_beginOf 169 = .ok (.ifCond .eq 8, 3) := by decide +kernel
theorem dX6_beginOf_172 : decode cX6_beginOf 172 = .ok (.bipush (-2), 2) := by decide +kernel
theorem dX6_beginOf_174 : decode cX6_beginOf 174 = .ok (.goto 4, 3) := by decide +kernel
theorem dX6_beginOf_177 : decode cX6_beginOf 177 = .ok (.iload_n 3, 1) := by decide +kernel
theorem dX6_beginOf_178 : decode cX6_beginOf 178 = .ok (.ireturn, 1) := by decide +kernel
theorem dX6_begins_0 : decode cX6_begins 0 = .ok (.aload_n 0, 1) := by decide +kernel
theorem dX6_begins_1 : decode cX6_begins 1 = .ok (.iload_n 1, 1) := by decide +kernel
theorem dX6_begins_2 : decode cX6_begins 2 = .ok (.invokevirtual 76, 3) := by decide +kernel
theorem dX6_begins_5 : decode cX6_begins 5 = .ok (.ifCond .ne 5, 3) := by decide +kernel
theorem dX6_begins_8 : decode cX6_begins 8 = .ok (.iconst (-1), 1) := by decide +kernel
theorem dX6_begins_9 : decode cX6_begins 9 = .ok (.ireturn, 1) := by decide +kernel
theorem dX6_begins_10 : decode cX6_begins 10 = .ok (.iload_n 2, 1) := by decide +kernel
theorem dX6_begins_11 : decode cX6_begins 11 = .ok (.i2l, 1) := by decide +kernel
theorem dX6_begins_12 : decode cX6_begins 12 = .ok (.lconst 0, 1) := by decide +kernel
theorem dX6_begins_13 : decode cX6_begins 13 = .ok (.ldc2_w 132, 3) := by decide +kernel
theorem dX6_begins_16 : decode cX6_begins 16 = .ok (.invokestatic 63, 3) := by decide +kernel
theorem dX6_begins_19 : decode cX6_begins 19 = .ok (.ifCond .ne 6, 3) := by decide +kernel
theorem dX6_begins_22 : decode cX6_begins 22 = .ok (.bipush (-2), 2) := by decide +kernel
theorem dX6_begins_24 : decode cX6_begins 24 = .ok (.ireturn, 1) := by decide +kernel
theorem dX6_begins_25 : decode cX6_begins 25 = .ok (.iconst 0, 1) := by decide +kernel
theorem dX6_begins_26 : decode cX6_begins 26 = .ok (.istore_n 3, 1) := by decide +kernel
theorem dX6_begins_27 : decode cX6_begins 27 = .ok (.iload_n 3, 1) := by decide +kernel
theorem dX6_begins_28 : decode cX6_begins 28 = .ok (.iload_n 2, 1) := by decide +kernel
theorem dX6_begins_29 : decode cX6_begins 29 = .ok (.if_icmp .gt 192, 3) := by decide +kernel
theorem dX6_begins_32 : decode cX6_begins 32 = .ok (.iconst 0, 1) := by decide +kernel
theorem dX6_begins_33 : decode cX6_begins 33 = .ok (.istore 4, 2) := by decide +kernel
theorem dX6_begins_35 : decode cX6_begins 35 = .ok (.iload 4, 2) := by decide +kernel
theorem dX6_begins_37 : decode cX6_begins 37 = .ok (.aload_n 0, 1) := by decide +kernel
theorem dX6_begins_38 : decode cX6_begins 38 = .ok (.getfield 59, 3) := by decide +kernel
theorem dX6_begins_41 : decode cX6_begins 41 = .ok (.if_icmp .ge 23, 3) := by decide +kernel
theorem dX6_begins_44 : decode cX6_begins 44 = .ok (.aload_n 0, 1) := by decide +kernel
theorem dX6_begins_45 : decode cX6_begins 45 = .ok (.getfield 31, 3) := by decide +kernel
theorem dX6_begins_48 : decode cX6_begins 48 = .ok (.bipush 61, 2) := by decide +kernel
theorem dX6_begins_50 : decode cX6_begins 50 = .ok (.iload 4, 2) := by decide +kernel
theorem dX6_begins_52 : decode cX6_begins 52 = .ok (.imul, 1) := by decide +kernel
theorem dX6_begins_53 : decode cX6_begins 53 = .ok (.iload_n 3, 1) := by decide +kernel
theorem dX6_begins_54 : decode cX6_begins 54 = .ok (.iadd, 1) := by decide +kernel
theorem dX6_begins_55 : decode cX6_begins 55 = .ok (.bipush (-2), 2) := by decide +kernel
theorem dX6_begins_57 : decode cX6_begins 57 = .ok (.iastore, 1) := by decide +kernel
theorem dX6_begins_58 : decode cX6_begins 58 = .ok (.iinc 4 1, 3) := by decide +kernel
theorem dX6_begins_61 : decode cX6_begins 61 = .ok (.goto (-26), 3) := by decide +kernel
theorem dX6_begins_64 : decode cX6_begins 64 = .ok (.iconst 0, 1) := by decide +kernel
theorem dX6_begins_65 : decode cX6_begins 65 = .ok (.istore 4, 2) := by decide +kernel
theorem dX6_begins_67 : decode cX6_begins 67 = .ok (.iload 4, 2) := by decide +kernel
theorem dX6_begins_69 : decode cX6_begins 69 = .ok (.aload_n 0, 1) := by decide +kernel
theorem dX6_begins_70 : decode cX6_begins 70 = .ok (.getfield 59, 3) := by decide +kernel
theorem dX6_begins_73 : decode cX6_begins 73 = .ok (.if_icmp .ge 78, 3) := by decide +kernel
theorem dX6_begins_76 : decode cX6_begins 76 = .ok (.iconst 0, 1) := by decide +kernel
theorem dX6_begins_77 : decode cX6_begins 77 = .ok (.istore 5, 2) := by decide +kernel
theorem dX6_begins_79 : decode cX6_begins 79 = .ok (.iload 5, 2) := by decide +kernel
theorem dX6_begins_81 : decode cX6_begins 81 = .ok (.aload_n 0, 1) := by decide +kernel
theorem dX6_begins_82 : decode cX6_begins 82 = .ok (.getfield 59, 3) := by decide +kernel
theorem dX6_begins_85 : decode cX6_begins 85 = .ok (.if_icmp .ge 60, 3) := by decide +kernel
theorem dX6_begins_88 : decode cX6_begins 88 = .ok (.aload_n 0, 1) := by decide +kernel
theorem dX6_begins_89 : decode cX6_begins 89 = .ok (.getfield 31, 3) := by decide +kernel
theorem dX6_begins_92 : decode cX6_begins 92 = .ok (.bipush 61, 2) := by decide +kernel
theorem dX6_begins_94 : decode cX6_begins 94 = .ok (.iload 5, 2) := by decide +kernel
theorem dX6_begins_96 : decode cX6_begins 96 = .ok (.imul, 1) := by decide +kernel
theorem dX6_begins_97 : decode cX6_begins 97 = .ok (.iload_n 3, 1) := by decide +kernel
theorem dX6_begins_98 : decode cX6_begins 98 = .ok (.iadd, 1) := by decide +kernel
theorem dX6_begins_99 : decode cX6_begins 99 = .ok (.aload_n 0, 1) := by decide +kernel
theorem dX6_begins_100 : decode cX6_begins 100 = .ok (.getfield 31, 3) := by decide +kernel
theorem dX6_begins_103 : decode cX6_begins 103 = .ok (.bipush 61, 2) := by decide +kernel
theorem dX6_begins_105 : decode cX6_begins 105 = .ok (.iload 5, 2) := by decide +kernel
theorem dX6_begins_107 : decode cX6_begins 107 = .ok (.imul, 1) := by decide +kernel
theorem dX6_begins_108 : decode cX6_begins 108 = .ok (.iload_n 3, 1) := by decide +kernel
theorem dX6_begins_109 : decode cX6_begins 109 = .ok (.iadd, 1) := by decide +kernel
theorem dX6_begins_110 : decode cX6_begins 110 = .ok (.iaload, 1) := by decide +kernel
theorem dX6_begins_111 : decode cX6_begins 111 = .ok (.bipush (-2), 2) := by decide +kernel
theorem dX6_begins_113 : decode cX6_begins 113 = .ok (.if_icmp .ne 13, 3) := by decide +kernel
theorem dX6_begins_116 : decode cX6_begins 116 = .ok (.aload_n 0, 1) := by decide +kernel
theorem dX6_begins_117 : decode cX6_begins 117 = .ok (.iload 5, 2) := by decide +kernel
theorem dX6_begins_119 : decode cX6_begins 119 = .ok (.iload_n 3, 1) := by decide +kernel
theorem dX6_begins_120 : decode cX6_begins 120 = .ok (.invokevirtual 134, 3) := by decide +kernel
theorem dX6_begins_123 : decode cX6_begins 123 = .ok (.goto 15, 3) := by decide +kernel
theorem dX6_begins_126 : decode cX6_begins 126 = .ok (.aload_n 0, 1) := by decide +kernel
theorem dX6_begins_127 : decode cX6_begins 127 = .ok (.getfield 31, 3) := by decide +kernel
theorem dX6_begins_130 : decode cX6_begins 130 = .ok (.bipush 61, 2) := by decide +kernel
theorem dX6_begins_132 : decode cX6_begins 132 = .ok (.iload 5, 2) := by decide +kernel
theorem dX6_begins_134 : decode cX6_begins 134 = .ok (.imul, 1) := by decide +kernel
theorem dX6_begins_135 : decode cX6_begins 135 = .ok (.iload_n 3, 1) := by decide +kernel
theorem dX6_begins_136 : decode cX6_begins 136 = .ok (.iadd, 1) := by decide +kernel
theorem dX6_begins_137 : decode cX6_begins 137 = .ok (.iaload, 1) := by decide +kernel
theorem dX6_begins_138 : decode cX6_begins 138 = .ok (.iastore, 1) := by decide +kernel
theorem dX6_begins_139 : decode cX6_begins 139 = .ok (.iinc 5 1, 3) := by decide +kernel
theorem dX6_begins_142 : decode cX6_begins 142 = .ok (.goto (-63), 3) := by decide +kernel
theorem dX6_begins_145 : decode cX6_begins 145 = .ok (.iinc 4 1, 3) := by decide +kernel
theorem dX6_begins_148 : decode cX6_begins 148 = .ok (.goto (-81), 3) := by decide +kernel
theorem dX6_begins_151 : decode cX6_begins 151 = .ok (.iconst 0, 1) := by decide +kernel
theorem dX6_begins_152 : decode cX6_begins 152 = .ok (.istore 4, 2) := by decide +kernel
theorem dX6_begins_154 : decode cX6_begins 154 = .ok (.iload 4, 2) := by decide +kernel
theorem dX6_begins_156 : decode cX6_begins 156 = .ok (.aload_n 0, 1) := by decide +kernel
theorem dX6_begins_157 : decode cX6_begins 157 = .ok (.getfield 59, 3) := by decide +kernel
theorem dX6_begins_160 : decode cX6_begins 160 = .ok (.if_icmp .ge 55, 3) := by decide +kernel
theorem dX6_begins_163 : decode cX6_begins 163 = .ok (.aload_n 0, 1) := by decide +kernel
theorem dX6_begins_164 : decode cX6_begins 164 = .ok (.getfield 31, 3) := by decide +kernel
theorem dX6_begins_167 : decode cX6_begins 167 = .ok (.bipush 61, 2) := by decide +kernel
theorem dX6_begins_169 : decode cX6_begins 169 = .ok (.iload 4, 2) := by decide +kernel
theorem dX6_begins_171 : decode cX6_begins 171 = .ok (.imul, 1) := by decide +kernel
theorem dX6_begins_172 : decode cX6_begins 172 = .ok (.iload_n 3, 1) := by decide +kernel
theorem dX6_begins_173 : decode cX6_begins 173 = .ok (.iadd, 1) := by decide +kernel
theorem dX6_begins_174 : decode cX6_begins 174 = .ok (.aload_n 0, 1) := by decide +kernel
theorem dX6_begins_175 : decode cX6_begins 175 = .ok (.getfield 31, 3) := by decide +kernel
theorem dX6_begins_178 : decode cX6_begins 178 = .ok (.bipush 61, 2) := by decide +kernel
theorem dX6_begins_180 : decode cX6_begins 180 = .ok (.iload 4, 2) := by decide +kernel
theorem dX6_begins_182 : decode cX6_begins 182 = .ok (.imul, 1) := by decide +kernel
theorem dX6_begins_183 : decode cX6_begins 183 = .ok (.iload_n 3, 1) := by decide +kernel
theorem dX6_begins_184 : decode cX6_begins 184 = .ok (.iadd, 1) := by decide +kernel
theorem dX6_begins_185 : decode cX6_begins 185 = .ok (.iaload, 1) := by decide +kernel
theorem dX6_begins_186 : decode cX6_begins 186 = .ok (.bipush (-2), 2) := by decide +kernel
theorem dX6_begins_188 : decode cX6_begins 188 = .ok (.if_icmp .ne 8, 3) := by decide +kernel
theorem dX6_begins_191 : decode cX6_begins 191 = .ok (.bipush (-9), 2) := by decide +kernel
theorem dX6_begins_193 : decode cX6_begins 193 = .ok (.goto 15, 3) := by decide +kernel
theorem dX6_begins_196 : decode cX6_begins 196 = .ok (.aload_n 0, 1) := by decide +kernel
theorem dX6_begins_197 : decode cX6_begins 197 = .ok (.getfield 31, 3) := by decide +kernel
theorem dX6_begins_200 : decode cX6_begins 200 = .ok (.bipush 61, 2) := by decide +kernel
theorem dX6_begins_202 : decode cX6_begins 202 = .ok (.iload 4, 2) := by decide +kernel
theorem dX6_begins_204 : decode cX6_begins 204 = .ok (.imul, 1) := by decide +kernel
theorem dX6_begins_205 : decode cX6_begins 205 = .ok (.iload_n 3, 1) := by decide +kernel
theorem dX6_begins_206 : decode cX6_begins 206 = .ok (.iadd, 1) := by decide +kernel
theorem dX6_begins_207 : decode cX6_begins 207 = .ok (.iaload, 1) := by decide +kernel
theorem dX6_begins_208 : decode cX6_begins 208 = .ok (.iastore, 1) := by decide +kernel
theorem dX6_begins_209 : decode cX6_begins 209 = .ok (.iinc 4 1, 3) := by decide +kernel
theorem dX6_begins_212 : decode cX6_begins 212 = .ok (.goto (-58), 3) := by decide +kernel
theorem dX6_begins_215 : decode cX6_begins 215 = .ok (.iinc 3 1, 3) := by decide +kernel
theorem dX6_begins_218 : decode cX6_begins 218 = .ok (.goto (-191), 3) := by decide +kernel
theorem dX6_begins_221 : decode cX6_begins 221 = .ok (.aload_n 0, 1) := by decide +kernel
theorem dX6_begins_222 : decode cX6_begins 222 = .ok (.getfield 31, 3) := by decide +kernel
theorem dX6_begins_225 : decode cX6_begins 225 = .ok (.bipush 61, 2) := by decide +kernel
theorem dX6_begins_227 : decode cX6_begins 227 = .ok (.iload_n 1, 1) := by decide +kernel
theorem dX6_begins_228 : decode cX6_begins 228 = .ok (.imul, 1) := by decide +kernel
theorem dX6_begins_229 : decode cX6_begins 229 = .ok (.iload_n 2, 1) := by decide +kernel
theorem dX6_begins_230 : decode cX6_begins 230 = .ok (.iadd, 1) := by decide +kernel
theorem dX6_begins_231 : decode cX6_begins 231 = .ok (.iaload, 1) := by decide +kernel
theorem dX6_begins_232 : decode cX6_begins 232 = .ok (.ireturn, 1) := by decide +kernel
theorem dX6_note_0 : decode cX6_note 0 = .ok (.aload_n 0, 1) := by decide +kernel
theorem dX6_note_1 : decode cX6_note 1 = .ok (.invokevirtual 109, 3) := by decide +kernel
theorem dX6_note_4 : decode cX6_note 4 = .ok (.aload_n 0, 1) := by decide +kernel
theorem dX6_note_5 : decode cX6_note 5 = .ok (.iconst 1, 1) := by decide +kernel
theorem dX6_note_6 : decode cX6_note 6 = .ok (.putfield 72, 3) := by decide +kernel
theorem dX6_note_9 : decode cX6_note 9 = .ok (.aload_n 0, 1) := by decide +kernel
theorem dX6_note_10 : decode cX6_note 10 = .ok (.aload_n 0, 1) := by decide +kernel
theorem dX6_note_11 : decode cX6_note 11 = .ok (.getfield 99, 3) := by decide +kernel
theorem dX6_note_14 : decode cX6_note 14 = .ok (.putfield 138, 3) := by decide +kernel
theorem dX6_note_17 : decode cX6_note 17 = .ok (.iconst 0, 1) := by decide +kernel
theorem dX6_note_18 : decode cX6_note 18 = .ok (.istore_n 1, 1) := by decide +kernel
theorem dX6_note_19 : decode cX6_note 19 = .ok (.iload_n 1, 1) := by decide +kernel
theorem dX6_note_20 : decode cX6_note 20 = .ok (.aload_n 0, 1) := by decide +kernel
theorem dX6_note_21 : decode cX6_note 21 = .ok (.getfield 99, 3) := by decide +kernel
theorem dX6_note_24 : decode cX6_note 24 = .ok (.if_icmp .ge 20, 3) := by decide +kernel
theorem dX6_note_27 : decode cX6_note 27 = .ok (.aload_n 0, 1) := by decide +kernel
theorem dX6_note_28 : decode cX6_note 28 = .ok (.getfield 34, 3) := by decide +kernel
theorem dX6_note_31 : decode cX6_note 31 = .ok (.iload_n 1, 1) := by decide +kernel
theorem dX6_note_32 : decode cX6_note 32 = .ok (.aload_n 0, 1) := by decide +kernel
theorem dX6_note_33 : decode cX6_note 33 = .ok (.iload_n 1, 1) := by decide +kernel
theorem dX6_note_34 : decode cX6_note 34 = .ok (.invokevirtual 112, 3) := by decide +kernel
theorem dX6_note_37 : decode cX6_note 37 = .ok (.iastore, 1) := by decide +kernel
theorem dX6_note_38 : decode cX6_note 38 = .ok (.iinc 1 1, 3) := by decide +kernel
theorem dX6_note_41 : decode cX6_note 41 = .ok (.goto (-22), 3) := by decide +kernel
theorem dX6_note_44 : decode cX6_note 44 = .ok (.aload_n 0, 1) := by decide +kernel
theorem dX6_note_45 : decode cX6_note 45 = .ok (.getfield 99, 3) := by decide +kernel
theorem dX6_note_48 : decode cX6_note 48 = .ok (.ireturn, 1) := by decide +kernel
theorem dX6_audit_0 : decode cX6_audit 0 = .ok (.aload_n 0, 1) := by decide +kernel
theorem dX6_audit_1 : decode cX6_audit 1 = .ok (.getfield 72, 3) := by decide +kernel
theorem dX6_audit_4 : decode cX6_audit 4 = .ok (.ifCond .ne 6, 3) := by decide +kernel
theorem dX6_audit_7 : decode cX6_audit 7 = .ok (.bipush (-3), 2) := by decide +kernel
theorem dX6_audit_9 : decode cX6_audit 9 = .ok (.ireturn, 1) := by decide +kernel
theorem dX6_audit_10 : decode cX6_audit 10 = .ok (.aload_n 0, 1) := by decide +kernel
theorem dX6_audit_11 : decode cX6_audit 11 = .ok (.invokevirtual 109, 3) := by decide +kernel
theorem dX6_audit_14 : decode cX6_audit 14 = .ok (.iconst 0, 1) := by decide +kernel
theorem dX6_audit_15 : decode cX6_audit 15 = .ok (.istore_n 2, 1) := by decide +kernel
theorem dX6_audit_16 : decode cX6_audit 16 = .ok (.iconst 0, 1) := by decide +kernel
theorem dX6_audit_17 : decode cX6_audit 17 = .ok (.istore_n 3, 1) := by decide +kernel
theorem dX6_audit_18 : decode cX6_audit 18 = .ok (.iload_n 3, 1) := by decide +kernel
theorem dX6_audit_19 : decode cX6_audit 19 = .ok (.aload_n 0, 1) := by decide +kernel
theorem dX6_audit_20 : decode cX6_audit 20 = .ok (.getfield 138, 3) := by decide +kernel
theorem dX6_audit_23 : decode cX6_audit 23 = .ok (.if_icmp .ge 58, 3) := by decide +kernel
theorem dX6_audit_26 : decode cX6_audit 26 = .ok (.aload_n 0, 1) := by decide +kernel
theorem dX6_audit_27 : decode cX6_audit 27 = .ok (.iload_n 3, 1) := by decide +kernel
theorem dX6_audit_28 : decode cX6_audit 28 = .ok (.invokevirtual 112, 3) := by decide +kernel
theorem dX6_audit_31 : decode cX6_audit 31 = .ok (.istore 4, 2) := by decide +kernel
theorem dX6_audit_33 : decode cX6_audit 33 = .ok (.iload_n 2, 1) := by decide +kernel
theorem dX6_audit_34 : decode cX6_audit 34 = .ok (.iload_n 1, 1) := by decide +kernel
theorem dX6_audit_35 : decode cX6_audit 35 = .ok (.ifCond .eq 22, 3) := by decide +kernel
theorem dX6_audit_38 : decode cX6_audit 38 = .ok (.iload 4, 2) := by decide +kernel
theorem dX6_audit_40 : decode cX6_audit 40 = .ok (.aload_n 0, 1) := by decide +kernel
theorem dX6_audit_41 : decode cX6_audit 41 = .ok (.getfield 34, 3) := by decide +kernel
theorem dX6_audit_44 : decode cX6_audit 44 = .ok (.iload_n 3, 1) := by decide +kernel
theorem dX6_audit_45 : decode cX6_audit 45 = .ok (.iaload, 1) := by decide +kernel
theorem dX6_audit_46 : decode cX6_audit 46 = .ok (.if_icmp .ge 7, 3) := by decide +kernel
theorem dX6_audit_49 : decode cX6_audit 49 = .ok (.iconst 1, 1) := by decide +kernel
theorem dX6_audit_50 : decode cX6_audit 50 = .ok (.goto 23, 3) := by decide +kernel
theorem dX6_audit_53 : decode cX6_audit 53 = .ok (.iconst 0, 1) := by decide +kernel
theorem dX6_audit_54 : decode cX6_audit 54 = .ok (.goto 19, 3) := by decide +kernel
theorem dX6_audit_57 : decode cX6_audit 57 = .ok (.iload 4, 2) := by decide +kernel
theorem dX6_audit_59 : decode cX6_audit 59 = .ok (.aload_n 0, 1) := by decide +kernel
theorem dX6_audit_60 : decode cX6_audit 60 = .ok (.getfield 34, 3) := by decide +kernel
theorem dX6_audit_63 : decode cX6_audit 63 = .ok (.iload_n 3, 1) := by decide +kernel
theorem dX6_audit_64 : decode cX6_audit 64 = .ok (.iaload, 1) := by decide +kernel
theorem dX6_audit_65 : decode cX6_audit 65 = .ok (.if_icmp .le 7, 3) := by decide +kernel
theorem dX6_audit_68 : decode cX6_audit 68 = .ok (.iconst 1, 1) := by decide +kernel
theorem dX6_audit_69 : decode cX6_audit 69 = .ok (.goto 4, 3) := by decide +kernel
theorem dX6_audit_72 : decode cX6_audit 72 = .ok (.iconst 0, 1) := by decide +kernel
theorem dX6_audit_73 : decode cX6_audit 73 = .ok (.iadd, 1) := by decide +kernel
theorem dX6_audit_74 : decode cX6_audit 74 = .ok (.istore_n 2, 1) := by decide +kernel
theorem dX6_audit_75 : decode cX6_audit 75 = .ok (.iinc 3 1, 3) := by decide +kernel
theorem dX6_audit_78 : decode cX6_audit 78 = .ok (.goto (-60), 3) := by decide +kernel
theorem dX6_audit_81 : decode cX6_audit 81 = .ok (.iload_n 2, 1) := by decide +kernel
theorem dX6_audit_82 : decode cX6_audit 82 = .ok (.ireturn, 1) := by decide +kernel
theorem dX6_isFast_0 : decode cX6_isFast 0 = .ok (.iconst 1, 1) := by decide +kernel
theorem dX6_isFast_1 : decode cX6_isFast 1 = .ok (.istore_n 3, 1) := by decide +kernel
theorem dX6_isFast_2 : decode cX6_isFast 2 = .ok (.iconst 0, 1) := by decide +kernel
theorem dX6_isFast_3 : decode cX6_isFast 3 = .ok (.istore 4, 2) := by decide +kernel
theorem dX6_isFast_5 : decode cX6_isFast 5 = .ok (.iload 4, 2) := by decide +kernel
theorem dX6_isFast_7 : decode cX6_isFast 7 = .ok (.aload_n 0, 1) := by decide +kernel
theorem dX6_isFast_8 : decode cX6_isFast 8 = .ok (.getfield 99, 3) := by decide +kernel
theorem dX6_isFast_11 : decode cX6_isFast 11 = .ok (.if_icmp .ge 47, 3) := by decide +kernel
theorem dX6_isFast_14 : decode cX6_isFast 14 = .ok (.iload_n 3, 1) := by decide +kernel
theorem dX6_isFast_15 : decode cX6_isFast 15 = .ok (.ifCond .eq 43, 3) := by decide +kernel
theorem dX6_isFast_18 : decode cX6_isFast 18 = .ok (.aload_n 0, 1) := by decide +kernel
theorem dX6_isFast_19 : decode cX6_isFast 19 = .ok (.iload 4, 2) := by decide +kernel
theorem dX6_isFast_21 : decode cX6_isFast 21 = .ok (.invokevirtual 112, 3) := by decide +kernel
theorem dX6_isFast_24 : decode cX6_isFast 24 = .ok (.istore 5, 2) := by decide +kernel
theorem dX6_isFast_26 : decode cX6_isFast 26 = .ok (.iload 5, 2) := by decide +kernel
theorem dX6_isFast_28 : decode cX6_isFast 28 = .ok (.ifCond .le 22, 3) := by decide +kernel
theorem dX6_isFast_31 : decode cX6_isFast 31 = .ok (.aload_n 0, 1) := by decide +kernel
theorem dX6_isFast_32 : decode cX6_isFast 32 = .ok (.iload 4, 2) := by decide +kernel
theorem dX6_isFast_34 : decode cX6_isFast 34 = .ok (.invokevirtual 116, 3) := by decide +kernel
theorem dX6_isFast_37 : decode cX6_isFast 37 = .ok (.iload_n 2, 1) := by decide +kernel
theorem dX6_isFast_38 : decode cX6_isFast 38 = .ok (.imul, 1) := by decide +kernel
theorem dX6_isFast_39 : decode cX6_isFast 39 = .ok (.iload_n 1, 1) := by decide +kernel
theorem dX6_isFast_40 : decode cX6_isFast 40 = .ok (.iload 5, 2) := by decide +kernel
theorem dX6_isFast_42 : decode cX6_isFast 42 = .ok (.imul, 1) := by decide +kernel
theorem dX6_isFast_43 : decode cX6_isFast 43 = .ok (.if_icmp .gt 7, 3) := by decide +kernel
theorem dX6_isFast_46 : decode cX6_isFast 46 = .ok (.iconst 1, 1) := by decide +kernel
theorem dX6_isFast_47 : decode cX6_isFast 47 = .ok (.goto 4, 3) := by decide +kernel
theorem dX6_isFast_50 : decode cX6_isFast 50 = .ok (.iconst 0, 1) := by decide +kernel
theorem dX6_isFast_51 : decode cX6_isFast 51 = .ok (.istore_n 3, 1) := by decide +kernel
theorem dX6_isFast_52 : decode cX6_isFast 52 = .ok (.iinc 4 1, 3) := by decide +kernel
theorem dX6_isFast_55 : decode cX6_isFast 55 = .ok (.goto (-50), 3) := by decide +kernel
theorem dX6_isFast_58 : decode cX6_isFast 58 = .ok (.iload_n 3, 1) := by decide +kernel
theorem dX6_isFast_59 : decode cX6_isFast 59 = .ok (.ireturn, 1) := by decide +kernel
theorem dX6_cards_0 : decode cX6_cards 0 = .ok (.aload_n 0, 1) := by decide +kernel
theorem dX6_cards_1 : decode cX6_cards 1 = .ok (.iload_n 1, 1) := by decide +kernel
theorem dX6_cards_2 : decode cX6_cards 2 = .ok (.invokevirtual 82, 3) := by decide +kernel
theorem dX6_cards_5 : decode cX6_cards 5 = .ok (.ifCond .ne 5, 3) := by decide +kernel
theorem dX6_cards_8 : decode cX6_cards 8 = .ok (.iconst (-1), 1) := by decide +kernel
theorem dX6_cards_9 : decode cX6_cards 9 = .ok (.ireturn, 1) := by decide +kernel
theorem dX6_cards_10 : decode cX6_cards 10 = .ok (.iload_n 2, 1) := by decide +kernel
theorem dX6_cards_11 : decode cX6_cards 11 = .ok (.i2l, 1) := by decide +kernel
theorem dX6_cards_12 : decode cX6_cards 12 = .ok (.lconst 1, 1) := by decide +kernel
theorem dX6_cards_13 : decode cX6_cards 13 = .ok (.ldc2_w 141, 3) := by decide +kernel
theorem dX6_cards_16 : decode cX6_cards 16 = .ok (.invokestatic 63, 3) := by decide +kernel
theorem dX6_cards_19 : decode cX6_cards 19 = .ok (.ifCond .eq 15, 3) := by decide +kernel
theorem dX6_cards_22 : decode cX6_cards 22 = .ok (.iload_n 3, 1) := by decide +kernel
theorem dX6_cards_23 : decode cX6_cards 23 = .ok (.i2l, 1) := by decide +kernel
theorem dX6_cards_24 : decode cX6_cards 24 = .ok (.lconst 1, 1) := by decide +kernel
theorem dX6_cards_25 : decode cX6_cards 25 = .ok (.ldc2_w 141, 3) := by decide +kernel
theorem dX6_cards_28 : decode cX6_cards 28 = .ok (.invokestatic 63, 3) := by decide +kernel
theorem dX6_cards_31 : decode cX6_cards 31 = .ok (.ifCond .ne 6, 3) := by decide +kernel
theorem dX6_cards_34 : decode cX6_cards 34 = .ok (.bipush (-2), 2) := by decide +kernel
theorem dX6_cards_36 : decode cX6_cards 36 = .ok (.ireturn, 1) := by decide +kernel
theorem dX6_cards_37 : decode cX6_cards 37 = .ok (.aload_n 0, 1) := by decide +kernel
theorem dX6_cards_38 : decode cX6_cards 38 = .ok (.invokevirtual 109, 3) := by decide +kernel
theorem dX6_cards_41 : decode cX6_cards 41 = .ok (.aload_n 0, 1) := by decide +kernel
theorem dX6_cards_42 : decode cX6_cards 42 = .ok (.getfield 19, 3) := by decide +kernel
theorem dX6_cards_45 : decode cX6_cards 45 = .ok (.iload_n 1, 1) := by decide +kernel
theorem dX6_cards_46 : decode cX6_cards 46 = .ok (.iaload, 1) := by decide +kernel
theorem dX6_cards_47 : decode cX6_cards 47 = .ok (.istore 4, 2) := by decide +kernel
theorem dX6_cards_49 : decode cX6_cards 49 = .ok (.bipush (-9), 2) := by decide +kernel
theorem dX6_cards_51 : decode cX6_cards 51 = .ok (.istore 5, 2) := by decide +kernel
theorem dX6_cards_53 : decode cX6_cards 53 = .ok (.iconst 0, 1) := by decide +kernel
theorem dX6_cards_54 : decode cX6_cards 54 = .ok (.istore 6, 2) := by decide +kernel
theorem dX6_cards_56 : decode cX6_cards 56 = .ok (.iload 4, 2) := by decide +kernel
theorem dX6_cards_58 : decode cX6_cards 58 = .ok (.iload 6, 2) := by decide +kernel
theorem dX6_cards_60 : decode cX6_cards 60 = .ok (.iadd, 1) := by decide +kernel
theorem dX6_cards_61 : decode cX6_cards 61 = .ok (.bipush 9, 2) := by decide +kernel
theorem dX6_cards_63 : decode cX6_cards 63 = .ok (.if_icmp .gt 45, 3) := by decide +kernel
theorem dX6_cards_66 : decode cX6_cards 66 = .ok (.iload 5, 2) := by decide +kernel
theorem dX6_cards_68 : decode cX6_cards 68 = .ok (.bipush (-9), 2) := by decide +kernel
theorem dX6_cards_70 : decode cX6_cards 70 = .ok (.if_icmp .ne 38, 3) := by decide +kernel
theorem dX6_cards_73 : decode cX6_cards 73 = .ok (.aload_n 0, 1) := by decide +kernel
theorem dX6_cards_74 : decode cX6_cards 74 = .ok (.getfield 19, 3) := by decide +kernel
theorem dX6_cards_77 : decode cX6_cards 77 = .ok (.iload_n 1, 1) := by decide +kernel
theorem dX6_cards_78 : decode cX6_cards 78 = .ok (.iload 4, 2) := by decide +kernel
theorem dX6_cards_80 : decode cX6_cards 80 = .ok (.iload 6, 2) := by decide +kernel
theorem dX6_cards_82 : decode cX6_cards 82 = .ok (.iadd, 1) := by decide +kernel
theorem dX6_cards_83 : decode cX6_cards 83 = .ok (.iastore, 1) := by decide +kernel
theorem dX6_cards_84 : decode cX6_cards 84 = .ok (.aload_n 0, 1) := by decide +kernel
theorem dX6_cards_85 : decode cX6_cards 85 = .ok (.iload_n 2, 1) := by decide +kernel
theorem dX6_cards_86 : decode cX6_cards 86 = .ok (.iload_n 3, 1) := by decide +kernel
theorem dX6_cards_87 : decode cX6_cards 87 = .ok (.invokevirtual 143, 3) := by decide +kernel
theorem dX6_cards_90 : decode cX6_cards 90 = .ok (.ifCond .eq 8, 3) := by decide +kernel
theorem dX6_cards_93 : decode cX6_cards 93 = .ok (.iload 6, 2) := by decide +kernel
theorem dX6_cards_95 : decode cX6_cards 95 = .ok (.goto 5, 3) := by decide +kernel
theorem dX6_cards_98 : decode cX6_cards 98 = .ok (.iload 5, 2) := by decide +kernel
theorem dX6_cards_100 : decode cX6_cards 100 = .ok (.istore 5, 2) := by decide +kernel
theorem dX6_cards_102 : decode cX6_cards 102 = .ok (.iinc 6 1, 3) := by decide +kernel
theorem dX6_cards_105 : decode cX6_cards 105 = .ok (.goto (-49), 3) := by decide +kernel
theorem dX6_cards_108 : decode cX6_cards 108 = .ok (.aload_n 0, 1) := by decide +kernel
theorem dX6_cards_109 : decode cX6_cards 109 = .ok (.getfield 19, 3) := by decide +kernel
theorem dX6_cards_112 : decode cX6_cards 112 = .ok (.iload_n 1, 1) := by decide +kernel
theorem dX6_cards_113 : decode cX6_cards 113 = .ok (.iload 4, 2) := by decide +kernel
theorem dX6_cards_115 : decode cX6_cards 115 = .ok (.iastore, 1) := by decide +kernel
theorem dX6_cards_116 : decode cX6_cards 116 = .ok (.iload 5, 2) := by decide +kernel
theorem dX6_cards_118 : decode cX6_cards 118 = .ok (.ireturn, 1) := by decide +kernel
theorem dX6_machine_0 : decode cX6_machine 0 = .ok (.iload_n 1, 1) := by decide +kernel
theorem dX6_machine_1 : decode cX6_machine 1 = .ok (.i2l, 1) := by decide +kernel
theorem dX6_machine_2 : decode cX6_machine 2 = .ok (.lconst 0, 1) := by decide +kernel
theorem dX6_machine_3 : decode cX6_machine 3 = .ok (.lconst 1, 1) := by decide +kernel
theorem dX6_machine_4 : decode cX6_machine 4 = .ok (.invokestatic 63, 3) := by decide +kernel
theorem dX6_machine_7 : decode cX6_machine 7 = .ok (.ifCond .ne 5, 3) := by decide +kernel
theorem dX6_machine_10 : decode cX6_machine 10 = .ok (.iconst (-1), 1) := by decide +kernel
theorem dX6_machine_11 : decode cX6_machine 11 = .ok (.ireturn, 1) := by decide +kernel
theorem dX6_machine_12 : decode cX6_machine 12 = .ok (.iload_n 2, 1) := by decide +kernel
theorem dX6_machine_13 : decode cX6_machine 13 = .ok (.i2l, 1) := by decide +kernel
theorem dX6_machine_14 : decode cX6_machine 14 = .ok (.lconst 0, 1) := by decide +kernel
theorem dX6_machine_15 : decode cX6_machine 15 = .ok (.ldc2_w 147, 3) := by decide +kernel
theorem dX6_machine_18 : decode cX6_machine 18 = .ok (.invokestatic 63, 3) := by decide +kernel
theorem dX6_machine_21 : decode cX6_machine 21 = .ok (.ifCond .eq 15, 3) := by decide +kernel
theorem dX6_machine_24 : decode cX6_machine 24 = .ok (.iload_n 3, 1) := by decide +kernel
theorem dX6_machine_25 : decode cX6_machine 25 = .ok (.i2l, 1) := by decide +kernel
theorem dX6_machine_26 : decode cX6_machine 26 = .ok (.lconst 0, 1) := by decide +kernel
theorem dX6_machine_27 : decode cX6_machine 27 = .ok (.ldc2_w 147, 3) := by decide +kernel
theorem dX6_machine_30 : decode cX6_machine 30 = .ok (.invokestatic 63, 3) := by decide +kernel
theorem dX6_machine_33 : decode cX6_machine 33 = .ok (.ifCond .ne 6, 3) := by decide +kernel
theorem dX6_machine_36 : decode cX6_machine 36 = .ok (.bipush (-2), 2) := by decide +kernel
theorem dX6_machine_38 : decode cX6_machine 38 = .ok (.ireturn, 1) := by decide +kernel
theorem dX6_machine_39 : decode cX6_machine 39 = .ok (.bipush 10, 2) := by decide +kernel
theorem dX6_machine_41 : decode cX6_machine 41 = .ok (.aload_n 0, 1) := by decide +kernel
theorem dX6_machine_42 : decode cX6_machine 42 = .ok (.getfield 37, 3) := by decide +kernel
theorem dX6_machine_45 : decode cX6_machine 45 = .ok (.iload_n 1, 1) := by decide +kernel
theorem dX6_machine_46 : decode cX6_machine 46 = .ok (.iaload, 1) := by decide +kernel
theorem dX6_machine_47 : decode cX6_machine 47 = .ok (.imul, 1) := by decide +kernel
theorem dX6_machine_48 : decode cX6_machine 48 = .ok (.aload_n 0, 1) := by decide +kernel
theorem dX6_machine_49 : decode cX6_machine 49 = .ok (.getfield 40, 3) := by decide +kernel
theorem dX6_machine_52 : decode cX6_machine 52 = .ok (.iload_n 1, 1) := by decide +kernel
theorem dX6_machine_53 : decode cX6_machine 53 = .ok (.iaload, 1) := by decide +kernel
theorem dX6_machine_54 : decode cX6_machine 54 = .ok (.iadd, 1) := by decide +kernel
theorem dX6_machine_55 : decode cX6_machine 55 = .ok (.istore 4, 2) := by decide +kernel
theorem dX6_machine_57 : decode cX6_machine 57 = .ok (.aload_n 0, 1) := by decide +kernel
theorem dX6_machine_58 : decode cX6_machine 58 = .ok (.getfield 37, 3) := by decide +kernel
theorem dX6_machine_61 : decode cX6_machine 61 = .ok (.iload_n 1, 1) := by decide +kernel
theorem dX6_machine_62 : decode cX6_machine 62 = .ok (.iload_n 2, 1) := by decide +kernel
theorem dX6_machine_63 : decode cX6_machine 63 = .ok (.iastore, 1) := by decide +kernel
theorem dX6_machine_64 : decode cX6_machine 64 = .ok (.aload_n 0, 1) := by decide +kernel
theorem dX6_machine_65 : decode cX6_machine 65 = .ok (.getfield 40, 3) := by decide +kernel
theorem dX6_machine_68 : decode cX6_machine 68 = .ok (.iload_n 1, 1) := by decide +kernel
theorem dX6_machine_69 : decode cX6_machine 69 = .ok (.iload_n 3, 1) := by decide +kernel
theorem dX6_machine_70 : decode cX6_machine 70 = .ok (.iastore, 1) := by decide +kernel
theorem dX6_machine_71 : decode cX6_machine 71 = .ok (.iload 4, 2) := by decide +kernel
theorem dX6_machine_73 : decode cX6_machine 73 = .ok (.ireturn, 1) := by decide +kernel
theorem dX6_store_0 : decode cX6_store 0 = .ok (.iload_n 1, 1) := by decide +kernel
theorem dX6_store_1 : decode cX6_store 1 = .ok (.i2l, 1) := by decide +kernel
theorem dX6_store_2 : decode cX6_store 2 = .ok (.lconst 0, 1) := by decide +kernel
theorem dX6_store_3 : decode cX6_store 3 = .ok (.ldc2_w 149, 3) := by decide +kernel
theorem dX6_store_6 : decode cX6_store 6 = .ok (.invokestatic 63, 3) := by decide +kernel
theorem dX6_store_9 : decode cX6_store 9 = .ok (.ifCond .ne 6, 3) := by decide +kernel
theorem dX6_store_12 : decode cX6_store 12 = .ok (.bipush (-2), 2) := by decide +kernel
theorem dX6_store_14 : decode cX6_store 14 = .ok (.ireturn, 1) := by decide +kernel
theorem dX6_store_15 : decode cX6_store 15 = .ok (.aload_n 0, 1) := by decide +kernel
theorem dX6_store_16 : decode cX6_store 16 = .ok (.getfield 151, 3) := by decide +kernel
theorem dX6_store_19 : decode cX6_store 19 = .ok (.istore_n 2, 1) := by decide +kernel
theorem dX6_store_20 : decode cX6_store 20 = .ok (.aload_n 0, 1) := by decide +kernel
theorem dX6_store_21 : decode cX6_store 21 = .ok (.iload_n 1, 1) := by decide +kernel
theorem dX6_store_22 : decode cX6_store 22 = .ok (.putfield 151, 3) := by decide +kernel
theorem dX6_store_25 : decode cX6_store 25 = .ok (.iload_n 2, 1) := by decide +kernel
theorem dX6_store_26 : decode cX6_store 26 = .ok (.ireturn, 1) := by decide +kernel
theorem dX6_upChance_0 : decode cX6_upChance 0 = .ok (.iload_n 2, 1) := by decide +kernel
theorem dX6_upChance_1 : decode cX6_upChance 1 = .ok (.ifCond .eq 14, 3) := by decide +kernel
theorem dX6_upChance_4 : decode cX6_upChance 4 = .ok (.iconst 4, 1) := by decide +kernel
theorem dX6_upChance_5 : decode cX6_upChance 5 = .ok (.aload_n 0, 1) := by decide +kernel
theorem dX6_upChance_6 : decode cX6_upChance 6 = .ok (.getfield 37, 3) := by decide +kernel
theorem dX6_upChance_9 : decode cX6_upChance 9 = .ok (.iload_n 1, 1) := by decide +kernel
theorem dX6_upChance_10 : decode cX6_upChance 10 = .ok (.iaload, 1) := by decide +kernel
theorem dX6_upChance_11 : decode cX6_upChance 11 = .ok (.isub, 1) := by decide +kernel
theorem dX6_upChance_12 : decode cX6_upChance 12 = .ok (.goto 9, 3) := by decide +kernel
theorem dX6_upChance_15 : decode cX6_upChance 15 = .ok (.aload_n 0, 1) := by decide +kernel
theorem dX6_upChance_16 : decode cX6_upChance 16 = .ok (.getfield 40, 3) := by decide +kernel
theorem dX6_upChance_19 : decode cX6_upChance 19 = .ok (.iload_n 1, 1) := by decide +kernel
theorem dX6_upChance_20 : decode cX6_upChance 20 = .ok (.iaload, 1) := by decide +kernel
theorem dX6_upChance_21 : decode cX6_upChance 21 = .ok (.ireturn, 1) := by decide +kernel
theorem dX6_move_0 : decode cX6_move 0 = .ok (.iload_n 3, 1) := by decide +kernel
theorem dX6_move_1 : decode cX6_move 1 = .ok (.iconst 1, 1) := by decide +kernel
theorem dX6_move_2 : decode cX6_move 2 = .ok (.if_icmp .le 7, 3) := by decide +kernel
theorem dX6_move_5 : decode cX6_move 5 = .ok (.iconst 1, 1) := by decide +kernel
theorem dX6_move_6 : decode cX6_move 6 = .ok (.goto 4, 3) := by decide +kernel
theorem dX6_move_9 : decode cX6_move 9 = .ok (.iconst 0, 1) := by decide +kernel
theorem dX6_move_10 : decode cX6_move 10 = .ok (.istore 4, 2) := by decide +kernel
theorem dX6_move_12 : decode cX6_move 12 = .ok (.iload_n 3, 1) := by decide +kernel
theorem dX6_move_13 : decode cX6_move 13 = .ok (.iconst 2, 1) := by decide +kernel
theorem dX6_move_14 : decode cX6_move 14 = .ok (.irem, 1) := by decide +kernel
theorem dX6_move_15 : decode cX6_move 15 = .ok (.iconst 1, 1) := by decide +kernel
theorem dX6_move_16 : decode cX6_move 16 = .ok (.if_icmp .ne 7, 3) := by decide +kernel
theorem dX6_move_19 : decode cX6_move 19 = .ok (.iconst 1, 1) := by decide +kernel
theorem dX6_move_20 : decode cX6_move 20 = .ok (.goto 4, 3) := by decide +kernel
theorem dX6_move_23 : decode cX6_move 23 = .ok (.iconst 0, 1) := by decide +kernel
theorem dX6_move_24 : decode cX6_move 24 = .ok (.istore 5, 2) := by decide +kernel
theorem dX6_move_26 : decode cX6_move 26 = .ok (.iload_n 1, 1) := by decide +kernel
theorem dX6_move_27 : decode cX6_move 27 = .ok (.bipush 77, 2) := by decide +kernel
theorem dX6_move_29 : decode cX6_move 29 = .ok (.idiv, 1) := by decide +kernel
theorem dX6_move_30 : decode cX6_move 30 = .ok (.iconst 1, 1) := by decide +kernel
theorem dX6_move_31 : decode cX6_move 31 = .ok (.if_icmp .le 7, 3) := by decide +kernel
theorem dX6_move_34 : decode cX6_move 34 = .ok (.iconst 1, 1) := by decide +kernel
theorem dX6_move_35 : decode cX6_move 35 = .ok (.goto 4, 3) := by decide +kernel
theorem dX6_move_38 : decode cX6_move 38 = .ok (.iconst 0, 1) := by decide +kernel
theorem dX6_move_39 : decode cX6_move 39 = .ok (.istore 6, 2) := by decide +kernel
theorem dX6_move_41 : decode cX6_move 41 = .ok (.iload_n 1, 1) := by decide +kernel
theorem dX6_move_42 : decode cX6_move 42 = .ok (.bipush 77, 2) := by decide +kernel
theorem dX6_move_44 : decode cX6_move 44 = .ok (.idiv, 1) := by decide +kernel
theorem dX6_move_45 : decode cX6_move 45 = .ok (.iconst 2, 1) := by decide +kernel
theorem dX6_move_46 : decode cX6_move 46 = .ok (.irem, 1) := by decide +kernel
theorem dX6_move_47 : decode cX6_move 47 = .ok (.iconst 1, 1) := by decide +kernel
theorem dX6_move_48 : decode cX6_move 48 = .ok (.if_icmp .ne 7, 3) := by decide +kernel
theorem dX6_move_51 : decode cX6_move 51 = .ok (.iconst 1, 1) := by decide +kernel
theorem dX6_move_52 : decode cX6_move 52 = .ok (.goto 4, 3) := by decide +kernel
theorem dX6_move_55 : decode cX6_move 55 = .ok (.iconst 0, 1) := by decide +kernel
theorem dX6_move_56 : decode cX6_move 56 = .ok (.istore 7, 2) := by decide +kernel
theorem dX6_move_58 : decode cX6_move 58 = .ok (.iload 4, 2) := by decide +kernel
theorem dX6_move_60 : decode cX6_move 60 = .ok (.ifCond .eq 13, 3) := by decide +kernel
theorem dX6_move_63 : decode cX6_move 63 = .ok (.aload_n 0, 1) := by decide +kernel
theorem dX6_move_64 : decode cX6_move 64 = .ok (.iconst 0, 1) := by decide +kernel
theorem dX6_move_65 : decode cX6_move 65 = .ok (.iload 6, 2) := by decide +kernel
theorem dX6_move_67 : decode cX6_move 67 = .ok (.invokevirtual 154, 3) := by decide +kernel
theorem dX6_move_70 : decode cX6_move 70 = .ok (.goto 12, 3) := by decide +kernel
theorem dX6_move_73 : decode cX6_move 73 = .ok (.iconst 4, 1) := by decide +kernel
theorem dX6_move_74 : decode cX6_move 74 = .ok (.aload_n 0, 1) := by decide +kernel
theorem dX6_move_75 : decode cX6_move 75 = .ok (.iconst 0, 1) := by decide +kernel
theorem dX6_move_76 : decode cX6_move 76 = .ok (.iload 6, 2) := by decide +kernel
theorem dX6_move_78 : decode cX6_move 78 = .ok (.invokevirtual 154, 3) := by decide +kernel
theorem dX6_move_81 : decode cX6_move 81 = .ok (.isub, 1) := by decide +kernel
theorem dX6_move_82 : decode cX6_move 82 = .ok (.istore 8, 2) := by decide +kernel
theorem dX6_move_84 : decode cX6_move 84 = .ok (.iload 5, 2) := by decide +kernel
theorem dX6_move_86 : decode cX6_move 86 = .ok (.ifCond .eq 13, 3) := by decide +kernel
theorem dX6_move_89 : decode cX6_move 89 = .ok (.aload_n 0, 1) := by decide +kernel
theorem dX6_move_90 : decode cX6_move 90 = .ok (.iconst 1, 1) := by decide +kernel
theorem dX6_move_91 : decode cX6_move 91 = .ok (.iload 7, 2) := by decide +kernel
theorem dX6_move_93 : decode cX6_move 93 = .ok (.invokevirtual 154, 3) := by decide +kernel
theorem dX6_move_96 : decode cX6_move 96 = .ok (.goto 12, 3) := by decide +kernel
theorem dX6_move_99 : decode cX6_move 99 = .ok (.iconst 4, 1) := by decide +kernel
theorem dX6_move_100 : decode cX6_move 100 = .ok (.aload_n 0, 1) := by decide +kernel
theorem dX6_move_101 : decode cX6_move 101 = .ok (.iconst 1, 1) := by decide +kernel
theorem dX6_move_102 : decode cX6_move 102 = .ok (.iload 7, 2) := by decide +kernel
theorem dX6_move_104 : decode cX6_move 104 = .ok (.invokevirtual 154, 3) := by decide +kernel
theorem dX6_move_107 : decode cX6_move 107 = .ok (.isub, 1) := by decide +kernel
theorem dX6_move_108 : decode cX6_move 108 = .ok (.istore 9, 2) := by decide +kernel
theorem dX6_move_110 : decode cX6_move 110 = .ok (.iload_n 1, 1) := by decide +kernel
theorem dX6_move_111 : decode cX6_move 111 = .ok (.bipush 77, 2) := by decide +kernel
theorem dX6_move_113 : decode cX6_move 113 = .ok (.irem, 1) := by decide +kernel
theorem dX6_move_114 : decode cX6_move 114 = .ok (.bipush 11, 2) := by decide +kernel
theorem dX6_move_116 : decode cX6_move 116 = .ok (.idiv, 1) := by decide +kernel
theorem dX6_move_117 : decode cX6_move 117 = .ok (.istore 10, 2) := by decide +kernel
theorem dX6_move_119 : decode cX6_move 119 = .ok (.iload_n 1, 1) := by decide +kernel
theorem dX6_move_120 : decode cX6_move 120 = .ok (.bipush 11, 2) := by decide +kernel
theorem dX6_move_122 : decode cX6_move 122 = .ok (.irem, 1) := by decide +kernel
theorem dX6_move_123 : decode cX6_move 123 = .ok (.istore 11, 2) := by decide +kernel
theorem dX6_move_125 : decode cX6_move 125 = .ok (.iload 5, 2) := by decide +kernel
theorem dX6_move_127 : decode cX6_move 127 = .ok (.ifCond .eq 34, 3) := by decide +kernel
theorem dX6_move_130 : decode cX6_move 130 = .ok (.iload 4, 2) := by decide +kernel
theorem dX6_move_132 : decode cX6_move 132 = .ok (.ifCond .ne 8, 3) := by decide +kernel
theorem dX6_move_135 : decode cX6_move 135 = .ok (.iload 10, 2) := by decide +kernel
theorem dX6_move_137 : decode cX6_move 137 = .ok (.ifCond .le 24, 3) := by decide +kernel
theorem dX6_move_140 : decode cX6_move 140 = .ok (.iinc 11 1, 3) := by decide +kernel
theorem dX6_move_143 : decode cX6_move 143 = .ok (.iload 10, 2) := by decide +kernel
theorem dX6_move_145 : decode cX6_move 145 = .ok (.iload 4, 2) := by decide +kernel
theorem dX6_move_147 : decode cX6_move 147 = .ok (.ifCond .eq 7, 3) := by decide +kernel
theorem dX6_move_150 : decode cX6_move 150 = .ok (.iconst 0, 1) := by decide +kernel
theorem dX6_move_151 : decode cX6_move 151 = .ok (.goto 4, 3) := by decide +kernel
theorem dX6_move_154 : decode cX6_move 154 = .ok (.iconst 1, 1) := by decide +kernel
theorem dX6_move_155 : decode cX6_move 155 = .ok (.isub, 1) := by decide +kernel
theorem dX6_move_156 : decode cX6_move 156 = .ok (.istore 10, 2) := by decide +kernel
theorem dX6_move_158 : decode cX6_move 158 = .ok (.goto 22, 3) := by decide +kernel
theorem dX6_move_161 : decode cX6_move 161 = .ok (.iload 4, 2) := by decide +kernel
theorem dX6_move_163 : decode cX6_move 163 = .ok (.ifCond .eq 17, 3) := by decide +kernel
theorem dX6_move_166 : decode cX6_move 166 = .ok (.iload 5, 2) := by decide +kernel
theorem dX6_move_168 : decode cX6_move 168 = .ok (.ifCond .ne 12, 3) := by decide +kernel
theorem dX6_move_171 : decode cX6_move 171 = .ok (.iload 10, 2) := by decide +kernel
theorem dX6_move_173 : decode cX6_move 173 = .ok (.iload_n 2, 1) := by decide +kernel
theorem dX6_move_174 : decode cX6_move 174 = .ok (.if_icmp .ge 6, 3) := by decide +kernel
theorem dX6_move_177 : decode cX6_move 177 = .ok (.iinc 10 1, 3) := by decide +kernel
theorem dX6_move_180 : decode cX6_move 180 = .ok (.aload_n 0, 1) := by decide +kernel
theorem dX6_move_181 : decode cX6_move 181 = .ok (.getfield 43, 3) := by decide +kernel
theorem dX6_move_184 : decode cX6_move 184 = .ok (.iload_n 1, 1) := by decide +kernel
theorem dX6_move_185 : decode cX6_move 185 = .ok (.laload, 1) := by decide +kernel
theorem dX6_move_186 : decode cX6_move 186 = .ok (.lconst 0, 1) := by decide +kernel
theorem dX6_move_187 : decode cX6_move 187 = .ok (.lcmp, 1) := by decide +kernel
theorem dX6_move_188 : decode cX6_move 188 = .ok (.ifCond .le 46, 3) := by decide +kernel
theorem dX6_move_191 : decode cX6_move 191 = .ok (.iload 8, 2) := by decide +kernel
theorem dX6_move_193 : decode cX6_move 193 = .ok (.iload 9, 2) := by decide +kernel
theorem dX6_move_195 : decode cX6_move 195 = .ok (.imul, 1) := by decide +kernel
theorem dX6_move_196 : decode cX6_move 196 = .ok (.ifCond .le 38, 3) := by decide +kernel
theorem dX6_move_199 : decode cX6_move 199 = .ok (.aload_n 0, 1) := by decide +kernel
theorem dX6_move_200 : decode cX6_move 200 = .ok (.getfield 47, 3) := by decide +kernel
theorem dX6_move_203 : decode cX6_move 203 = .ok (.bipush 77, 2) := by decide +kernel
theorem dX6_move_205 : decode cX6_move 205 = .ok (.iload_n 3, 1) := by decide +kernel
theorem dX6_move_206 : decode cX6_move 206 = .ok (.imul, 1) := by decide +kernel
theorem dX6_move_207 : decode cX6_move 207 = .ok (.bipush 11, 2) := by decide +kernel
theorem dX6_move_209 : decode cX6_move 209 = .ok (.iload 10, 2) := by decide +kernel
theorem dX6_move_211 : decode cX6_move 211 = .ok (.imul, 1) := by decide +kernel
theorem dX6_move_212 : decode cX6_move 212 = .ok (.iadd, 1) := by decide +kernel
theorem dX6_move_213 : decode cX6_move 213 = .ok (.iload 11, 2) := by decide +kernel
theorem dX6_move_215 : decode cX6_move 215 = .ok (.iadd, 1) := by decide +kernel
theorem dX6_move_216 : decode cX6_move 216 = .ok (.dup2, 1) := by decide +kernel
theorem dX6_move_217 : decode cX6_move 217 = .ok (.laload, 1) := by decide +kernel
theorem dX6_move_218 : decode cX6_move 218 = .ok (.aload_n 0, 1) := by decide +kernel
theorem dX6_move_219 : decode cX6_move 219 = .ok (.getfield 43, 3) := by decide +kernel
theorem dX6_move_222 : decode cX6_move 222 = .ok (.iload_n 1, 1) := by decide +kernel
theorem dX6_move_223 : decode cX6_move 223 = .ok (.laload, 1) := by decide +kernel
theorem dX6_move_224 : decode cX6_move 224 = .ok (.iload 8, 2) := by decide +kernel
theorem dX6_move_226 : decode cX6_move 226 = .ok (.i2l, 1) := by decide +kernel
theorem dX6_move_227 : decode cX6_move 227 = .ok (.lmul, 1) := by decide +kernel
theorem dX6_move_228 : decode cX6_move 228 = .ok (.iload 9, 2) := by decide +kernel
theorem dX6_move_230 : decode cX6_move 230 = .ok (.i2l, 1) := by decide +kernel
theorem dX6_move_231 : decode cX6_move 231 = .ok (.lmul, 1) := by decide +kernel
theorem dX6_move_232 : decode cX6_move 232 = .ok (.ladd, 1) := by decide +kernel
theorem dX6_move_233 : decode cX6_move 233 = .ok (.lastore, 1) := by decide +kernel
theorem dX6_move_234 : decode cX6_move 234 = .ok (.return_, 1) := by decide +kernel
theorem dX6_go_0 : decode cX6_go 0 = .ok (.iconst 0, 1) := by decide +kernel
theorem dX6_go_1 : decode cX6_go 1 = .ok (.istore_n 3, 1) := by decide +kernel
theorem dX6_go_2 : decode cX6_go 2 = .ok (.iload_n 3, 1) := by decide +kernel
theorem dX6_go_3 : decode cX6_go 3 = .ok (.sipush 308, 3) := by decide +kernel
theorem dX6_go_6 : decode cX6_go 6 = .ok (.if_icmp .ge 27, 3) := by decide +kernel
theorem dX6_go_9 : decode cX6_go 9 = .ok (.aload_n 0, 1) := by decide +kernel
theorem dX6_go_10 : decode cX6_go 10 = .ok (.getfield 43, 3) := by decide +kernel
theorem dX6_go_13 : decode cX6_go 13 = .ok (.iload_n 3, 1) := by decide +kernel
theorem dX6_go_14 : decode cX6_go 14 = .ok (.iload_n 3, 1) := by decide +kernel
theorem dX6_go_15 : decode cX6_go 15 = .ok (.sipush 231, 3) := by decide +kernel
theorem dX6_go_18 : decode cX6_go 18 = .ok (.if_icmp .ne 7, 3) := by decide +kernel
theorem dX6_go_21 : decode cX6_go 21 = .ok (.lconst 1, 1) := by decide +kernel
theorem dX6_go_22 : decode cX6_go 22 = .ok (.goto 4, 3) := by decide +kernel
theorem dX6_go_25 : decode cX6_go 25 = .ok (.lconst 0, 1) := by decide +kernel
theorem dX6_go_26 : decode cX6_go 26 = .ok (.lastore, 1) := by decide +kernel
theorem dX6_go_27 : decode cX6_go 27 = .ok (.iinc 3 1, 3) := by decide +kernel
theorem dX6_go_30 : decode cX6_go 30 = .ok (.goto (-28), 3) := by decide +kernel
theorem dX6_go_33 : decode cX6_go 33 = .ok (.iconst 0, 1) := by decide +kernel
theorem dX6_go_34 : decode cX6_go 34 = .ok (.istore_n 3, 1) := by decide +kernel
theorem dX6_go_35 : decode cX6_go 35 = .ok (.iload_n 3, 1) := by decide +kernel
theorem dX6_go_36 : decode cX6_go 36 = .ok (.iload_n 1, 1) := by decide +kernel
theorem dX6_go_37 : decode cX6_go 37 = .ok (.if_icmp .ge 118, 3) := by decide +kernel
theorem dX6_go_40 : decode cX6_go 40 = .ok (.iconst 0, 1) := by decide +kernel
theorem dX6_go_41 : decode cX6_go 41 = .ok (.istore 4, 2) := by decide +kernel
theorem dX6_go_43 : decode cX6_go 43 = .ok (.iload 4, 2) := by decide +kernel
theorem dX6_go_45 : decode cX6_go 45 = .ok (.sipush 308, 3) := by decide +kernel
theorem dX6_go_48 : decode cX6_go 48 = .ok (.if_icmp .ge 17, 3) := by decide +kernel
theorem dX6_go_51 : decode cX6_go 51 = .ok (.aload_n 0, 1) := by decide +kernel
theorem dX6_go_52 : decode cX6_go 52 = .ok (.getfield 47, 3) := by decide +kernel
theorem dX6_go_55 : decode cX6_go 55 = .ok (.iload 4, 2) := by decide +kernel
theorem dX6_go_57 : decode cX6_go 57 = .ok (.lconst 0, 1) := by decide +kernel
theorem dX6_go_58 : decode cX6_go 58 = .ok (.lastore, 1) := by decide +kernel
theorem dX6_go_59 : decode cX6_go 59 = .ok (.iinc 4 1, 3) := by decide +kernel
theorem dX6_go_62 : decode cX6_go 62 = .ok (.goto (-19), 3) := by decide +kernel
theorem dX6_go_65 : decode cX6_go 65 = .ok (.iconst 0, 1) := by decide +kernel
theorem dX6_go_66 : decode cX6_go 66 = .ok (.istore 4, 2) := by decide +kernel
theorem dX6_go_68 : decode cX6_go 68 = .ok (.iload 4, 2) := by decide +kernel
theorem dX6_go_70 : decode cX6_go 70 = .ok (.sipush 308, 3) := by decide +kernel
theorem dX6_go_73 : decode cX6_go 73 = .ok (.if_icmp .ge 45, 3) := by decide +kernel
theorem dX6_go_76 : decode cX6_go 76 = .ok (.iconst 0, 1) := by decide +kernel
theorem dX6_go_77 : decode cX6_go 77 = .ok (.istore 5, 2) := by decide +kernel
theorem dX6_go_79 : decode cX6_go 79 = .ok (.iload 5, 2) := by decide +kernel
theorem dX6_go_81 : decode cX6_go 81 = .ok (.iconst 4, 1) := by decide +kernel
theorem dX6_go_82 : decode cX6_go 82 = .ok (.if_icmp .ge 30, 3) := by decide +kernel
theorem dX6_go_85 : decode cX6_go 85 = .ok (.aload_n 0, 1) := by decide +kernel
theorem dX6_go_86 : decode cX6_go 86 = .ok (.getfield 43, 3) := by decide +kernel
theorem dX6_go_89 : decode cX6_go 89 = .ok (.iload 4, 2) := by decide +kernel
theorem dX6_go_91 : decode cX6_go 91 = .ok (.laload, 1) := by decide +kernel
theorem dX6_go_92 : decode cX6_go 92 = .ok (.lconst 0, 1) := by decide +kernel
theorem dX6_go_93 : decode cX6_go 93 = .ok (.lcmp, 1) := by decide +kernel
theorem dX6_go_94 : decode cX6_go 94 = .ok (.ifCond .le 18, 3) := by decide +kernel
theorem dX6_go_97 : decode cX6_go 97 = .ok (.aload_n 0, 1) := by decide +kernel
theorem dX6_go_98 : decode cX6_go 98 = .ok (.iload 4, 2) := by decide +kernel
theorem dX6_go_100 : decode cX6_go 100 = .ok (.iload_n 2, 1) := by decide +kernel
theorem dX6_go_101 : decode cX6_go 101 = .ok (.iload 5, 2) := by decide +kernel
theorem dX6_go_103 : decode cX6_go 103 = .ok (.invokevirtual 158, 3) := by decide +kernel
theorem dX6_go_106 : decode cX6_go 106 = .ok (.iinc 5 1, 3) := by decide +kernel
theorem dX6_go_109 : decode cX6_go 109 = .ok (.goto (-30), 3) := by decide +kernel
theorem dX6_go_112 : decode cX6_go 112 = .ok (.iinc 4 1, 3) := by decide +kernel
theorem dX6_go_115 : decode cX6_go 115 = .ok (.goto (-47), 3) := by decide +kernel
theorem dX6_go_118 : decode cX6_go 118 = .ok (.iconst 0, 1) := by decide +kernel
theorem dX6_go_119 : decode cX6_go 119 = .ok (.istore 4, 2) := by decide +kernel
theorem dX6_go_121 : decode cX6_go 121 = .ok (.iload 4, 2) := by decide +kernel
theorem dX6_go_123 : decode cX6_go 123 = .ok (.sipush 308, 3) := by decide +kernel
theorem dX6_go_126 : decode cX6_go 126 = .ok (.if_icmp .ge 23, 3) := by decide +kernel
theorem dX6_go_129 : decode cX6_go 129 = .ok (.aload_n 0, 1) := by decide +kernel
theorem dX6_go_130 : decode cX6_go 130 = .ok (.getfield 43, 3) := by decide +kernel
theorem dX6_go_133 : decode cX6_go 133 = .ok (.iload 4, 2) := by decide +kernel
theorem dX6_go_135 : decode cX6_go 135 = .ok (.aload_n 0, 1) := by decide +kernel
theorem dX6_go_136 : decode cX6_go 136 = .ok (.getfield 47, 3) := by decide +kernel
theorem dX6_go_139 : decode cX6_go 139 = .ok (.iload 4, 2) := by decide +kernel
theorem dX6_go_141 : decode cX6_go 141 = .ok (.laload, 1) := by decide +kernel
theorem dX6_go_142 : decode cX6_go 142 = .ok (.lastore, 1) := by decide +kernel
theorem dX6_go_143 : decode cX6_go 143 = .ok (.iinc 4 1, 3) := by decide +kernel
theorem dX6_go_146 : decode cX6_go 146 = .ok (.goto (-25), 3) := by decide +kernel
theorem dX6_go_149 : decode cX6_go 149 = .ok (.iinc 3 1, 3) := by decide +kernel
theorem dX6_go_152 : decode cX6_go 152 = .ok (.goto (-117), 3) := by decide +kernel
theorem dX6_go_155 : decode cX6_go 155 = .ok (.return_, 1) := by decide +kernel
theorem dX6_isTicks_0 : decode cX6_isTicks 0 = .ok (.iload_n 0, 1) := by decide +kernel
theorem dX6_isTicks_1 : decode cX6_isTicks 1 = .ok (.i2l, 1) := by decide +kernel
theorem dX6_isTicks_2 : decode cX6_isTicks 2 = .ok (.lconst 1, 1) := by decide +kernel
theorem dX6_isTicks_3 : decode cX6_isTicks 3 = .ok (.ldc2_w 162, 3) := by decide +kernel
theorem dX6_isTicks_6 : decode cX6_isTicks 6 = .ok (.invokestatic 63, 3) := by decide +kernel
theorem dX6_isTicks_9 : decode cX6_isTicks 9 = .ok (.ireturn, 1) := by decide +kernel
theorem dX6_mean_0 : decode cX6_mean 0 = .ok (.lconst 0, 1) := by decide +kernel
theorem dX6_mean_1 : decode cX6_mean 1 = .ok (.lstore_n 1, 1) := by decide +kernel
theorem dX6_mean_2 : decode cX6_mean 2 = .ok (.iconst 0, 1) := by decide +kernel
theorem dX6_mean_3 : decode cX6_mean 3 = .ok (.istore_n 3, 1) := by decide +kernel
theorem dX6_mean_4 : decode cX6_mean 4 = .ok (.iload_n 3, 1) := by decide +kernel
theorem dX6_mean_5 : decode cX6_mean 5 = .ok (.sipush 308, 3) := by decide +kernel
theorem dX6_mean_8 : decode cX6_mean 8 = .ok (.if_icmp .ge 24, 3) := by decide +kernel
theorem dX6_mean_11 : decode cX6_mean 11 = .ok (.lload_n 1, 1) := by decide +kernel
theorem dX6_mean_12 : decode cX6_mean 12 = .ok (.aload_n 0, 1) := by decide +kernel
theorem dX6_mean_13 : decode cX6_mean 13 = .ok (.getfield 43, 3) := by decide +kernel
theorem dX6_mean_16 : decode cX6_mean 16 = .ok (.iload_n 3, 1) := by decide +kernel
theorem dX6_mean_17 : decode cX6_mean 17 = .ok (.laload, 1) := by decide +kernel
theorem dX6_mean_18 : decode cX6_mean 18 = .ok (.iload_n 3, 1) := by decide +kernel
theorem dX6_mean_19 : decode cX6_mean 19 = .ok (.bipush 11, 2) := by decide +kernel
theorem dX6_mean_21 : decode cX6_mean 21 = .ok (.irem, 1) := by decide +kernel
theorem dX6_mean_22 : decode cX6_mean 22 = .ok (.i2l, 1) := by decide +kernel
theorem dX6_mean_23 : decode cX6_mean 23 = .ok (.lmul, 1) := by decide +kernel
theorem dX6_mean_24 : decode cX6_mean 24 = .ok (.ladd, 1) := by decide +kernel
theorem dX6_mean_25 : decode cX6_mean 25 = .ok (.lstore_n 1, 1) := by decide +kernel
theorem dX6_mean_26 : decode cX6_mean 26 = .ok (.iinc 3 1, 3) := by decide +kernel
theorem dX6_mean_29 : decode cX6_mean 29 = .ok (.goto (-25), 3) := by decide +kernel
theorem dX6_mean_32 : decode cX6_mean 32 = .ok (.lload_n 1, 1) := by decide +kernel
theorem dX6_mean_33 : decode cX6_mean 33 = .ok (.lreturn, 1) := by decide +kernel
theorem dX6_given_0 : decode cX6_given 0 = .ok (.iload_n 1, 1) := by decide +kernel
theorem dX6_given_1 : decode cX6_given 1 = .ok (.invokestatic 164, 3) := by decide +kernel
theorem dX6_given_4 : decode cX6_given 4 = .ok (.ifCond .ne 7, 3) := by decide +kernel
theorem dX6_given_7 : decode cX6_given 7 = .ok (.ldc2_w 167, 3) := by decide +kernel
theorem dX6_given_10 : decode cX6_given 10 = .ok (.lreturn, 1) := by decide +kernel
theorem dX6_given_11 : decode cX6_given 11 = .ok (.aload_n 0, 1) := by decide +kernel
theorem dX6_given_12 : decode cX6_given 12 = .ok (.iload_n 1, 1) := by decide +kernel
theorem dX6_given_13 : decode cX6_given 13 = .ok (.aload_n 0, 1) := by decide +kernel
theorem dX6_given_14 : decode cX6_given 14 = .ok (.getfield 151, 3) := by decide +kernel
theorem dX6_given_17 : decode cX6_given 17 = .ok (.invokevirtual 169, 3) := by decide +kernel
theorem dX6_given_20 : decode cX6_given 20 = .ok (.aload_n 0, 1) := by decide +kernel
theorem dX6_given_21 : decode cX6_given 21 = .ok (.invokevirtual 173, 3) := by decide +kernel
theorem dX6_given_24 : decode cX6_given 24 = .ok (.lconst 1, 1) := by decide +kernel
theorem dX6_given_25 : decode cX6_given 25 = .ok (.iconst 4, 1) := by decide +kernel
theorem dX6_given_26 : decode cX6_given 26 = .ok (.iload_n 1, 1) := by decide +kernel
theorem dX6_given_27 : decode cX6_given 27 = .ok (.imul, 1) := by decide +kernel
theorem dX6_given_28 : decode cX6_given 28 = .ok (.lshl, 1) := by decide +kernel
theorem dX6_given_29 : decode cX6_given 29 = .ok (.iload_n 2, 1) := by decide +kernel
theorem dX6_given_30 : decode cX6_given 30 = .ok (.invokestatic 128, 3) := by decide +kernel
theorem dX6_given_33 : decode cX6_given 33 = .ok (.lreturn, 1) := by decide +kernel
theorem dX6_just_0 : decode cX6_just 0 = .ok (.iload_n 1, 1) := by decide +kernel
theorem dX6_just_1 : decode cX6_just 1 = .ok (.invokestatic 164, 3) := by decide +kernel
theorem dX6_just_4 : decode cX6_just 4 = .ok (.ifCond .eq 15, 3) := by decide +kernel
theorem dX6_just_7 : decode cX6_just 7 = .ok (.iload_n 2, 1) := by decide +kernel
theorem dX6_just_8 : decode cX6_just 8 = .ok (.i2l, 1) := by decide +kernel
theorem dX6_just_9 : decode cX6_just 9 = .ok (.lconst 0, 1) := by decide +kernel
theorem dX6_just_10 : decode cX6_just 10 = .ok (.ldc2_w 162, 3) := by decide +kernel
theorem dX6_just_13 : decode cX6_just 13 = .ok (.invokestatic 63, 3) := by decide +kernel
theorem dX6_just_16 : decode cX6_just 16 = .ok (.ifCond .ne 7, 3) := by decide +kernel
theorem dX6_just_19 : decode cX6_just 19 = .ok (.ldc2_w 167, 3) := by decide +kernel
theorem dX6_just_22 : decode cX6_just 22 = .ok (.lreturn, 1) := by decide +kernel
theorem dX6_just_23 : decode cX6_just 23 = .ok (.aload_n 0, 1) := by decide +kernel
theorem dX6_just_24 : decode cX6_just 24 = .ok (.iload_n 1, 1) := by decide +kernel
theorem dX6_just_25 : decode cX6_just 25 = .ok (.aload_n 0, 1) := by decide +kernel
theorem dX6_just_26 : decode cX6_just 26 = .ok (.getfield 151, 3) := by decide +kernel
theorem dX6_just_29 : decode cX6_just 29 = .ok (.invokevirtual 169, 3) := by decide +kernel
theorem dX6_just_32 : decode cX6_just 32 = .ok (.lconst 0, 1) := by decide +kernel
theorem dX6_just_33 : decode cX6_just 33 = .ok (.lstore 4, 2) := by decide +kernel
theorem dX6_just_35 : decode cX6_just 35 = .ok (.iconst 0, 1) := by decide +kernel
theorem dX6_just_36 : decode cX6_just 36 = .ok (.istore 6, 2) := by decide +kernel
theorem dX6_just_38 : decode cX6_just 38 = .ok (.iload 6, 2) := by decide +kernel
theorem dX6_just_40 : decode cX6_just 40 = .ok (.sipush 308, 3) := by decide +kernel
theorem dX6_just_43 : decode cX6_just 43 = .ok (.if_icmp .ge 34, 3) := by decide +kernel
theorem dX6_just_46 : decode cX6_just 46 = .ok (.lload 4, 2) := by decide +kernel
theorem dX6_just_48 : decode cX6_just 48 = .ok (.iload 6, 2) := by decide +kernel
theorem dX6_just_50 : decode cX6_just 50 = .ok (.bipush 11, 2) := by decide +kernel
theorem dX6_just_52 : decode cX6_just 52 = .ok (.irem, 1) := by decide +kernel
theorem dX6_just_53 : decode cX6_just 53 = .ok (.iload_n 2, 1) := by decide +kernel
theorem dX6_just_54 : decode cX6_just 54 = .ok (.if_icmp .ne 13, 3) := by decide +kernel
theorem dX6_just_57 : decode cX6_just 57 = .ok (.aload_n 0, 1) := by decide +kernel
theorem dX6_just_58 : decode cX6_just 58 = .ok (.getfield 43, 3) := by decide +kernel
theorem dX6_just_61 : decode cX6_just 61 = .ok (.iload 6, 2) := by decide +kernel
theorem dX6_just_63 : decode cX6_just 63 = .ok (.laload, 1) := by decide +kernel
theorem dX6_just_64 : decode cX6_just 64 = .ok (.goto 4, 3) := by decide +kernel
theorem dX6_just_67 : decode cX6_just 67 = .ok (.lconst 0, 1) := by decide +kernel
theorem dX6_just_68 : decode cX6_just 68 = .ok (.ladd, 1) := by decide +kernel
theorem dX6_just_69 : decode cX6_just 69 = .ok (.lstore 4, 2) := by decide +kernel
theorem dX6_just_71 : decode cX6_just 71 = .ok (.iinc 6 1, 3) := by decide +kernel
theorem dX6_just_74 : decode cX6_just 74 = .ok (.goto (-36), 3) := by decide +kernel
theorem dX6_just_77 : decode cX6_just 77 = .ok (.lload 4, 2) := by decide +kernel
theorem dX6_just_79 : decode cX6_just 79 = .ok (.lconst 1, 1) := by decide +kernel
theorem dX6_just_80 : decode cX6_just 80 = .ok (.iconst 4, 1) := by decide +kernel
theorem dX6_just_81 : decode cX6_just 81 = .ok (.iload_n 1, 1) := by decide +kernel
theorem dX6_just_82 : decode cX6_just 82 = .ok (.imul, 1) := by decide +kernel
theorem dX6_just_83 : decode cX6_just 83 = .ok (.lshl, 1) := by decide +kernel
theorem dX6_just_84 : decode cX6_just 84 = .ok (.iload_n 3, 1) := by decide +kernel
theorem dX6_just_85 : decode cX6_just 85 = .ok (.invokestatic 128, 3) := by decide +kernel
theorem dX6_just_88 : decode cX6_just 88 = .ok (.lreturn, 1) := by decide +kernel
theorem dX6_least_0 : decode cX6_least 0 = .ok (.iload_n 1, 1) := by decide +kernel
theorem dX6_least_1 : decode cX6_least 1 = .ok (.invokestatic 164, 3) := by decide +kernel
theorem dX6_least_4 : decode cX6_least 4 = .ok (.ifCond .eq 27, 3) := by decide +kernel
theorem dX6_least_7 : decode cX6_least 7 = .ok (.iload_n 2, 1) := by decide +kernel
theorem dX6_least_8 : decode cX6_least 8 = .ok (.i2l, 1) := by decide +kernel
theorem dX6_least_9 : decode cX6_least 9 = .ok (.lconst 1, 1) := by decide +kernel
theorem dX6_least_10 : decode cX6_least 10 = .ok (.ldc2_w 141, 3) := by decide +kernel
theorem dX6_least_13 : decode cX6_least 13 = .ok (.invokestatic 63, 3) := by decide +kernel
theorem dX6_least_16 : decode cX6_least 16 = .ok (.ifCond .eq 15, 3) := by decide +kernel
theorem dX6_least_19 : decode cX6_least 19 = .ok (.iload_n 3, 1) := by decide +kernel
theorem dX6_least_20 : decode cX6_least 20 = .ok (.i2l, 1) := by decide +kernel
theorem dX6_least_21 : decode cX6_least 21 = .ok (.lconst 1, 1) := by decide +kernel
theorem dX6_least_22 : decode cX6_least 22 = .ok (.ldc2_w 141, 3) := by decide +kernel
theorem dX6_least_25 : decode cX6_least 25 = .ok (.invokestatic 63, 3) := by decide +kernel
theorem dX6_least_28 : decode cX6_least 28 = .ok (.ifCond .ne 6, 3) := by decide +kernel
theorem dX6_least_31 : decode cX6_least 31 = .ok (.bipush (-2), 2) := by decide +kernel
theorem dX6_least_33 : decode cX6_least 33 = .ok (.ireturn, 1) := by decide +kernel
theorem dX6_least_34 : decode cX6_least 34 = .ok (.iconst 0, 1) := by decide +kernel
theorem dX6_least_35 : decode cX6_least 35 = .ok (.istore 4, 2) := by decide +kernel
theorem dX6_least_37 : decode cX6_least 37 = .ok (.iload 4, 2) := by decide +kernel
theorem dX6_least_39 : decode cX6_least 39 = .ok (.bipush 6, 2) := by decide +kernel
theorem dX6_least_41 : decode cX6_least 41 = .ok (.if_icmp .gt 36, 3) := by decide +kernel
theorem dX6_least_44 : decode cX6_least 44 = .ok (.aload_n 0, 1) := by decide +kernel
theorem dX6_least_45 : decode cX6_least 45 = .ok (.iload_n 1, 1) := by decide +kernel
theorem dX6_least_46 : decode cX6_least 46 = .ok (.iload 4, 2) := by decide +kernel
theorem dX6_least_48 : decode cX6_least 48 = .ok (.invokevirtual 169, 3) := by decide +kernel
theorem dX6_least_51 : decode cX6_least 51 = .ok (.aload_n 0, 1) := by decide +kernel
theorem dX6_least_52 : decode cX6_least 52 = .ok (.invokevirtual 173, 3) := by decide +kernel
theorem dX6_least_55 : decode cX6_least 55 = .ok (.iload_n 3, 1) := by decide +kernel
theorem dX6_least_56 : decode cX6_least 56 = .ok (.i2l, 1) := by decide +kernel
theorem dX6_least_57 : decode cX6_least 57 = .ok (.lmul, 1) := by decide +kernel
theorem dX6_least_58 : decode cX6_least 58 = .ok (.iload_n 2, 1) := by decide +kernel
theorem dX6_least_59 : decode cX6_least 59 = .ok (.i2l, 1) := by decide +kernel
theorem dX6_least_60 : decode cX6_least 60 = .ok (.iconst 4, 1) := by decide +kernel
theorem dX6_least_61 : decode cX6_least 61 = .ok (.iload_n 1, 1) := by decide +kernel
theorem dX6_least_62 : decode cX6_least 62 = .ok (.imul, 1) := by decide +kernel
theorem dX6_least_63 : decode cX6_least 63 = .ok (.lshl, 1) := by decide +kernel
theorem dX6_least_64 : decode cX6_least 64 = .ok (.lcmp, 1) := by decide +kernel
theorem dX6_least_65 : decode cX6_least 65 = .ok (.ifCond .lt 6, 3) := by decide +kernel
theorem dX6_least_68 : decode cX6_least 68 = .ok (.iload 4, 2) := by decide +kernel
theorem dX6_least_70 : decode cX6_least 70 = .ok (.ireturn, 1) := by decide +kernel
theorem dX6_least_71 : decode cX6_least 71 = .ok (.iinc 4 1, 3) := by decide +kernel
theorem dX6_least_74 : decode cX6_least 74 = .ok (.goto (-37), 3) := by decide +kernel
theorem dX6_least_77 : decode cX6_least 77 = .ok (.bipush (-9), 2) := by decide +kernel
theorem dX6_least_79 : decode cX6_least 79 = .ok (.ireturn, 1) := by decide +kernel
theorem dX6_demand_0 : decode cX6_demand 0 = .ok (.iload_n 1, 1) := by decide +kernel
theorem dX6_demand_1 : decode cX6_demand 1 = .ok (.i2l, 1) := by decide +kernel
theorem dX6_demand_2 : decode cX6_demand 2 = .ok (.lconst 0, 1) := by decide +kernel
theorem dX6_demand_3 : decode cX6_demand 3 = .ok (.ldc2_w 177, 3) := by decide +kernel
theorem dX6_demand_6 : decode cX6_demand 6 = .ok (.invokestatic 63, 3) := by decide +kernel
theorem dX6_demand_9 : decode cX6_demand 9 = .ok (.ifCond .ne 5, 3) := by decide +kernel
theorem dX6_demand_12 : decode cX6_demand 12 = .ok (.iconst (-1), 1) := by decide +kernel
theorem dX6_demand_13 : decode cX6_demand 13 = .ok (.ireturn, 1) := by decide +kernel
theorem dX6_demand_14 : decode cX6_demand 14 = .ok (.iload_n 2, 1) := by decide +kernel
theorem dX6_demand_15 : decode cX6_demand 15 = .ok (.i2l, 1) := by decide +kernel
theorem dX6_demand_16 : decode cX6_demand 16 = .ok (.lconst 0, 1) := by decide +kernel
theorem dX6_demand_17 : decode cX6_demand 17 = .ok (.ldc2_w 70, 3) := by decide +kernel
theorem dX6_demand_20 : decode cX6_demand 20 = .ok (.invokestatic 63, 3) := by decide +kernel
theorem dX6_demand_23 : decode cX6_demand 23 = .ok (.ifCond .ne 6, 3) := by decide +kernel
theorem dX6_demand_26 : decode cX6_demand 26 = .ok (.bipush (-2), 2) := by decide +kernel
theorem dX6_demand_28 : decode cX6_demand 28 = .ok (.ireturn, 1) := by decide +kernel
theorem dX6_demand_29 : decode cX6_demand 29 = .ok (.aload_n 0, 1) := by decide +kernel
theorem dX6_demand_30 : decode cX6_demand 30 = .ok (.getfield 50, 3) := by decide +kernel
theorem dX6_demand_33 : decode cX6_demand 33 = .ok (.iload_n 1, 1) := by decide +kernel
theorem dX6_demand_34 : decode cX6_demand 34 = .ok (.iaload, 1) := by decide +kernel
theorem dX6_demand_35 : decode cX6_demand 35 = .ok (.istore_n 3, 1) := by decide +kernel
theorem dX6_demand_36 : decode cX6_demand 36 = .ok (.aload_n 0, 1) := by decide +kernel
theorem dX6_demand_37 : decode cX6_demand 37 = .ok (.getfield 50, 3) := by decide +kernel
theorem dX6_demand_40 : decode cX6_demand 40 = .ok (.iload_n 1, 1) := by decide +kernel
theorem dX6_demand_41 : decode cX6_demand 41 = .ok (.iload_n 2, 1) := by decide +kernel
theorem dX6_demand_42 : decode cX6_demand 42 = .ok (.iastore, 1) := by decide +kernel
theorem dX6_demand_43 : decode cX6_demand 43 = .ok (.iload_n 3, 1) := by decide +kernel
theorem dX6_demand_44 : decode cX6_demand 44 = .ok (.ireturn, 1) := by decide +kernel
theorem dX6_lay_0 : decode cX6_lay 0 = .ok (.aload_n 0, 1) := by decide +kernel
theorem dX6_lay_1 : decode cX6_lay 1 = .ok (.iconst 0, 1) := by decide +kernel
theorem dX6_lay_2 : decode cX6_lay 2 = .ok (.putfield 179, 3) := by decide +kernel
theorem dX6_lay_5 : decode cX6_lay 5 = .ok (.iconst 0, 1) := by decide +kernel
theorem dX6_lay_6 : decode cX6_lay 6 = .ok (.istore_n 1, 1) := by decide +kernel
theorem dX6_lay_7 : decode cX6_lay 7 = .ok (.iconst 0, 1) := by decide +kernel
theorem dX6_lay_8 : decode cX6_lay 8 = .ok (.istore_n 2, 1) := by decide +kernel
theorem dX6_lay_9 : decode cX6_lay 9 = .ok (.iload_n 2, 1) := by decide +kernel
theorem dX6_lay_10 : decode cX6_lay 10 = .ok (.bipush 6, 2) := by decide +kernel
theorem dX6_lay_12 : decode cX6_lay 12 = .ok (.if_icmp .ge 31, 3) := by decide +kernel
theorem dX6_lay_15 : decode cX6_lay 15 = .ok (.aload_n 0, 1) := by decide +kernel
theorem dX6_lay_16 : decode cX6_lay 16 = .ok (.dup, 1) := by decide +kernel
theorem dX6_lay_17 : decode cX6_lay 17 = .ok (.getfield 179, 3) := by decide +kernel
theorem dX6_lay_20 : decode cX6_lay 20 = .ok (.aload_n 0, 1) := by decide +kernel
theorem dX6_lay_21 : decode cX6_lay 21 = .ok (.getfield 50, 3) := by decide +kernel
theorem dX6_lay_24 : decode cX6_lay 24 = .ok (.iload_n 2, 1) := by decide +kernel
theorem dX6_lay_25 : decode cX6_lay 25 = .ok (.iaload, 1) := by decide +kernel
theorem dX6_lay_26 : decode cX6_lay 26 = .ok (.iadd, 1) := by decide +kernel
theorem dX6_lay_27 : decode cX6_lay 27 = .ok (.putfield 179, 3) := by decide +kernel
theorem dX6_lay_30 : decode cX6_lay 30 = .ok (.aload_n 0, 1) := by decide +kernel
theorem dX6_lay_31 : decode cX6_lay 31 = .ok (.getfield 53, 3) := by decide +kernel
theorem dX6_lay_34 : decode cX6_lay 34 = .ok (.iload_n 2, 1) := by decide +kernel
theorem dX6_lay_35 : decode cX6_lay 35 = .ok (.iconst 0, 1) := by decide +kernel
theorem dX6_lay_36 : decode cX6_lay 36 = .ok (.iastore, 1) := by decide +kernel
theorem dX6_lay_37 : decode cX6_lay 37 = .ok (.iinc 2 1, 3) := by decide +kernel
theorem dX6_lay_40 : decode cX6_lay 40 = .ok (.goto (-31), 3) := by decide +kernel
theorem dX6_lay_43 : decode cX6_lay 43 = .ok (.iconst 0, 1) := by decide +kernel
theorem dX6_lay_44 : decode cX6_lay 44 = .ok (.istore_n 2, 1) := by decide +kernel
theorem dX6_lay_45 : decode cX6_lay 45 = .ok (.iload_n 2, 1) := by decide +kernel
theorem dX6_lay_46 : decode cX6_lay 46 = .ok (.aload_n 0, 1) := by decide +kernel
theorem dX6_lay_47 : decode cX6_lay 47 = .ok (.getfield 179, 3) := by decide +kernel
theorem dX6_lay_50 : decode cX6_lay 50 = .ok (.if_icmp .ge 206, 3) := by decide +kernel
theorem dX6_lay_53 : decode cX6_lay 53 = .ok (.bipush (-9), 2) := by decide +kernel
theorem dX6_lay_55 : decode cX6_lay 55 = .ok (.istore_n 3, 1) := by decide +kernel
theorem dX6_lay_56 : decode cX6_lay 56 = .ok (.iconst 0, 1) := by decide +kernel
theorem dX6_lay_57 : decode cX6_lay 57 = .ok (.istore 4, 2) := by decide +kernel
theorem dX6_lay_59 : decode cX6_lay 59 = .ok (.iload 4, 2) := by decide +kernel
theorem dX6_lay_61 : decode cX6_lay 61 = .ok (.bipush 6, 2) := by decide +kernel
theorem dX6_lay_63 : decode cX6_lay 63 = .ok (.if_icmp .ge 100, 3) := by decide +kernel
theorem dX6_lay_66 : decode cX6_lay 66 = .ok (.aload_n 0, 1) := by decide +kernel
theorem dX6_lay_67 : decode cX6_lay 67 = .ok (.getfield 53, 3) := by decide +kernel
theorem dX6_lay_70 : decode cX6_lay 70 = .ok (.iload 4, 2) := by decide +kernel
theorem dX6_lay_72 : decode cX6_lay 72 = .ok (.iaload, 1) := by decide +kernel
theorem dX6_lay_73 : decode cX6_lay 73 = .ok (.aload_n 0, 1) := by decide +kernel
theorem dX6_lay_74 : decode cX6_lay 74 = .ok (.getfield 50, 3) := by decide +kernel
theorem dX6_lay_77 : decode cX6_lay 77 = .ok (.iload 4, 2) := by decide +kernel
theorem dX6_lay_79 : decode cX6_lay 79 = .ok (.iaload, 1) := by decide +kernel
theorem dX6_lay_80 : decode cX6_lay 80 = .ok (.if_icmp .ge 7, 3) := by decide +kernel
theorem dX6_lay_83 : decode cX6_lay 83 = .ok (.iconst 1, 1) := by decide +kernel
theorem dX6_lay_84 : decode cX6_lay 84 = .ok (.goto 4, 3) := by decide +kernel
theorem dX6_lay_87 : decode cX6_lay 87 = .ok (.iconst 0, 1) := by decide +kernel
theorem dX6_lay_88 : decode cX6_lay 88 = .ok (.istore 5, 2) := by decide +kernel
theorem dX6_lay_90 : decode cX6_lay 90 = .ok (.iload 5, 2) := by decide +kernel
theorem dX6_lay_92 : decode cX6_lay 92 = .ok (.ifCond .eq 63, 3) := by decide +kernel
theorem dX6_lay_95 : decode cX6_lay 95 = .ok (.iload_n 3, 1) := by decide +kernel
theorem dX6_lay_96 : decode cX6_lay 96 = .ok (.bipush (-9), 2) := by decide +kernel
theorem dX6_lay_98 : decode cX6_lay 98 = .ok (.if_icmp .eq 52, 3) := by decide +kernel
theorem dX6_lay_101 : decode cX6_lay 101 = .ok (.aload_n 0, 1) := by decide +kernel
theorem dX6_lay_102 : decode cX6_lay 102 = .ok (.getfield 50, 3) := by decide +kernel
theorem dX6_lay_105 : decode cX6_lay 105 = .ok (.iload 4, 2) := by decide +kernel
theorem dX6_lay_107 : decode cX6_lay 107 = .ok (.iaload, 1) := by decide +kernel
theorem dX6_lay_108 : decode cX6_lay 108 = .ok (.iload_n 2, 1) := by decide +kernel
theorem dX6_lay_109 : decode cX6_lay 109 = .ok (.iconst 1, 1) := by decide +kernel
theorem dX6_lay_110 : decode cX6_lay 110 = .ok (.iadd, 1) := by decide +kernel
theorem dX6_lay_111 : decode cX6_lay 111 = .ok (.imul, 1) := by decide +kernel
theorem dX6_lay_112 : decode cX6_lay 112 = .ok (.aload_n 0, 1) := by decide +kernel
theorem dX6_lay_113 : decode cX6_lay 113 = .ok (.getfield 179, 3) := by decide +kernel
theorem dX6_lay_116 : decode cX6_lay 116 = .ok (.aload_n 0, 1) := by decide +kernel
theorem dX6_lay_117 : decode cX6_lay 117 = .ok (.getfield 53, 3) := by decide +kernel
theorem dX6_lay_120 : decode cX6_lay 120 = .ok (.iload 4, 2) := by decide +kernel
theorem dX6_lay_122 : decode cX6_lay 122 = .ok (.iaload, 1) := by decide +kernel
theorem dX6_lay_123 : decode cX6_lay 123 = .ok (.imul, 1) := by decide +kernel
theorem dX6_lay_124 : decode cX6_lay 124 = .ok (.isub, 1) := by decide +kernel
theorem dX6_lay_125 : decode cX6_lay 125 = .ok (.aload_n 0, 1) := by decide +kernel
theorem dX6_lay_126 : decode cX6_lay 126 = .ok (.getfield 50, 3) := by decide +kernel
theorem dX6_lay_129 : decode cX6_lay 129 = .ok (.iload_n 3, 1) := by decide +kernel
theorem dX6_lay_130 : decode cX6_lay 130 = .ok (.iaload, 1) := by decide +kernel
theorem dX6_lay_131 : decode cX6_lay 131 = .ok (.iload_n 2, 1) := by decide +kernel
theorem dX6_lay_132 : decode cX6_lay 132 = .ok (.iconst 1, 1) := by decide +kernel
theorem dX6_lay_133 : decode cX6_lay 133 = .ok (.iadd, 1) := by decide +kernel
theorem dX6_lay_134 : decode cX6_lay 134 = .ok (.imul, 1) := by decide +kernel
theorem dX6_lay_135 : decode cX6_lay 135 = .ok (.aload_n 0, 1) := by decide +kernel
theorem dX6_lay_136 : decode cX6_lay 136 = .ok (.getfield 179, 3) := by decide +kernel
theorem dX6_lay_139 : decode cX6_lay 139 = .ok (.aload_n 0, 1) := by decide +kernel
theorem dX6_lay_140 : decode cX6_lay 140 = .ok (.getfield 53, 3) := by decide +kernel
theorem dX6_lay_143 : decode cX6_lay 143 = .ok (.iload_n 3, 1) := by decide +kernel
theorem dX6_lay_144 : decode cX6_lay 144 = .ok (.iaload, 1) := by decide +kernel
theorem dX6_lay_145 : decode cX6_lay 145 = .ok (.imul, 1) := by decide +kernel
theorem dX6_lay_146 : decode cX6_lay 146 = .ok (.isub, 1) := by decide +kernel
theorem dX6_lay_147 : decode cX6_lay 147 = .ok (.if_icmp .le 8, 3) := by decide +kernel
theorem dX6_lay_150 : decode cX6_lay 150 = .ok (.iload 4, 2) := by decide +kernel
theorem dX6_lay_152 : decode cX6_lay 152 = .ok (.goto 4, 3) := by decide +kernel
theorem dX6_lay_155 : decode cX6_lay 155 = .ok (.iload_n 3, 1) := by decide +kernel
theorem dX6_lay_156 : decode cX6_lay 156 = .ok (.istore_n 3, 1) := by decide +kernel
theorem dX6_lay_157 : decode cX6_lay 157 = .ok (.iinc 4 1, 3) := by decide +kernel
theorem dX6_lay_160 : decode cX6_lay 160 = .ok (.goto (-101), 3) := by decide +kernel
theorem dX6_lay_163 : decode cX6_lay 163 = .ok (.aload_n 0, 1) := by decide +kernel
theorem dX6_lay_164 : decode cX6_lay 164 = .ok (.getfield 56, 3) := by decide +kernel
theorem dX6_lay_167 : decode cX6_lay 167 = .ok (.iload_n 2, 1) := by decide +kernel
theorem dX6_lay_168 : decode cX6_lay 168 = .ok (.iload_n 3, 1) := by decide +kernel
theorem dX6_lay_169 : decode cX6_lay 169 = .ok (.iastore, 1) := by decide +kernel
theorem dX6_lay_170 : decode cX6_lay 170 = .ok (.aload_n 0, 1) := by decide +kernel
theorem dX6_lay_171 : decode cX6_lay 171 = .ok (.getfield 53, 3) := by decide +kernel
theorem dX6_lay_174 : decode cX6_lay 174 = .ok (.iload_n 3, 1) := by decide +kernel
theorem dX6_lay_175 : decode cX6_lay 175 = .ok (.dup2, 1) := by decide +kernel
theorem dX6_lay_176 : decode cX6_lay 176 = .ok (.iaload, 1) := by decide +kernel
theorem dX6_lay_177 : decode cX6_lay 177 = .ok (.iconst 1, 1) := by decide +kernel
theorem dX6_lay_178 : decode cX6_lay 178 = .ok (.iadd, 1) := by decide +kernel
theorem dX6_lay_179 : decode cX6_lay 179 = .ok (.iastore, 1) := by decide +kernel
theorem dX6_lay_180 : decode cX6_lay 180 = .ok (.iconst 0, 1) := by decide +kernel
theorem dX6_lay_181 : decode cX6_lay 181 = .ok (.istore 4, 2) := by decide +kernel
theorem dX6_lay_183 : decode cX6_lay 183 = .ok (.iload 4, 2) := by decide +kernel
theorem dX6_lay_185 : decode cX6_lay 185 = .ok (.bipush 6, 2) := by decide +kernel
theorem dX6_lay_187 : decode cX6_lay 187 = .ok (.if_icmp .ge 63, 3) := by decide +kernel
theorem dX6_lay_190 : decode cX6_lay 190 = .ok (.aload_n 0, 1) := by decide +kernel
theorem dX6_lay_191 : decode cX6_lay 191 = .ok (.getfield 179, 3) := by decide +kernel
theorem dX6_lay_194 : decode cX6_lay 194 = .ok (.aload_n 0, 1) := by decide +kernel
theorem dX6_lay_195 : decode cX6_lay 195 = .ok (.getfield 53, 3) := by decide +kernel
theorem dX6_lay_198 : decode cX6_lay 198 = .ok (.iload 4, 2) := by decide +kernel
theorem dX6_lay_200 : decode cX6_lay 200 = .ok (.iaload, 1) := by decide +kernel
theorem dX6_lay_201 : decode cX6_lay 201 = .ok (.imul, 1) := by decide +kernel
theorem dX6_lay_202 : decode cX6_lay 202 = .ok (.aload_n 0, 1) := by decide +kernel
theorem dX6_lay_203 : decode cX6_lay 203 = .ok (.getfield 50, 3) := by decide +kernel
theorem dX6_lay_206 : decode cX6_lay 206 = .ok (.iload 4, 2) := by decide +kernel
theorem dX6_lay_208 : decode cX6_lay 208 = .ok (.iaload, 1) := by decide +kernel
theorem dX6_lay_209 : decode cX6_lay 209 = .ok (.iload_n 2, 1) := by decide +kernel
theorem dX6_lay_210 : decode cX6_lay 210 = .ok (.iconst 1, 1) := by decide +kernel
theorem dX6_lay_211 : decode cX6_lay 211 = .ok (.iadd, 1) := by decide +kernel
theorem dX6_lay_212 : decode cX6_lay 212 = .ok (.imul, 1) := by decide +kernel
theorem dX6_lay_213 : decode cX6_lay 213 = .ok (.isub, 1) := by decide +kernel
theorem dX6_lay_214 : decode cX6_lay 214 = .ok (.istore 5, 2) := by decide +kernel
theorem dX6_lay_216 : decode cX6_lay 216 = .ok (.iload 5, 2) := by decide +kernel
theorem dX6_lay_218 : decode cX6_lay 218 = .ok (.ifCond .ge 9, 3) := by decide +kernel
theorem dX6_lay_221 : decode cX6_lay 221 = .ok (.iload 5, 2) := by decide +kernel
theorem dX6_lay_223 : decode cX6_lay 223 = .ok (.ineg, 1) := by decide +kernel
theorem dX6_lay_224 : decode cX6_lay 224 = .ok (.goto 5, 3) := by decide +kernel
theorem dX6_lay_227 : decode cX6_lay 227 = .ok (.iload 5, 2) := by decide +kernel
theorem dX6_lay_229 : decode cX6_lay 229 = .ok (.istore 5, 2) := by decide +kernel
theorem dX6_lay_231 : decode cX6_lay 231 = .ok (.iload 5, 2) := by decide +kernel
theorem dX6_lay_233 : decode cX6_lay 233 = .ok (.iload_n 1, 1) := by decide +kernel
theorem dX6_lay_234 : decode cX6_lay 234 = .ok (.if_icmp .le 8, 3) := by decide +kernel
theorem dX6_lay_237 : decode cX6_lay 237 = .ok (.iload 5, 2) := by decide +kernel
theorem dX6_lay_239 : decode cX6_lay 239 = .ok (.goto 4, 3) := by decide +kernel
theorem dX6_lay_242 : decode cX6_lay 242 = .ok (.iload_n 1, 1) := by decide +kernel
theorem dX6_lay_243 : decode cX6_lay 243 = .ok (.istore_n 1, 1) := by decide +kernel
theorem dX6_lay_244 : decode cX6_lay 244 = .ok (.iinc 4 1, 3) := by decide +kernel
theorem dX6_lay_247 : decode cX6_lay 247 = .ok (.goto (-64), 3) := by decide +kernel
theorem dX6_lay_250 : decode cX6_lay 250 = .ok (.iinc 2 1, 3) := by decide +kernel
theorem dX6_lay_253 : decode cX6_lay 253 = .ok (.goto (-208), 3) := by decide +kernel
theorem dX6_lay_256 : decode cX6_lay 256 = .ok (.iload_n 1, 1) := by decide +kernel
theorem dX6_lay_257 : decode cX6_lay 257 = .ok (.ireturn, 1) := by decide +kernel
theorem dX6_at_0 : decode cX6_at 0 = .ok (.aload_n 0, 1) := by decide +kernel
theorem dX6_at_1 : decode cX6_at 1 = .ok (.invokevirtual 182, 3) := by decide +kernel
theorem dX6_at_4 : decode cX6_at 4 = .ok (.istore_n 2, 1) := by decide +kernel
theorem dX6_at_5 : decode cX6_at 5 = .ok (.iload_n 1, 1) := by decide +kernel
theorem dX6_at_6 : decode cX6_at 6 = .ok (.i2l, 1) := by decide +kernel
theorem dX6_at_7 : decode cX6_at 7 = .ok (.lconst 0, 1) := by decide +kernel
theorem dX6_at_8 : decode cX6_at 8 = .ok (.aload_n 0, 1) := by decide +kernel
theorem dX6_at_9 : decode cX6_at 9 = .ok (.getfield 179, 3) := by decide +kernel
theorem dX6_at_12 : decode cX6_at 12 = .ok (.iconst 1, 1) := by decide +kernel
theorem dX6_at_13 : decode cX6_at 13 = .ok (.isub, 1) := by decide +kernel
theorem dX6_at_14 : decode cX6_at 14 = .ok (.i2l, 1) := by decide +kernel
theorem dX6_at_15 : decode cX6_at 15 = .ok (.invokestatic 63, 3) := by decide +kernel
theorem dX6_at_18 : decode cX6_at 18 = .ok (.ifCond .eq 12, 3) := by decide +kernel
theorem dX6_at_21 : decode cX6_at 21 = .ok (.aload_n 0, 1) := by decide +kernel
theorem dX6_at_22 : decode cX6_at 22 = .ok (.getfield 56, 3) := by decide +kernel
theorem dX6_at_25 : decode cX6_at 25 = .ok (.iload_n 1, 1) := by decide +kernel
theorem dX6_at_26 : decode cX6_at 26 = .ok (.iaload, 1) := by decide +kernel
theorem dX6_at_27 : decode cX6_at 27 = .ok (.goto 5, 3) := by decide +kernel
theorem dX6_at_30 : decode cX6_at 30 = .ok (.bipush (-9), 2) := by decide +kernel
theorem dX6_at_32 : decode cX6_at 32 = .ok (.ireturn, 1) := by decide +kernel
theorem dX6_rough_0 : decode cX6_rough 0 = .ok (.aload_n 0, 1) := by decide +kernel
theorem dX6_rough_1 : decode cX6_rough 1 = .ok (.invokevirtual 182, 3) := by decide +kernel
theorem dX6_rough_4 : decode cX6_rough 4 = .ok (.ireturn, 1) := by decide +kernel
theorem dX6_changes_0 : decode cX6_changes 0 = .ok (.aload_n 0, 1) := by decide +kernel
theorem dX6_changes_1 : decode cX6_changes 1 = .ok (.invokevirtual 182, 3) := by decide +kernel
theorem dX6_changes_4 : decode cX6_changes 4 = .ok (.istore_n 1, 1) := by decide +kernel
theorem dX6_changes_5 : decode cX6_changes 5 = .ok (.iconst 0, 1) := by decide +kernel
theorem dX6_changes_6 : decode cX6_changes 6 = .ok (.istore_n 2, 1) := by decide +kernel
theorem dX6_changes_7 : decode cX6_changes 7 = .ok (.iconst 1, 1) := by decide +kernel
theorem dX6_changes_8 : decode cX6_changes 8 = .ok (.istore_n 3, 1) := by decide +kernel
theorem dX6_changes_9 : decode cX6_changes 9 = .ok (.iload_n 3, 1) := by decide +kernel
theorem dX6_changes_10 : decode cX6_changes 10 = .ok (.aload_n 0, 1) := by decide +kernel
theorem dX6_changes_11 : decode cX6_changes 11 = .ok (.getfield 179, 3) := by decide +kernel
theorem dX6_changes_14 : decode cX6_changes 14 = .ok (.if_icmp .ge 34, 3) := by decide +kernel
theorem dX6_changes_17 : decode cX6_changes 17 = .ok (.iload_n 2, 1) := by decide +kernel
theorem dX6_changes_18 : decode cX6_changes 18 = .ok (.aload_n 0, 1) := by decide +kernel
theorem dX6_changes_19 : decode cX6_changes 19 = .ok (.getfield 56, 3) := by decide +kernel
theorem dX6_changes_22 : decode cX6_changes 22 = .ok (.iload_n 3, 1) := by decide +kernel
theorem dX6_changes_23 : decode cX6_changes 23 = .ok (.iaload, 1) := by decide +kernel
theorem dX6_changes_24 : decode cX6_changes 24 = .ok (.aload_n 0, 1) := by decide +kernel
theorem dX6_changes_25 : decode cX6_changes 25 = .ok (.getfield 56, 3) := by decide +kernel
theorem dX6_changes_28 : decode cX6_changes 28 = .ok (.iload_n 3, 1) := by decide +kernel
theorem dX6_changes_29 : decode cX6_changes 29 = .ok (.iconst 1, 1) := by decide +kernel
theorem dX6_changes_30 : decode cX6_changes 30 = .ok (.isub, 1) := by decide +kernel
theorem dX6_changes_31 : decode cX6_changes 31 = .ok (.iaload, 1) := by decide +kernel
theorem dX6_changes_32 : decode cX6_changes 32 = .ok (.if_icmp .eq 7, 3) := by decide +kernel
theorem dX6_changes_35 : decode cX6_changes 35 = .ok (.iconst 1, 1) := by decide +kernel
theorem dX6_changes_36 : decode cX6_changes 36 = .ok (.goto 4, 3) := by decide +kernel
theorem dX6_changes_39 : decode cX6_changes 39 = .ok (.iconst 0, 1) := by decide +kernel
theorem dX6_changes_40 : decode cX6_changes 40 = .ok (.iadd, 1) := by decide +kernel
theorem dX6_changes_41 : decode cX6_changes 41 = .ok (.istore_n 2, 1) := by decide +kernel
theorem dX6_changes_42 : decode cX6_changes 42 = .ok (.iinc 3 1, 3) := by decide +kernel
theorem dX6_changes_45 : decode cX6_changes 45 = .ok (.goto (-36), 3) := by decide +kernel
theorem dX6_changes_48 : decode cX6_changes 48 = .ok (.iload_n 2, 1) := by decide +kernel
theorem dX6_changes_49 : decode cX6_changes 49 = .ok (.ireturn, 1) := by decide +kernel
theorem dX6_total_0 : decode cX6_total 0 = .ok (.iconst 0, 1) := by decide +kernel
theorem dX6_total_1 : decode cX6_total 1 = .ok (.istore_n 2, 1) := by decide +kernel
theorem dX6_total_2 : decode cX6_total 2 = .ok (.iconst 0, 1) := by decide +kernel
theorem dX6_total_3 : decode cX6_total 3 = .ok (.istore_n 3, 1) := by decide +kernel
theorem dX6_total_4 : decode cX6_total 4 = .ok (.iload_n 3, 1) := by decide +kernel
theorem dX6_total_5 : decode cX6_total 5 = .ok (.aload_n 0, 1) := by decide +kernel
theorem dX6_total_6 : decode cX6_total 6 = .ok (.getfield 67, 3) := by decide +kernel
theorem dX6_total_9 : decode cX6_total 9 = .ok (.if_icmp .ge 18, 3) := by decide +kernel
theorem dX6_total_12 : decode cX6_total 12 = .ok (.iload_n 2, 1) := by decide +kernel
theorem dX6_total_13 : decode cX6_total 13 = .ok (.aload_n 0, 1) := by decide +kernel
theorem dX6_total_14 : decode cX6_total 14 = .ok (.getfield 19, 3) := by decide +kernel
theorem dX6_total_17 : decode cX6_total 17 = .ok (.iload_n 3, 1) := by decide +kernel
theorem dX6_total_18 : decode cX6_total 18 = .ok (.iaload, 1) := by decide +kernel
theorem dX6_total_19 : decode cX6_total 19 = .ok (.iadd, 1) := by decide +kernel
theorem dX6_total_20 : decode cX6_total 20 = .ok (.istore_n 2, 1) := by decide +kernel
theorem dX6_total_21 : decode cX6_total 21 = .ok (.iinc 3 1, 3) := by decide +kernel
theorem dX6_total_24 : decode cX6_total 24 = .ok (.goto (-20), 3) := by decide +kernel
theorem dX6_total_27 : decode cX6_total 27 = .ok (.aload_n 0, 1) := by decide +kernel
theorem dX6_total_28 : decode cX6_total 28 = .ok (.invokevirtual 182, 3) := by decide +kernel
theorem dX6_total_31 : decode cX6_total 31 = .ok (.istore_n 3, 1) := by decide +kernel
theorem dX6_total_32 : decode cX6_total 32 = .ok (.iload_n 1, 1) := by decide +kernel
theorem dX6_total_33 : decode cX6_total 33 = .ok (.tableswitch 66 0 5 #[39, 44, 49, 51, 56, 61], 39) := by decide +kernel
theorem dX6_total_72 : decode cX6_total 72 = .ok (.aload_n 0, 1) := by decide +kernel
theorem dX6_total_73 : decode cX6_total 73 = .ok (.getfield 59, 3) := by decide +kernel
theorem dX6_total_76 : decode cX6_total 76 = .ok (.ireturn, 1) := by decide +kernel
theorem dX6_total_77 : decode cX6_total 77 = .ok (.aload_n 0, 1) := by decide +kernel
theorem dX6_total_78 : decode cX6_total 78 = .ok (.getfield 67, 3) := by decide +kernel
theorem dX6_total_81 : decode cX6_total 81 = .ok (.ireturn, 1) := by decide +kernel
theorem dX6_total_82 : decode cX6_total 82 = .ok (.iload_n 2, 1) := by decide +kernel
theorem dX6_total_83 : decode cX6_total 83 = .ok (.ireturn, 1) := by decide +kernel
theorem dX6_total_84 : decode cX6_total 84 = .ok (.aload_n 0, 1) := by decide +kernel
theorem dX6_total_85 : decode cX6_total 85 = .ok (.getfield 151, 3) := by decide +kernel
theorem dX6_total_88 : decode cX6_total 88 = .ok (.ireturn, 1) := by decide +kernel
theorem dX6_total_89 : decode cX6_total 89 = .ok (.aload_n 0, 1) := by decide +kernel
theorem dX6_total_90 : decode cX6_total 90 = .ok (.getfield 179, 3) := by decide +kernel
theorem dX6_total_93 : decode cX6_total 93 = .ok (.ireturn, 1) := by decide +kernel
theorem dX6_total_94 : decode cX6_total 94 = .ok (.aload_n 0, 1) := by decide +kernel
theorem dX6_total_95 : decode cX6_total 95 = .ok (.invokevirtual 95, 3) := by decide +kernel
theorem dX6_total_98 : decode cX6_total 98 = .ok (.ireturn, 1) := by decide +kernel
theorem dX6_total_99 : decode cX6_total 99 = .ok (.bipush (-2), 2) := by decide +kernel
theorem dX6_total_101 : decode cX6_total 101 = .ok (.ireturn, 1) := by decide +kernel
