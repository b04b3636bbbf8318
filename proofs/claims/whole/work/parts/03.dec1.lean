theorem dX0_init_0 : decode cX0_init 0 = .ok (.aload_n 0, 1) := by decide +kernel
theorem dX0_init_1 : decode cX0_init 1 = .ok (.invokespecial 3, 3) := by decide +kernel
theorem dX0_init_4 : decode cX0_init 4 = .ok (.aload_n 0, 1) := by decide +kernel
theorem dX0_init_5 : decode cX0_init 5 = .ok (.bipush 80, 2) := by decide +kernel
theorem dX0_init_7 : decode cX0_init 7 = .ok (.newarray .int, 2) := by decide +kernel
theorem dX0_init_9 : decode cX0_init 9 = .ok (.putfield 9, 3) := by decide +kernel
theorem dX0_init_12 : decode cX0_init 12 = .ok (.aload_n 0, 1) := by decide +kernel
theorem dX0_init_13 : decode cX0_init 13 = .ok (.bipush 80, 2) := by decide +kernel
theorem dX0_init_15 : decode cX0_init 15 = .ok (.newarray .int, 2) := by decide +kernel
theorem dX0_init_17 : decode cX0_init 17 = .ok (.putfield 15, 3) := by decide +kernel
theorem dX0_init_20 : decode cX0_init 20 = .ok (.aload_n 0, 1) := by decide +kernel
theorem dX0_init_21 : decode cX0_init 21 = .ok (.bipush 80, 2) := by decide +kernel
theorem dX0_init_23 : decode cX0_init 23 = .ok (.newarray .int, 2) := by decide +kernel
theorem dX0_init_25 : decode cX0_init 25 = .ok (.putfield 18, 3) := by decide +kernel
theorem dX0_init_28 : decode cX0_init 28 = .ok (.aload_n 0, 1) := by decide +kernel
theorem dX0_init_29 : decode cX0_init 29 = .ok (.iconst 5, 1) := by decide +kernel
theorem dX0_init_30 : decode cX0_init 30 = .ok (.newarray .int, 2) := by decide +kernel
theorem dX0_init_32 : decode cX0_init 32 = .ok (.putfield 21, 3) := by decide +kernel
theorem dX0_init_35 : decode cX0_init 35 = .ok (.return_, 1) := by decide +kernel
theorem dX0_size_0 : decode cX0_size 0 = .ok (.aload_n 0, 1) := by decide +kernel
theorem dX0_size_1 : decode cX0_size 1 = .ok (.getfield 24, 3) := by decide +kernel
theorem dX0_size_4 : decode cX0_size 4 = .ok (.ireturn, 1) := by decide +kernel
theorem dX0_lines_0 : decode cX0_lines 0 = .ok (.aload_n 0, 1) := by decide +kernel
theorem dX0_lines_1 : decode cX0_lines 1 = .ok (.getfield 28, 3) := by decide +kernel
theorem dX0_lines_4 : decode cX0_lines 4 = .ok (.ireturn, 1) := by decide +kernel
theorem dX0_startOf_0 : decode cX0_startOf 0 = .ok (.iload_n 1, 1) := by decide +kernel
theorem dX0_startOf_1 : decode cX0_startOf 1 = .ok (.iconst 1, 1) := by decide +kernel
theorem dX0_startOf_2 : decode cX0_startOf 2 = .ok (.if_icmp .lt 23, 3) := by decide +kernel
theorem dX0_startOf_5 : decode cX0_startOf 5 = .ok (.iload_n 1, 1) := by decide +kernel
theorem dX0_startOf_6 : decode cX0_startOf 6 = .ok (.aload_n 0, 1) := by decide +kernel
theorem dX0_startOf_7 : decode cX0_startOf 7 = .ok (.getfield 21, 3) := by decide +kernel
theorem dX0_startOf_10 : decode cX0_startOf 10 = .ok (.arraylength, 1) := by decide +kernel
theorem dX0_startOf_11 : decode cX0_startOf 11 = .ok (.if_icmp .gt 14, 3) := by decide +kernel
theorem dX0_startOf_14 : decode cX0_startOf 14 = .ok (.aload_n 0, 1) := by decide +kernel
theorem dX0_startOf_15 : decode cX0_startOf 15 = .ok (.getfield 21, 3) := by decide +kernel
theorem dX0_startOf_18 : decode cX0_startOf 18 = .ok (.iload_n 1, 1) := by decide +kernel
theorem dX0_startOf_19 : decode cX0_startOf 19 = .ok (.iconst 1, 1) := by decide +kernel
theorem dX0_startOf_20 : decode cX0_startOf 20 = .ok (.isub, 1) := by decide +kernel
theorem dX0_startOf_21 : decode cX0_startOf 21 = .ok (.iaload, 1) := by decide +kernel
theorem dX0_startOf_22 : decode cX0_startOf 22 = .ok (.goto 4, 3) := by decide +kernel
theorem dX0_startOf_25 : decode cX0_startOf 25 = .ok (.iconst 0, 1) := by decide +kernel
theorem dX0_startOf_26 : decode cX0_startOf 26 = .ok (.ireturn, 1) := by decide +kernel
theorem dX0_lengthOf_0 : decode cX0_lengthOf 0 = .ok (.iload_n 1, 1) := by decide +kernel
theorem dX0_lengthOf_1 : decode cX0_lengthOf 1 = .ok (.ifCond .lt 27, 3) := by decide +kernel
theorem dX0_lengthOf_4 : decode cX0_lengthOf 4 = .ok (.iload_n 1, 1) := by decide +kernel
theorem dX0_lengthOf_5 : decode cX0_lengthOf 5 = .ok (.aload_n 0, 1) := by decide +kernel
theorem dX0_lengthOf_6 : decode cX0_lengthOf 6 = .ok (.getfield 28, 3) := by decide +kernel
theorem dX0_lengthOf_9 : decode cX0_lengthOf 9 = .ok (.if_icmp .ge 19, 3) := by decide +kernel
theorem dX0_lengthOf_12 : decode cX0_lengthOf 12 = .ok (.aload_n 0, 1) := by decide +kernel
theorem dX0_lengthOf_13 : decode cX0_lengthOf 13 = .ok (.iload_n 1, 1) := by decide +kernel
theorem dX0_lengthOf_14 : decode cX0_lengthOf 14 = .ok (.iconst 1, 1) := by decide +kernel
theorem dX0_lengthOf_15 : decode cX0_lengthOf 15 = .ok (.iadd, 1) := by decide +kernel
theorem dX0_lengthOf_16 : decode cX0_lengthOf 16 = .ok (.invokevirtual 31, 3) := by decide +kernel
theorem dX0_lengthOf_19 : decode cX0_lengthOf 19 = .ok (.aload_n 0, 1) := by decide +kernel
theorem dX0_lengthOf_20 : decode cX0_lengthOf 20 = .ok (.iload_n 1, 1) := by decide +kernel
theorem dX0_lengthOf_21 : decode cX0_lengthOf 21 = .ok (.invokevirtual 31, 3) := by decide +kernel
theorem dX0_lengthOf_24 : decode cX0_lengthOf 24 = .ok (.isub, 1) := by decide +kernel
theorem dX0_lengthOf_25 : decode cX0_lengthOf 25 = .ok (.goto 4, 3) := by decide +kernel
theorem dX0_lengthOf_28 : decode cX0_lengthOf 28 = .ok (.iconst 0, 1) := by decide +kernel
theorem dX0_lengthOf_29 : decode cX0_lengthOf 29 = .ok (.ireturn, 1) := by decide +kernel
theorem dX0_sortAt_0 : decode cX0_sortAt 0 = .ok (.iload_n 1, 1) := by decide +kernel
theorem dX0_sortAt_1 : decode cX0_sortAt 1 = .ok (.ifCond .lt 21, 3) := by decide +kernel
theorem dX0_sortAt_4 : decode cX0_sortAt 4 = .ok (.iload_n 1, 1) := by decide +kernel
theorem dX0_sortAt_5 : decode cX0_sortAt 5 = .ok (.aload_n 0, 1) := by decide +kernel
theorem dX0_sortAt_6 : decode cX0_sortAt 6 = .ok (.getfield 15, 3) := by decide +kernel
theorem dX0_sortAt_9 : decode cX0_sortAt 9 = .ok (.arraylength, 1) := by decide +kernel
theorem dX0_sortAt_10 : decode cX0_sortAt 10 = .ok (.if_icmp .ge 12, 3) := by decide +kernel
theorem dX0_sortAt_13 : decode cX0_sortAt 13 = .ok (.aload_n 0, 1) := by decide +kernel
theorem dX0_sortAt_14 : decode cX0_sortAt 14 = .ok (.getfield 15, 3) := by decide +kernel
theorem dX0_sortAt_17 : decode cX0_sortAt 17 = .ok (.iload_n 1, 1) := by decide +kernel
theorem dX0_sortAt_18 : decode cX0_sortAt 18 = .ok (.iaload, 1) := by decide +kernel
theorem dX0_sortAt_19 : decode cX0_sortAt 19 = .ok (.goto 4, 3) := by decide +kernel
theorem dX0_sortAt_22 : decode cX0_sortAt 22 = .ok (.iconst (-1), 1) := by decide +kernel
theorem dX0_sortAt_23 : decode cX0_sortAt 23 = .ok (.ireturn, 1) := by decide +kernel
theorem dX0_wantedAt_0 : decode cX0_wantedAt 0 = .ok (.iload_n 1, 1) := by decide +kernel
theorem dX0_wantedAt_1 : decode cX0_wantedAt 1 = .ok (.ifCond .lt 21, 3) := by decide +kernel
theorem dX0_wantedAt_4 : decode cX0_wantedAt 4 = .ok (.iload_n 1, 1) := by decide +kernel
theorem dX0_wantedAt_5 : decode cX0_wantedAt 5 = .ok (.aload_n 0, 1) := by decide +kernel
theorem dX0_wantedAt_6 : decode cX0_wantedAt 6 = .ok (.getfield 9, 3) := by decide +kernel
theorem dX0_wantedAt_9 : decode cX0_wantedAt 9 = .ok (.arraylength, 1) := by decide +kernel
theorem dX0_wantedAt_10 : decode cX0_wantedAt 10 = .ok (.if_icmp .ge 12, 3) := by decide +kernel
theorem dX0_wantedAt_13 : decode cX0_wantedAt 13 = .ok (.aload_n 0, 1) := by decide +kernel
theorem dX0_wantedAt_14 : decode cX0_wantedAt 14 = .ok (.getfield 9, 3) := by decide +kernel
theorem dX0_wantedAt_17 : decode cX0_wantedAt 17 = .ok (.iload_n 1, 1) := by decide +kernel
theorem dX0_wantedAt_18 : decode cX0_wantedAt 18 = .ok (.iaload, 1) := by decide +kernel
theorem dX0_wantedAt_19 : decode cX0_wantedAt 19 = .ok (.goto 4, 3) := by decide +kernel
theorem dX0_wantedAt_22 : decode cX0_wantedAt 22 = .ok (.iconst (-1), 1) := by decide +kernel
theorem dX0_wantedAt_23 : decode cX0_wantedAt 23 = .ok (.ireturn, 1) := by decide +kernel
theorem dX0_turnedAt_0 : decode cX0_turnedAt 0 = .ok (.iload_n 1, 1) := by decide +kernel
theorem dX0_turnedAt_1 : decode cX0_turnedAt 1 = .ok (.ifCond .lt 26, 3) := by decide +kernel
theorem dX0_turnedAt_4 : decode cX0_turnedAt 4 = .ok (.iload_n 1, 1) := by decide +kernel
theorem dX0_turnedAt_5 : decode cX0_turnedAt 5 = .ok (.aload_n 0, 1) := by decide +kernel
theorem dX0_turnedAt_6 : decode cX0_turnedAt 6 = .ok (.getfield 18, 3) := by decide +kernel
theorem dX0_turnedAt_9 : decode cX0_turnedAt 9 = .ok (.arraylength, 1) := by decide +kernel
theorem dX0_turnedAt_10 : decode cX0_turnedAt 10 = .ok (.if_icmp .ge 17, 3) := by decide +kernel
theorem dX0_turnedAt_13 : decode cX0_turnedAt 13 = .ok (.aload_n 0, 1) := by decide +kernel
theorem dX0_turnedAt_14 : decode cX0_turnedAt 14 = .ok (.getfield 18, 3) := by decide +kernel
theorem dX0_turnedAt_17 : decode cX0_turnedAt 17 = .ok (.iload_n 1, 1) := by decide +kernel
theorem dX0_turnedAt_18 : decode cX0_turnedAt 18 = .ok (.iaload, 1) := by decide +kernel
theorem dX0_turnedAt_19 : decode cX0_turnedAt 19 = .ok (.iconst 1, 1) := by decide +kernel
theorem dX0_turnedAt_20 : decode cX0_turnedAt 20 = .ok (.if_icmp .ne 7, 3) := by decide +kernel
theorem dX0_turnedAt_23 : decode cX0_turnedAt 23 = .ok (.iconst 1, 1) := by decide +kernel
theorem dX0_turnedAt_24 : decode cX0_turnedAt 24 = .ok (.goto 4, 3) := by decide +kernel
theorem dX0_turnedAt_27 : decode cX0_turnedAt 27 = .ok (.iconst 0, 1) := by decide +kernel
theorem dX0_turnedAt_28 : decode cX0_turnedAt 28 = .ok (.ireturn, 1) := by decide +kernel
theorem dX0_wrongAt_0 : decode cX0_wrongAt 0 = .ok (.aload_n 0, 1) := by decide +kernel
theorem dX0_wrongAt_1 : decode cX0_wrongAt 1 = .ok (.iload_n 1, 1) := by decide +kernel
theorem dX0_wrongAt_2 : decode cX0_wrongAt 2 = .ok (.invokevirtual 35, 3) := by decide +kernel
theorem dX0_wrongAt_5 : decode cX0_wrongAt 5 = .ok (.ifCond .ne 16, 3) := by decide +kernel
theorem dX0_wrongAt_8 : decode cX0_wrongAt 8 = .ok (.aload_n 0, 1) := by decide +kernel
theorem dX0_wrongAt_9 : decode cX0_wrongAt 9 = .ok (.iload_n 1, 1) := by decide +kernel
theorem dX0_wrongAt_10 : decode cX0_wrongAt 10 = .ok (.invokevirtual 39, 3) := by decide +kernel
theorem dX0_wrongAt_13 : decode cX0_wrongAt 13 = .ok (.aload_n 0, 1) := by decide +kernel
theorem dX0_wrongAt_14 : decode cX0_wrongAt 14 = .ok (.iload_n 1, 1) := by decide +kernel
theorem dX0_wrongAt_15 : decode cX0_wrongAt 15 = .ok (.invokevirtual 42, 3) := by decide +kernel
theorem dX0_wrongAt_18 : decode cX0_wrongAt 18 = .ok (.if_icmp .eq 7, 3) := by decide +kernel
theorem dX0_wrongAt_21 : decode cX0_wrongAt 21 = .ok (.iconst 1, 1) := by decide +kernel
theorem dX0_wrongAt_22 : decode cX0_wrongAt 22 = .ok (.goto 4, 3) := by decide +kernel
theorem dX0_wrongAt_25 : decode cX0_wrongAt 25 = .ok (.iconst 0, 1) := by decide +kernel
theorem dX0_wrongAt_26 : decode cX0_wrongAt 26 = .ok (.ireturn, 1) := by decide +kernel
theorem dX0_about_0 : decode cX0_about 0 = .ok (.iload_n 2, 1) := by decide +kernel
theorem dX0_about_1 : decode cX0_about 1 = .ok (.tableswitch 53 0 2 #[27, 33, 39], 27) := by decide +kernel
theorem dX0_about_28 : decode cX0_about 28 = .ok (.aload_n 0, 1) := by decide +kernel
theorem dX0_about_29 : decode cX0_about 29 = .ok (.iload_n 1, 1) := by decide +kernel
theorem dX0_about_30 : decode cX0_about 30 = .ok (.invokevirtual 42, 3) := by decide +kernel
theorem dX0_about_33 : decode cX0_about 33 = .ok (.ireturn, 1) := by decide +kernel
theorem dX0_about_34 : decode cX0_about 34 = .ok (.aload_n 0, 1) := by decide +kernel
theorem dX0_about_35 : decode cX0_about 35 = .ok (.iload_n 1, 1) := by decide +kernel
theorem dX0_about_36 : decode cX0_about 36 = .ok (.invokevirtual 39, 3) := by decide +kernel
theorem dX0_about_39 : decode cX0_about 39 = .ok (.ireturn, 1) := by decide +kernel
theorem dX0_about_40 : decode cX0_about 40 = .ok (.aload_n 0, 1) := by decide +kernel
theorem dX0_about_41 : decode cX0_about 41 = .ok (.iload_n 1, 1) := by decide +kernel
theorem dX0_about_42 : decode cX0_about 42 = .ok (.invokevirtual 35, 3) := by decide +kernel
theorem dX0_about_45 : decode cX0_about 45 = .ok (.ifCond .eq 7, 3) := by decide +kernel
theorem dX0_about_48 : decode cX0_about 48 = .ok (.iconst 1, 1) := by decide +kernel
theorem dX0_about_49 : decode cX0_about 49 = .ok (.goto 4, 3) := by decide +kernel
theorem dX0_about_52 : decode cX0_about 52 = .ok (.iconst 0, 1) := by decide +kernel
theorem dX0_about_53 : decode cX0_about 53 = .ok (.ireturn, 1) := by decide +kernel
theorem dX0_about_54 : decode cX0_about 54 = .ok (.aload_n 0, 1) := by decide +kernel
theorem dX0_about_55 : decode cX0_about 55 = .ok (.iload_n 1, 1) := by decide +kernel
theorem dX0_about_56 : decode cX0_about 56 = .ok (.invokevirtual 45, 3) := by decide +kernel
theorem dX0_about_59 : decode cX0_about 59 = .ok (.ifCond .eq 7, 3) := by decide +kernel
theorem dX0_about_62 : decode cX0_about 62 = .ok (.iconst 1, 1) := by decide +kernel
theorem dX0_about_63 : decode cX0_about 63 = .ok (.goto 4, 3) := by decide +kernel
theorem dX0_about_66 : decode cX0_about 66 = .ok (.iconst 0, 1) := by decide +kernel
theorem dX0_about_67 : decode cX0_about 67 = .ok (.ireturn, 1) := by decide +kernel
theorem dX0_add_0 : decode cX0_add 0 = .ok (.aload_n 0, 1) := by decide +kernel
theorem dX0_add_1 : decode cX0_add 1 = .ok (.getfield 24, 3) := by decide +kernel
theorem dX0_add_4 : decode cX0_add 4 = .ok (.ifCond .lt 63, 3) := by decide +kernel
theorem dX0_add_7 : decode cX0_add 7 = .ok (.aload_n 0, 1) := by decide +kernel
theorem dX0_add_8 : decode cX0_add 8 = .ok (.getfield 24, 3) := by decide +kernel
theorem dX0_add_11 : decode cX0_add 11 = .ok (.aload_n 0, 1) := by decide +kernel
theorem dX0_add_12 : decode cX0_add 12 = .ok (.getfield 15, 3) := by decide +kernel
theorem dX0_add_15 : decode cX0_add 15 = .ok (.arraylength, 1) := by decide +kernel
theorem dX0_add_16 : decode cX0_add 16 = .ok (.if_icmp .ge 51, 3) := by decide +kernel
theorem dX0_add_19 : decode cX0_add 19 = .ok (.aload_n 0, 1) := by decide +kernel
theorem dX0_add_20 : decode cX0_add 20 = .ok (.getfield 9, 3) := by decide +kernel
theorem dX0_add_23 : decode cX0_add 23 = .ok (.aload_n 0, 1) := by decide +kernel
theorem dX0_add_24 : decode cX0_add 24 = .ok (.getfield 24, 3) := by decide +kernel
theorem dX0_add_27 : decode cX0_add 27 = .ok (.iload_n 1, 1) := by decide +kernel
theorem dX0_add_28 : decode cX0_add 28 = .ok (.iastore, 1) := by decide +kernel
theorem dX0_add_29 : decode cX0_add 29 = .ok (.aload_n 0, 1) := by decide +kernel
theorem dX0_add_30 : decode cX0_add 30 = .ok (.getfield 15, 3) := by decide +kernel
theorem dX0_add_33 : decode cX0_add 33 = .ok (.aload_n 0, 1) := by decide +kernel
theorem dX0_add_34 : decode cX0_add 34 = .ok (.getfield 24, 3) := by decide +kernel
theorem dX0_add_37 : decode cX0_add 37 = .ok (.iload_n 2, 1) := by decide +kernel
theorem dX0_add_38 : decode cX0_add 38 = .ok (.iastore, 1) := by decide +kernel
theorem dX0_add_39 : decode cX0_add 39 = .ok (.aload_n 0, 1) := by decide +kernel
theorem dX0_add_40 : decode cX0_add 40 = .ok (.getfield 18, 3) := by decide +kernel
theorem dX0_add_43 : decode cX0_add 43 = .ok (.aload_n 0, 1) := by decide +kernel
theorem dX0_add_44 : decode cX0_add 44 = .ok (.getfield 24, 3) := by decide +kernel
theorem dX0_add_47 : decode cX0_add 47 = .ok (.iload_n 3, 1) := by decide +kernel
theorem dX0_add_48 : decode cX0_add 48 = .ok (.ifCond .eq 7, 3) := by decide +kernel
theorem dX0_add_51 : decode cX0_add 51 = .ok (.iconst 1, 1) := by decide +kernel
theorem dX0_add_52 : decode cX0_add 52 = .ok (.goto 4, 3) := by decide +kernel
theorem dX0_add_55 : decode cX0_add 55 = .ok (.iconst 0, 1) := by decide +kernel
theorem dX0_add_56 : decode cX0_add 56 = .ok (.iastore, 1) := by decide +kernel
theorem dX0_add_57 : decode cX0_add 57 = .ok (.aload_n 0, 1) := by decide +kernel
theorem dX0_add_58 : decode cX0_add 58 = .ok (.dup, 1) := by decide +kernel
theorem dX0_add_59 : decode cX0_add 59 = .ok (.getfield 24, 3) := by decide +kernel
theorem dX0_add_62 : decode cX0_add 62 = .ok (.iconst 1, 1) := by decide +kernel
theorem dX0_add_63 : decode cX0_add 63 = .ok (.iadd, 1) := by decide +kernel
theorem dX0_add_64 : decode cX0_add 64 = .ok (.putfield 24, 3) := by decide +kernel
theorem dX0_add_67 : decode cX0_add 67 = .ok (.return_, 1) := by decide +kernel
theorem dX0_endLine_0 : decode cX0_endLine 0 = .ok (.aload_n 0, 1) := by decide +kernel
theorem dX0_endLine_1 : decode cX0_endLine 1 = .ok (.getfield 28, 3) := by decide +kernel
theorem dX0_endLine_4 : decode cX0_endLine 4 = .ok (.ifCond .lt 38, 3) := by decide +kernel
theorem dX0_endLine_7 : decode cX0_endLine 7 = .ok (.aload_n 0, 1) := by decide +kernel
theorem dX0_endLine_8 : decode cX0_endLine 8 = .ok (.getfield 28, 3) := by decide +kernel
theorem dX0_endLine_11 : decode cX0_endLine 11 = .ok (.aload_n 0, 1) := by decide +kernel
theorem dX0_endLine_12 : decode cX0_endLine 12 = .ok (.getfield 21, 3) := by decide +kernel
theorem dX0_endLine_15 : decode cX0_endLine 15 = .ok (.arraylength, 1) := by decide +kernel
theorem dX0_endLine_16 : decode cX0_endLine 16 = .ok (.if_icmp .ge 26, 3) := by decide +kernel
theorem dX0_endLine_19 : decode cX0_endLine 19 = .ok (.aload_n 0, 1) := by decide +kernel
theorem dX0_endLine_20 : decode cX0_endLine 20 = .ok (.getfield 21, 3) := by decide +kernel
theorem dX0_endLine_23 : decode cX0_endLine 23 = .ok (.aload_n 0, 1) := by decide +kernel
theorem dX0_endLine_24 : decode cX0_endLine 24 = .ok (.getfield 28, 3) := by decide +kernel
theorem dX0_endLine_27 : decode cX0_endLine 27 = .ok (.aload_n 0, 1) := by decide +kernel
theorem dX0_endLine_28 : decode cX0_endLine 28 = .ok (.getfield 24, 3) := by decide +kernel
theorem dX0_endLine_31 : decode cX0_endLine 31 = .ok (.iastore, 1) := by decide +kernel
theorem dX0_endLine_32 : decode cX0_endLine 32 = .ok (.aload_n 0, 1) := by decide +kernel
theorem dX0_endLine_33 : decode cX0_endLine 33 = .ok (.dup, 1) := by decide +kernel
theorem dX0_endLine_34 : decode cX0_endLine 34 = .ok (.getfield 28, 3) := by decide +kernel
theorem dX0_endLine_37 : decode cX0_endLine 37 = .ok (.iconst 1, 1) := by decide +kernel
theorem dX0_endLine_38 : decode cX0_endLine 38 = .ok (.iadd, 1) := by decide +kernel
theorem dX0_endLine_39 : decode cX0_endLine 39 = .ok (.putfield 28, 3) := by decide +kernel
theorem dX0_endLine_42 : decode cX0_endLine 42 = .ok (.return_, 1) := by decide +kernel
theorem dX0_putRight_0 : decode cX0_putRight 0 = .ok (.iload_n 1, 1) := by decide +kernel
theorem dX0_putRight_1 : decode cX0_putRight 1 = .ok (.ifCond .lt 31, 3) := by decide +kernel
theorem dX0_putRight_4 : decode cX0_putRight 4 = .ok (.iload_n 1, 1) := by decide +kernel
theorem dX0_putRight_5 : decode cX0_putRight 5 = .ok (.aload_n 0, 1) := by decide +kernel
theorem dX0_putRight_6 : decode cX0_putRight 6 = .ok (.getfield 15, 3) := by decide +kernel
theorem dX0_putRight_9 : decode cX0_putRight 9 = .ok (.arraylength, 1) := by decide +kernel
theorem dX0_putRight_10 : decode cX0_putRight 10 = .ok (.if_icmp .ge 22, 3) := by decide +kernel
theorem dX0_putRight_13 : decode cX0_putRight 13 = .ok (.aload_n 0, 1) := by decide +kernel
theorem dX0_putRight_14 : decode cX0_putRight 14 = .ok (.getfield 15, 3) := by decide +kernel
theorem dX0_putRight_17 : decode cX0_putRight 17 = .ok (.iload_n 1, 1) := by decide +kernel
theorem dX0_putRight_18 : decode cX0_putRight 18 = .ok (.aload_n 0, 1) := by decide +kernel
theorem dX0_putRight_19 : decode cX0_putRight 19 = .ok (.getfield 9, 3) := by decide +kernel
theorem dX0_putRight_22 : decode cX0_putRight 22 = .ok (.iload_n 1, 1) := by decide +kernel
theorem dX0_putRight_23 : decode cX0_putRight 23 = .ok (.iaload, 1) := by decide +kernel
theorem dX0_putRight_24 : decode cX0_putRight 24 = .ok (.iastore, 1) := by decide +kernel
theorem dX0_putRight_25 : decode cX0_putRight 25 = .ok (.aload_n 0, 1) := by decide +kernel
theorem dX0_putRight_26 : decode cX0_putRight 26 = .ok (.getfield 18, 3) := by decide +kernel
theorem dX0_putRight_29 : decode cX0_putRight 29 = .ok (.iload_n 1, 1) := by decide +kernel
theorem dX0_putRight_30 : decode cX0_putRight 30 = .ok (.iconst 0, 1) := by decide +kernel
theorem dX0_putRight_31 : decode cX0_putRight 31 = .ok (.iastore, 1) := by decide +kernel
theorem dX0_putRight_32 : decode cX0_putRight 32 = .ok (.return_, 1) := by decide +kernel
theorem dX0_clear_0 : decode cX0_clear 0 = .ok (.aload_n 0, 1) := by decide +kernel
theorem dX0_clear_1 : decode cX0_clear 1 = .ok (.iconst 0, 1) := by decide +kernel
theorem dX0_clear_2 : decode cX0_clear 2 = .ok (.putfield 24, 3) := by decide +kernel
theorem dX0_clear_5 : decode cX0_clear 5 = .ok (.aload_n 0, 1) := by decide +kernel
theorem dX0_clear_6 : decode cX0_clear 6 = .ok (.iconst 0, 1) := by decide +kernel
theorem dX0_clear_7 : decode cX0_clear 7 = .ok (.putfield 28, 3) := by decide +kernel
theorem dX0_clear_10 : decode cX0_clear 10 = .ok (.return_, 1) := by decide +kernel
theorem dX0_errors_0 : decode cX0_errors 0 = .ok (.iconst 0, 1) := by decide +kernel
theorem dX0_errors_1 : decode cX0_errors 1 = .ok (.istore_n 1, 1) := by decide +kernel
theorem dX0_errors_2 : decode cX0_errors 2 = .ok (.iconst 0, 1) := by decide +kernel
theorem dX0_errors_3 : decode cX0_errors 3 = .ok (.istore_n 2, 1) := by decide +kernel
theorem dX0_errors_4 : decode cX0_errors 4 = .ok (.iload_n 2, 1) := by decide +kernel
theorem dX0_errors_5 : decode cX0_errors 5 = .ok (.aload_n 0, 1) := by decide +kernel
theorem dX0_errors_6 : decode cX0_errors 6 = .ok (.getfield 24, 3) := by decide +kernel
theorem dX0_errors_9 : decode cX0_errors 9 = .ok (.if_icmp .ge 20, 3) := by decide +kernel
theorem dX0_errors_12 : decode cX0_errors 12 = .ok (.aload_n 0, 1) := by decide +kernel
theorem dX0_errors_13 : decode cX0_errors 13 = .ok (.iload_n 2, 1) := by decide +kernel
theorem dX0_errors_14 : decode cX0_errors 14 = .ok (.invokevirtual 45, 3) := by decide +kernel
theorem dX0_errors_17 : decode cX0_errors 17 = .ok (.ifCond .eq 6, 3) := by decide +kernel
theorem dX0_errors_20 : decode cX0_errors 20 = .ok (.iinc 1 1, 3) := by decide +kernel
theorem dX0_errors_23 : decode cX0_errors 23 = .ok (.iinc 2 1, 3) := by decide +kernel
theorem dX0_errors_26 : decode cX0_errors 26 = .ok (.goto (-22), 3) := by decide +kernel
theorem dX0_errors_29 : decode cX0_errors 29 = .ok (.iload_n 1, 1) := by decide +kernel
theorem dX0_errors_30 : decode cX0_errors 30 = .ok (.ireturn, 1) := by decide +kernel
theorem dX0_turnedSorts_0 : decode cX0_turnedSorts 0 = .ok (.iconst 0, 1) := by decide +kernel
theorem dX0_turnedSorts_1 : decode cX0_turnedSorts 1 = .ok (.istore_n 1, 1) := by decide +kernel
theorem dX0_turnedSorts_2 : decode cX0_turnedSorts 2 = .ok (.iconst 0, 1) := by decide +kernel
theorem dX0_turnedSorts_3 : decode cX0_turnedSorts 3 = .ok (.istore_n 2, 1) := by decide +kernel
theorem dX0_turnedSorts_4 : decode cX0_turnedSorts 4 = .ok (.iload_n 2, 1) := by decide +kernel
theorem dX0_turnedSorts_5 : decode cX0_turnedSorts 5 = .ok (.aload_n 0, 1) := by decide +kernel
theorem dX0_turnedSorts_6 : decode cX0_turnedSorts 6 = .ok (.getfield 24, 3) := by decide +kernel
theorem dX0_turnedSorts_9 : decode cX0_turnedSorts 9 = .ok (.if_icmp .ge 20, 3) := by decide +kernel
theorem dX0_turnedSorts_12 : decode cX0_turnedSorts 12 = .ok (.aload_n 0, 1) := by decide +kernel
theorem dX0_turnedSorts_13 : decode cX0_turnedSorts 13 = .ok (.iload_n 2, 1) := by decide +kernel
theorem dX0_turnedSorts_14 : decode cX0_turnedSorts 14 = .ok (.invokevirtual 35, 3) := by decide +kernel
theorem dX0_turnedSorts_17 : decode cX0_turnedSorts 17 = .ok (.ifCond .eq 6, 3) := by decide +kernel
theorem dX0_turnedSorts_20 : decode cX0_turnedSorts 20 = .ok (.iinc 1 1, 3) := by decide +kernel
theorem dX0_turnedSorts_23 : decode cX0_turnedSorts 23 = .ok (.iinc 2 1, 3) := by decide +kernel
theorem dX0_turnedSorts_26 : decode cX0_turnedSorts 26 = .ok (.goto (-22), 3) := by decide +kernel
theorem dX0_turnedSorts_29 : decode cX0_turnedSorts 29 = .ok (.iload_n 1, 1) := by decide +kernel
theorem dX0_turnedSorts_30 : decode cX0_turnedSorts 30 = .ok (.ireturn, 1) := by decide +kernel
theorem dX0_countOf_0 : decode cX0_countOf 0 = .ok (.iconst 0, 1) := by decide +kernel
theorem dX0_countOf_1 : decode cX0_countOf 1 = .ok (.istore_n 2, 1) := by decide +kernel
theorem dX0_countOf_2 : decode cX0_countOf 2 = .ok (.iconst 0, 1) := by decide +kernel
theorem dX0_countOf_3 : decode cX0_countOf 3 = .ok (.istore_n 3, 1) := by decide +kernel
theorem dX0_countOf_4 : decode cX0_countOf 4 = .ok (.iload_n 3, 1) := by decide +kernel
theorem dX0_countOf_5 : decode cX0_countOf 5 = .ok (.aload_n 0, 1) := by decide +kernel
theorem dX0_countOf_6 : decode cX0_countOf 6 = .ok (.getfield 24, 3) := by decide +kernel
theorem dX0_countOf_9 : decode cX0_countOf 9 = .ok (.if_icmp .ge 21, 3) := by decide +kernel
theorem dX0_countOf_12 : decode cX0_countOf 12 = .ok (.aload_n 0, 1) := by decide +kernel
theorem dX0_countOf_13 : decode cX0_countOf 13 = .ok (.iload_n 3, 1) := by decide +kernel
theorem dX0_countOf_14 : decode cX0_countOf 14 = .ok (.invokevirtual 39, 3) := by decide +kernel
theorem dX0_countOf_17 : decode cX0_countOf 17 = .ok (.iload_n 1, 1) := by decide +kernel
theorem dX0_countOf_18 : decode cX0_countOf 18 = .ok (.if_icmp .ne 6, 3) := by decide +kernel
theorem dX0_countOf_21 : decode cX0_countOf 21 = .ok (.iinc 2 1, 3) := by decide +kernel
theorem dX0_countOf_24 : decode cX0_countOf 24 = .ok (.iinc 3 1, 3) := by decide +kernel
theorem dX0_countOf_27 : decode cX0_countOf 27 = .ok (.goto (-23), 3) := by decide +kernel
theorem dX0_countOf_30 : decode cX0_countOf 30 = .ok (.iload_n 2, 1) := by decide +kernel
theorem dX0_countOf_31 : decode cX0_countOf 31 = .ok (.ireturn, 1) := by decide +kernel
theorem dX0_errorAt_0 : decode cX0_errorAt 0 = .ok (.iconst 0, 1) := by decide +kernel
theorem dX0_errorAt_1 : decode cX0_errorAt 1 = .ok (.istore_n 2, 1) := by decide +kernel
theorem dX0_errorAt_2 : decode cX0_errorAt 2 = .ok (.iconst 0, 1) := by decide +kernel
theorem dX0_errorAt_3 : decode cX0_errorAt 3 = .ok (.istore_n 3, 1) := by decide +kernel
theorem dX0_errorAt_4 : decode cX0_errorAt 4 = .ok (.iload_n 3, 1) := by decide +kernel
theorem dX0_errorAt_5 : decode cX0_errorAt 5 = .ok (.aload_n 0, 1) := by decide +kernel
theorem dX0_errorAt_6 : decode cX0_errorAt 6 = .ok (.getfield 28, 3) := by decide +kernel
theorem dX0_errorAt_9 : decode cX0_errorAt 9 = .ok (.if_icmp .ge 63, 3) := by decide +kernel
theorem dX0_errorAt_12 : decode cX0_errorAt 12 = .ok (.aload_n 0, 1) := by decide +kernel
theorem dX0_errorAt_13 : decode cX0_errorAt 13 = .ok (.iload_n 3, 1) := by decide +kernel
theorem dX0_errorAt_14 : decode cX0_errorAt 14 = .ok (.invokevirtual 48, 3) := by decide +kernel
theorem dX0_errorAt_17 : decode cX0_errorAt 17 = .ok (.istore 4, 2) := by decide +kernel
theorem dX0_errorAt_19 : decode cX0_errorAt 19 = .ok (.iconst 0, 1) := by decide +kernel
theorem dX0_errorAt_20 : decode cX0_errorAt 20 = .ok (.istore 5, 2) := by decide +kernel
theorem dX0_errorAt_22 : decode cX0_errorAt 22 = .ok (.iload 5, 2) := by decide +kernel
theorem dX0_errorAt_24 : decode cX0_errorAt 24 = .ok (.iload 4, 2) := by decide +kernel
theorem dX0_errorAt_26 : decode cX0_errorAt 26 = .ok (.if_icmp .ge 40, 3) := by decide +kernel
theorem dX0_errorAt_29 : decode cX0_errorAt 29 = .ok (.aload_n 0, 1) := by decide +kernel
theorem dX0_errorAt_30 : decode cX0_errorAt 30 = .ok (.aload_n 0, 1) := by decide +kernel
theorem dX0_errorAt_31 : decode cX0_errorAt 31 = .ok (.iload_n 3, 1) := by decide +kernel
theorem dX0_errorAt_32 : decode cX0_errorAt 32 = .ok (.invokevirtual 31, 3) := by decide +kernel
theorem dX0_errorAt_35 : decode cX0_errorAt 35 = .ok (.iload 5, 2) := by decide +kernel
theorem dX0_errorAt_37 : decode cX0_errorAt 37 = .ok (.iadd, 1) := by decide +kernel
theorem dX0_errorAt_38 : decode cX0_errorAt 38 = .ok (.invokevirtual 45, 3) := by decide +kernel
theorem dX0_errorAt_41 : decode cX0_errorAt 41 = .ok (.ifCond .eq 19, 3) := by decide +kernel
theorem dX0_errorAt_44 : decode cX0_errorAt 44 = .ok (.iload_n 2, 1) := by decide +kernel
theorem dX0_errorAt_45 : decode cX0_errorAt 45 = .ok (.iload_n 1, 1) := by decide +kernel
theorem dX0_errorAt_46 : decode cX0_errorAt 46 = .ok (.if_icmp .ne 11, 3) := by decide +kernel
theorem dX0_errorAt_49 : decode cX0_errorAt 49 = .ok (.bipush 100, 2) := by decide +kernel
theorem dX0_errorAt_51 : decode cX0_errorAt 51 = .ok (.iload_n 3, 1) := by decide +kernel
theorem dX0_errorAt_52 : decode cX0_errorAt 52 = .ok (.imul, 1) := by decide +kernel
theorem dX0_errorAt_53 : decode cX0_errorAt 53 = .ok (.iload 5, 2) := by decide +kernel
theorem dX0_errorAt_55 : decode cX0_errorAt 55 = .ok (.iadd, 1) := by decide +kernel
theorem dX0_errorAt_56 : decode cX0_errorAt 56 = .ok (.ireturn, 1) := by decide +kernel
theorem dX0_errorAt_57 : decode cX0_errorAt 57 = .ok (.iinc 2 1, 3) := by decide +kernel
theorem dX0_errorAt_60 : decode cX0_errorAt 60 = .ok (.iinc 5 1, 3) := by decide +kernel
theorem dX0_errorAt_63 : decode cX0_errorAt 63 = .ok (.goto (-41), 3) := by decide +kernel
theorem dX0_errorAt_66 : decode cX0_errorAt 66 = .ok (.iinc 3 1, 3) := by decide +kernel
theorem dX0_errorAt_69 : decode cX0_errorAt 69 = .ok (.goto (-65), 3) := by decide +kernel
theorem dX0_errorAt_72 : decode cX0_errorAt 72 = .ok (.iconst (-1), 1) := by decide +kernel
theorem dX0_errorAt_73 : decode cX0_errorAt 73 = .ok (.ireturn, 1) := by decide +kernel
theorem dX0_mixedInto_0 : decode cX0_mixedInto 0 = .ok (.lload_n 1, 1) := by decide +kernel
theorem dX0_mixedInto_1 : decode cX0_mixedInto 1 = .ok (.lstore_n 3, 1) := by decide +kernel
theorem dX0_mixedInto_2 : decode cX0_mixedInto 2 = .ok (.iconst 0, 1) := by decide +kernel
theorem dX0_mixedInto_3 : decode cX0_mixedInto 3 = .ok (.istore 5, 2) := by decide +kernel
theorem dX0_mixedInto_5 : decode cX0_mixedInto 5 = .ok (.iload 5, 2) := by decide +kernel
theorem dX0_mixedInto_7 : decode cX0_mixedInto 7 = .ok (.aload_n 0, 1) := by decide +kernel
theorem dX0_mixedInto_8 : decode cX0_mixedInto 8 = .ok (.getfield 28, 3) := by decide +kernel
theorem dX0_mixedInto_11 : decode cX0_mixedInto 11 = .ok (.if_icmp .ge 77, 3) := by decide +kernel
theorem dX0_mixedInto_14 : decode cX0_mixedInto 14 = .ok (.aload_n 0, 1) := by decide +kernel
theorem dX0_mixedInto_15 : decode cX0_mixedInto 15 = .ok (.iload 5, 2) := by decide +kernel
theorem dX0_mixedInto_17 : decode cX0_mixedInto 17 = .ok (.invokevirtual 48, 3) := by decide +kernel
theorem dX0_mixedInto_20 : decode cX0_mixedInto 20 = .ok (.istore 6, 2) := by decide +kernel
theorem dX0_mixedInto_22 : decode cX0_mixedInto 22 = .ok (.lload_n 3, 1) := by decide +kernel
theorem dX0_mixedInto_23 : decode cX0_mixedInto 23 = .ok (.iload 6, 2) := by decide +kernel
theorem dX0_mixedInto_25 : decode cX0_mixedInto 25 = .ok (.i2l, 1) := by decide +kernel
theorem dX0_mixedInto_26 : decode cX0_mixedInto 26 = .ok (.invokestatic 51, 3) := by decide +kernel
theorem dX0_mixedInto_29 : decode cX0_mixedInto 29 = .ok (.lstore_n 3, 1) := by decide +kernel
theorem dX0_mixedInto_30 : decode cX0_mixedInto 30 = .ok (.iconst 0, 1) := by decide +kernel
theorem dX0_mixedInto_31 : decode cX0_mixedInto 31 = .ok (.istore 7, 2) := by decide +kernel
theorem dX0_mixedInto_33 : decode cX0_mixedInto 33 = .ok (.iload 7, 2) := by decide +kernel
theorem dX0_mixedInto_35 : decode cX0_mixedInto 35 = .ok (.iload 6, 2) := by decide +kernel
theorem dX0_mixedInto_37 : decode cX0_mixedInto 37 = .ok (.if_icmp .ge 45, 3) := by decide +kernel
theorem dX0_mixedInto_40 : decode cX0_mixedInto 40 = .ok (.iconst 0, 1) := by decide +kernel
theorem dX0_mixedInto_41 : decode cX0_mixedInto 41 = .ok (.istore 8, 2) := by decide +kernel
theorem dX0_mixedInto_43 : decode cX0_mixedInto 43 = .ok (.iload 8, 2) := by decide +kernel
theorem dX0_mixedInto_45 : decode cX0_mixedInto 45 = .ok (.iconst 3, 1) := by decide +kernel
theorem dX0_mixedInto_46 : decode cX0_mixedInto 46 = .ok (.if_icmp .gt 30, 3) := by decide +kernel
theorem dX0_mixedInto_49 : decode cX0_mixedInto 49 = .ok (.lload_n 3, 1) := by decide +kernel
theorem dX0_mixedInto_50 : decode cX0_mixedInto 50 = .ok (.aload_n 0, 1) := by decide +kernel
theorem dX0_mixedInto_51 : decode cX0_mixedInto 51 = .ok (.aload_n 0, 1) := by decide +kernel
theorem dX0_mixedInto_52 : decode cX0_mixedInto 52 = .ok (.iload 5, 2) := by decide +kernel
theorem dX0_mixedInto_54 : decode cX0_mixedInto 54 = .ok (.invokevirtual 31, 3) := by decide +kernel
theorem dX0_mixedInto_57 : decode cX0_mixedInto 57 = .ok (.iload 7, 2) := by decide +kernel
theorem dX0_mixedInto_59 : decode cX0_mixedInto 59 = .ok (.iadd, 1) := by decide +kernel
theorem dX0_mixedInto_60 : decode cX0_mixedInto 60 = .ok (.iload 8, 2) := by decide +kernel
theorem dX0_mixedInto_62 : decode cX0_mixedInto 62 = .ok (.invokevirtual 55, 3) := by decide +kernel
theorem dX0_mixedInto_65 : decode cX0_mixedInto 65 = .ok (.i2l, 1) := by decide +kernel
theorem dX0_mixedInto_66 : decode cX0_mixedInto 66 = .ok (.invokestatic 51, 3) := by decide +kernel
theorem dX0_mixedInto_69 : decode cX0_mixedInto 69 = .ok (.lstore_n 3, 1) := by decide +kernel
theorem dX0_mixedInto_70 : decode cX0_mixedInto 70 = .ok (.iinc 8 1, 3) := by decide +kernel
theorem dX0_mixedInto_73 : decode cX0_mixedInto 73 = .ok (.goto (-30), 3) := by decide +kernel
theorem dX0_mixedInto_76 : decode cX0_mixedInto 76 = .ok (.iinc 7 1, 3) := by decide +kernel
theorem dX0_mixedInto_79 : decode cX0_mixedInto 79 = .ok (.goto (-46), 3) := by decide +kernel
theorem dX0_mixedInto_82 : decode cX0_mixedInto 82 = .ok (.iinc 5 1, 3) := by decide +kernel
theorem dX0_mixedInto_85 : decode cX0_mixedInto 85 = .ok (.goto (-80), 3) := by decide +kernel
theorem dX0_mixedInto_88 : decode cX0_mixedInto 88 = .ok (.lload_n 3, 1) := by decide +kernel
theorem dX0_mixedInto_89 : decode cX0_mixedInto 89 = .ok (.lreturn, 1) := by decide +kernel
theorem dX0_copyFrom_0 : decode cX0_copyFrom 0 = .ok (.aload_n 0, 1) := by decide +kernel
theorem dX0_copyFrom_1 : decode cX0_copyFrom 1 = .ok (.aload_n 1, 1) := by decide +kernel
theorem dX0_copyFrom_2 : decode cX0_copyFrom 2 = .ok (.getfield 24, 3) := by decide +kernel
theorem dX0_copyFrom_5 : decode cX0_copyFrom 5 = .ok (.aload_n 0, 1) := by decide +kernel
theorem dX0_copyFrom_6 : decode cX0_copyFrom 6 = .ok (.getfield 15, 3) := by decide +kernel
theorem dX0_copyFrom_9 : decode cX0_copyFrom 9 = .ok (.arraylength, 1) := by decide +kernel
theorem dX0_copyFrom_10 : decode cX0_copyFrom 10 = .ok (.invokestatic 59, 3) := by decide +kernel
theorem dX0_copyFrom_13 : decode cX0_copyFrom 13 = .ok (.putfield 24, 3) := by decide +kernel
theorem dX0_copyFrom_16 : decode cX0_copyFrom 16 = .ok (.aload_n 0, 1) := by decide +kernel
theorem dX0_copyFrom_17 : decode cX0_copyFrom 17 = .ok (.aload_n 1, 1) := by decide +kernel
theorem dX0_copyFrom_18 : decode cX0_copyFrom 18 = .ok (.getfield 28, 3) := by decide +kernel
theorem dX0_copyFrom_21 : decode cX0_copyFrom 21 = .ok (.aload_n 0, 1) := by decide +kernel
theorem dX0_copyFrom_22 : decode cX0_copyFrom 22 = .ok (.getfield 21, 3) := by decide +kernel
theorem dX0_copyFrom_25 : decode cX0_copyFrom 25 = .ok (.arraylength, 1) := by decide +kernel
theorem dX0_copyFrom_26 : decode cX0_copyFrom 26 = .ok (.invokestatic 59, 3) := by decide +kernel
theorem dX0_copyFrom_29 : decode cX0_copyFrom 29 = .ok (.putfield 28, 3) := by decide +kernel
theorem dX0_copyFrom_32 : decode cX0_copyFrom 32 = .ok (.aload_n 1, 1) := by decide +kernel
theorem dX0_copyFrom_33 : decode cX0_copyFrom 33 = .ok (.getfield 9, 3) := by decide +kernel
theorem dX0_copyFrom_36 : decode cX0_copyFrom 36 = .ok (.iconst 0, 1) := by decide +kernel
theorem dX0_copyFrom_37 : decode cX0_copyFrom 37 = .ok (.aload_n 0, 1) := by decide +kernel
theorem dX0_copyFrom_38 : decode cX0_copyFrom 38 = .ok (.getfield 9, 3) := by decide +kernel
theorem dX0_copyFrom_41 : decode cX0_copyFrom 41 = .ok (.iconst 0, 1) := by decide +kernel
theorem dX0_copyFrom_42 : decode cX0_copyFrom 42 = .ok (.aload_n 0, 1) := by decide +kernel
theorem dX0_copyFrom_43 : decode cX0_copyFrom 43 = .ok (.getfield 24, 3) := by decide +kernel
theorem dX0_copyFrom_46 : decode cX0_copyFrom 46 = .ok (.invokestatic 64, 3) := by decide +kernel
theorem dX0_copyFrom_49 : decode cX0_copyFrom 49 = .ok (.aload_n 1, 1) := by decide +kernel
theorem dX0_copyFrom_50 : decode cX0_copyFrom 50 = .ok (.getfield 15, 3) := by decide +kernel
theorem dX0_copyFrom_53 : decode cX0_copyFrom 53 = .ok (.iconst 0, 1) := by decide +kernel
theorem dX0_copyFrom_54 : decode cX0_copyFrom 54 = .ok (.aload_n 0, 1) := by decide +kernel
theorem dX0_copyFrom_55 : decode cX0_copyFrom 55 = .ok (.getfield 15, 3) := by decide +kernel
theorem dX0_copyFrom_58 : decode cX0_copyFrom 58 = .ok (.iconst 0, 1) := by decide +kernel
theorem dX0_copyFrom_59 : decode cX0_copyFrom 59 = .ok (.aload_n 0, 1) := by decide +kernel
theorem dX0_copyFrom_60 : decode cX0_copyFrom 60 = .ok (.getfield 24, 3) := by decide +kernel
theorem dX0_copyFrom_63 : decode cX0_copyFrom 63 = .ok (.invokestatic 64, 3) := by decide +kernel
theorem dX0_copyFrom_66 : decode cX0_copyFrom 66 = .ok (.aload_n 1, 1) := by decide +kernel
theorem dX0_copyFrom_67 : decode cX0_copyFrom 67 = .ok (.getfield 18, 3) := by decide +kernel
theorem dX0_copyFrom_70 : decode cX0_copyFrom 70 = .ok (.iconst 0, 1) := by decide +kernel
theorem dX0_copyFrom_71 : decode cX0_copyFrom 71 = .ok (.aload_n 0, 1) := by decide +kernel
theorem dX0_copyFrom_72 : decode cX0_copyFrom 72 = .ok (.getfield 18, 3) := by decide +kernel
theorem dX0_copyFrom_75 : decode cX0_copyFrom 75 = .ok (.iconst 0, 1) := by decide +kernel
theorem dX0_copyFrom_76 : decode cX0_copyFrom 76 = .ok (.aload_n 0, 1) := by decide +kernel
theorem dX0_copyFrom_77 : decode cX0_copyFrom 77 = .ok (.getfield 24, 3) := by decide +kernel
theorem dX0_copyFrom_80 : decode cX0_copyFrom 80 = .ok (.invokestatic 64, 3) := by decide +kernel
theorem dX0_copyFrom_83 : decode cX0_copyFrom 83 = .ok (.aload_n 1, 1) := by decide +kernel
theorem dX0_copyFrom_84 : decode cX0_copyFrom 84 = .ok (.getfield 21, 3) := by decide +kernel
theorem dX0_copyFrom_87 : decode cX0_copyFrom 87 = .ok (.iconst 0, 1) := by decide +kernel
theorem dX0_copyFrom_88 : decode cX0_copyFrom 88 = .ok (.aload_n 0, 1) := by decide +kernel
theorem dX0_copyFrom_89 : decode cX0_copyFrom 89 = .ok (.getfield 21, 3) := by decide +kernel
theorem dX0_copyFrom_92 : decode cX0_copyFrom 92 = .ok (.iconst 0, 1) := by decide +kernel
theorem dX0_copyFrom_93 : decode cX0_copyFrom 93 = .ok (.aload_n 0, 1) := by decide +kernel
theorem dX0_copyFrom_94 : decode cX0_copyFrom 94 = .ok (.getfield 28, 3) := by decide +kernel
theorem dX0_copyFrom_97 : decode cX0_copyFrom 97 = .ok (.invokestatic 64, 3) := by decide +kernel
theorem dX0_copyFrom_100 : decode cX0_copyFrom 100 = .ok (.return_, 1) := by decide +kernel
theorem dX1_init_0 : decode cX1_init 0 = .ok (.aload_n 0, 1) := by decide +kernel
theorem dX1_init_1 : decode cX1_init 1 = .ok (.invokespecial 3, 3) := by decide +kernel
theorem dX1_init_4 : decode cX1_init 4 = .ok (.aload_n 0, 1) := by decide +kernel
theorem dX1_init_5 : decode cX1_init 5 = .ok (.iconst 4, 1) := by decide +kernel
theorem dX1_init_6 : decode cX1_init 6 = .ok (.anewarray 9, 3) := by decide +kernel
theorem dX1_init_9 : decode cX1_init 9 = .ok (.putfield 11, 3) := by decide +kernel
theorem dX1_init_12 : decode cX1_init 12 = .ok (.iconst 0, 1) := by decide +kernel
theorem dX1_init_13 : decode cX1_init 13 = .ok (.istore_n 1, 1) := by decide +kernel
theorem dX1_init_14 : decode cX1_init 14 = .ok (.iload_n 1, 1) := by decide +kernel
theorem dX1_init_15 : decode cX1_init 15 = .ok (.iconst 4, 1) := by decide +kernel
theorem dX1_init_16 : decode cX1_init 16 = .ok (.if_icmp .ge 22, 3) := by decide +kernel
theorem dX1_init_19 : decode cX1_init 19 = .ok (.aload_n 0, 1) := by decide +kernel
theorem dX1_init_20 : decode cX1_init 20 = .ok (.getfield 11, 3) := by decide +kernel
theorem dX1_init_23 : decode cX1_init 23 = .ok (.iload_n 1, 1) := by decide +kernel
theorem dX1_init_24 : decode cX1_init 24 = .ok (.new 9, 3) := by decide +kernel
theorem dX1_init_27 : decode cX1_init 27 = .ok (.dup, 1) := by decide +kernel
theorem dX1_init_28 : decode cX1_init 28 = .ok (.invokespecial 17, 3) := by decide +kernel
theorem dX1_init_31 : decode cX1_init 31 = .ok (.aastore, 1) := by decide +kernel
theorem dX1_init_32 : decode cX1_init 32 = .ok (.iinc 1 1, 3) := by decide +kernel
theorem dX1_init_35 : decode cX1_init 35 = .ok (.goto (-21), 3) := by decide +kernel
theorem dX1_init_38 : decode cX1_init 38 = .ok (.return_, 1) := by decide +kernel
theorem dX1_size_0 : decode cX1_size 0 = .ok (.aload_n 0, 1) := by decide +kernel
theorem dX1_size_1 : decode cX1_size 1 = .ok (.getfield 18, 3) := by decide +kernel
theorem dX1_size_4 : decode cX1_size 4 = .ok (.ireturn, 1) := by decide +kernel
theorem dX1_save_0 : decode cX1_save 0 = .ok (.aload_n 0, 1) := by decide +kernel
theorem dX1_save_1 : decode cX1_save 1 = .ok (.getfield 18, 3) := by decide +kernel
theorem dX1_save_4 : decode cX1_save 4 = .ok (.iconst 4, 1) := by decide +kernel
theorem dX1_save_5 : decode cX1_save 5 = .ok (.if_icmp .lt 7, 3) := by decide +kernel
theorem dX1_save_8 : decode cX1_save 8 = .ok (.aload_n 0, 1) := by decide +kernel
theorem dX1_save_9 : decode cX1_save 9 = .ok (.invokevirtual 22, 3) := by decide +kernel
theorem dX1_save_12 : decode cX1_save 12 = .ok (.aload_n 0, 1) := by decide +kernel
theorem dX1_save_13 : decode cX1_save 13 = .ok (.getfield 18, 3) := by decide +kernel
theorem dX1_save_16 : decode cX1_save 16 = .ok (.ifCond .lt 38, 3) := by decide +kernel
theorem dX1_save_19 : decode cX1_save 19 = .ok (.aload_n 0, 1) := by decide +kernel
theorem dX1_save_20 : decode cX1_save 20 = .ok (.getfield 18, 3) := by decide +kernel
theorem dX1_save_23 : decode cX1_save 23 = .ok (.aload_n 0, 1) := by decide +kernel
theorem dX1_save_24 : decode cX1_save 24 = .ok (.getfield 11, 3) := by decide +kernel
theorem dX1_save_27 : decode cX1_save 27 = .ok (.arraylength, 1) := by decide +kernel
theorem dX1_save_28 : decode cX1_save 28 = .ok (.if_icmp .ge 26, 3) := by decide +kernel
theorem dX1_save_31 : decode cX1_save 31 = .ok (.aload_n 0, 1) := by decide +kernel
theorem dX1_save_32 : decode cX1_save 32 = .ok (.getfield 11, 3) := by decide +kernel
theorem dX1_save_35 : decode cX1_save 35 = .ok (.aload_n 0, 1) := by decide +kernel
theorem dX1_save_36 : decode cX1_save 36 = .ok (.getfield 18, 3) := by decide +kernel
theorem dX1_save_39 : decode cX1_save 39 = .ok (.aaload, 1) := by decide +kernel
theorem dX1_save_40 : decode cX1_save 40 = .ok (.aload_n 1, 1) := by decide +kernel
theorem dX1_save_41 : decode cX1_save 41 = .ok (.invokevirtual 25, 3) := by decide +kernel
theorem dX1_save_44 : decode cX1_save 44 = .ok (.aload_n 0, 1) := by decide +kernel
theorem dX1_save_45 : decode cX1_save 45 = .ok (.dup, 1) := by decide +kernel
theorem dX1_save_46 : decode cX1_save 46 = .ok (.getfield 18, 3) := by decide +kernel
theorem dX1_save_49 : decode cX1_save 49 = .ok (.iconst 1, 1) := by decide +kernel
theorem dX1_save_50 : decode cX1_save 50 = .ok (.iadd, 1) := by decide +kernel
theorem dX1_save_51 : decode cX1_save 51 = .ok (.putfield 18, 3) := by decide +kernel
theorem dX1_save_54 : decode cX1_save 54 = .ok (.return_, 1) := by decide +kernel
theorem dX1_restore_0 : decode cX1_restore 0 = .ok (.aload_n 0, 1) := by decide +kernel
theorem dX1_restore_1 : decode cX1_restore 1 = .ok (.getfield 18, 3) := by decide +kernel
theorem dX1_restore_4 : decode cX1_restore 4 = .ok (.iconst 1, 1) := by decide +kernel
theorem dX1_restore_5 : decode cX1_restore 5 = .ok (.if_icmp .lt 38, 3) := by decide +kernel
theorem dX1_restore_8 : decode cX1_restore 8 = .ok (.aload_n 0, 1) := by decide +kernel
theorem dX1_restore_9 : decode cX1_restore 9 = .ok (.getfield 18, 3) := by decide +kernel
theorem dX1_restore_12 : decode cX1_restore 12 = .ok (.aload_n 0, 1) := by decide +kernel
theorem dX1_restore_13 : decode cX1_restore 13 = .ok (.getfield 11, 3) := by decide +kernel
theorem dX1_restore_16 : decode cX1_restore 16 = .ok (.arraylength, 1) := by decide +kernel
theorem dX1_restore_17 : decode cX1_restore 17 = .ok (.if_icmp .gt 26, 3) := by decide +kernel
theorem dX1_restore_20 : decode cX1_restore 20 = .ok (.aload_n 0, 1) := by decide +kernel
theorem dX1_restore_21 : decode cX1_restore 21 = .ok (.dup, 1) := by decide +kernel
theorem dX1_restore_22 : decode cX1_restore 22 = .ok (.getfield 18, 3) := by decide +kernel
theorem dX1_restore_25 : decode cX1_restore 25 = .ok (.iconst 1, 1) := by decide +kernel
theorem dX1_restore_26 : decode cX1_restore 26 = .ok (.isub, 1) := by decide +kernel
theorem dX1_restore_27 : decode cX1_restore 27 = .ok (.putfield 18, 3) := by decide +kernel
theorem dX1_restore_30 : decode cX1_restore 30 = .ok (.aload_n 1, 1) := by decide +kernel
theorem dX1_restore_31 : decode cX1_restore 31 = .ok (.aload_n 0, 1) := by decide +kernel
theorem dX1_restore_32 : decode cX1_restore 32 = .ok (.getfield 11, 3) := by decide +kernel
theorem dX1_restore_35 : decode cX1_restore 35 = .ok (.aload_n 0, 1) := by decide +kernel
theorem dX1_restore_36 : decode cX1_restore 36 = .ok (.getfield 18, 3) := by decide +kernel
theorem dX1_restore_39 : decode cX1_restore 39 = .ok (.aaload, 1) := by decide +kernel
theorem dX1_restore_40 : decode cX1_restore 40 = .ok (.invokevirtual 25, 3) := by decide +kernel
theorem dX1_restore_43 : decode cX1_restore 43 = .ok (.return_, 1) := by decide +kernel
theorem dX1_dropOldest_0 : decode cX1_dropOldest 0 = .ok (.aload_n 0, 1) := by decide +kernel
theorem dX1_dropOldest_1 : decode cX1_dropOldest 1 = .ok (.getfield 11, 3) := by decide +kernel
theorem dX1_dropOldest_4 : decode cX1_dropOldest 4 = .ok (.iconst 0, 1) := by decide +kernel
theorem dX1_dropOldest_5 : decode cX1_dropOldest 5 = .ok (.aaload, 1) := by decide +kernel
theorem dX1_dropOldest_6 : decode cX1_dropOldest 6 = .ok (.astore_n 1, 1) := by decide +kernel
theorem dX1_dropOldest_7 : decode cX1_dropOldest 7 = .ok (.iconst 1, 1) := by decide +kernel
theorem dX1_dropOldest_8 : decode cX1_dropOldest 8 = .ok (.istore_n 2, 1) := by decide +kernel
theorem dX1_dropOldest_9 : decode cX1_dropOldest 9 = .ok (.iload_n 2, 1) := by decide +kernel
theorem dX1_dropOldest_10 : decode cX1_dropOldest 10 = .ok (.iconst 4, 1) := by decide +kernel
theorem dX1_dropOldest_11 : decode cX1_dropOldest 11 = .ok (.if_icmp .ge 23, 3) := by decide +kernel
theorem dX1_dropOldest_14 : decode cX1_dropOldest 14 = .ok (.aload_n 0, 1) := by decide +kernel
theorem dX1_dropOldest_15 : decode cX1_dropOldest 15 = .ok (.getfield 11, 3) := by decide +kernel
theorem dX1_dropOldest_18 : decode cX1_dropOldest 18 = .ok (.iload_n 2, 1) := by decide +kernel
theorem dX1_dropOldest_19 : decode cX1_dropOldest 19 = .ok (.iconst 1, 1) := by decide +kernel
theorem dX1_dropOldest_20 : decode cX1_dropOldest 20 = .ok (.isub, 1) := by decide +kernel
theorem dX1_dropOldest_21 : decode cX1_dropOldest 21 = .ok (.aload_n 0, 1) := by decide +kernel
theorem dX1_dropOldest_22 : decode cX1_dropOldest 22 = .ok (.getfield 11, 3) := by decide +kernel
theorem dX1_dropOldest_25 : decode cX1_dropOldest 25 = .ok (.iload_n 2, 1) := by decide +kernel
theorem dX1_dropOldest_26 : decode cX1_dropOldest 26 = .ok (.aaload, 1) := by decide +kernel
theorem dX1_dropOldest_27 : decode cX1_dropOldest 27 = .ok (.aastore, 1) := by decide +kernel
theorem dX1_dropOldest_28 : decode cX1_dropOldest 28 = .ok (.iinc 2 1, 3) := by decide +kernel
theorem dX1_dropOldest_31 : decode cX1_dropOldest 31 = .ok (.goto (-22), 3) := by decide +kernel
theorem dX1_dropOldest_34 : decode cX1_dropOldest 34 = .ok (.aload_n 0, 1) := by decide +kernel
theorem dX1_dropOldest_35 : decode cX1_dropOldest 35 = .ok (.getfield 11, 3) := by decide +kernel
theorem dX1_dropOldest_38 : decode cX1_dropOldest 38 = .ok (.iconst 3, 1) := by decide +kernel
theorem dX1_dropOldest_39 : decode cX1_dropOldest 39 = .ok (.aload_n 1, 1) := by decide +kernel
theorem dX1_dropOldest_40 : decode cX1_dropOldest 40 = .ok (.aastore, 1) := by decide +kernel
theorem dX1_dropOldest_41 : decode cX1_dropOldest 41 = .ok (.aload_n 0, 1) := by decide +kernel
theorem dX1_dropOldest_42 : decode cX1_dropOldest 42 = .ok (.dup, 1) := by decide +kernel
theorem dX1_dropOldest_43 : decode cX1_dropOldest 43 = .ok (.getfield 18, 3) := by decide +kernel
theorem dX1_dropOldest_46 : decode cX1_dropOldest 46 = .ok (.iconst 1, 1) := by decide +kernel
theorem dX1_dropOldest_47 : decode cX1_dropOldest 47 = .ok (.isub, 1) := by decide +kernel
theorem dX1_dropOldest_48 : decode cX1_dropOldest 48 = .ok (.putfield 18, 3) := by decide +kernel
theorem dX1_dropOldest_51 : decode cX1_dropOldest 51 = .ok (.return_, 1) := by decide +kernel
theorem dX2_init_0 : decode cX2_init 0 = .ok (.aload_n 0, 1) := by decide +kernel
theorem dX2_init_1 : decode cX2_init 1 = .ok (.invokespecial 3, 3) := by decide +kernel
theorem dX2_init_4 : decode cX2_init 4 = .ok (.aload_n 0, 1) := by decide +kernel
theorem dX2_init_5 : decode cX2_init 5 = .ok (.iconst 0, 1) := by decide +kernel
theorem dX2_init_6 : decode cX2_init 6 = .ok (.iload_n 1, 1) := by decide +kernel
theorem dX2_init_7 : decode cX2_init 7 = .ok (.invokestatic 9, 3) := by decide +kernel
theorem dX2_init_10 : decode cX2_init 10 = .ok (.newarray .int, 2) := by decide +kernel
theorem dX2_init_12 : decode cX2_init 12 = .ok (.putfield 15, 3) := by decide +kernel
theorem dX2_init_15 : decode cX2_init 15 = .ok (.return_, 1) := by decide +kernel
theorem dX2_size_0 : decode cX2_size 0 = .ok (.aload_n 0, 1) := by decide +kernel
theorem dX2_size_1 : decode cX2_size 1 = .ok (.getfield 21, 3) := by decide +kernel
theorem dX2_size_4 : decode cX2_size 4 = .ok (.ireturn, 1) := by decide +kernel
theorem dX2_at_0 : decode cX2_at 0 = .ok (.iload_n 1, 1) := by decide +kernel
theorem dX2_at_1 : decode cX2_at 1 = .ok (.ifCond .lt 29, 3) := by decide +kernel
theorem dX2_at_4 : decode cX2_at 4 = .ok (.iload_n 1, 1) := by decide +kernel
theorem dX2_at_5 : decode cX2_at 5 = .ok (.aload_n 0, 1) := by decide +kernel
theorem dX2_at_6 : decode cX2_at 6 = .ok (.getfield 21, 3) := by decide +kernel
theorem dX2_at_9 : decode cX2_at 9 = .ok (.if_icmp .ge 21, 3) := by decide +kernel
theorem dX2_at_12 : decode cX2_at 12 = .ok (.iload_n 1, 1) := by decide +kernel
theorem dX2_at_13 : decode cX2_at 13 = .ok (.aload_n 0, 1) := by decide +kernel
theorem dX2_at_14 : decode cX2_at 14 = .ok (.getfield 15, 3) := by decide +kernel
theorem dX2_at_17 : decode cX2_at 17 = .ok (.arraylength, 1) := by decide +kernel
theorem dX2_at_18 : decode cX2_at 18 = .ok (.if_icmp .ge 12, 3) := by decide +kernel
theorem dX2_at_21 : decode cX2_at 21 = .ok (.aload_n 0, 1) := by decide +kernel
theorem dX2_at_22 : decode cX2_at 22 = .ok (.getfield 15, 3) := by decide +kernel
theorem dX2_at_25 : decode cX2_at 25 = .ok (.iload_n 1, 1) := by decide +kernel
theorem dX2_at_26 : decode cX2_at 26 = .ok (.iaload, 1) := by decide +kernel
theorem dX2_at_27 : decode cX2_at 27 = .ok (.goto 4, 3) := by decide +kernel
theorem dX2_at_30 : decode cX2_at 30 = .ok (.iconst (-1), 1) := by decide +kernel
theorem dX2_at_31 : decode cX2_at 31 = .ok (.ireturn, 1) := by decide +kernel
theorem dX2_put_0 : decode cX2_put 0 = .ok (.aload_n 0, 1) := by decide +kernel
theorem dX2_put_1 : decode cX2_put 1 = .ok (.getfield 21, 3) := by decide +kernel
theorem dX2_put_4 : decode cX2_put 4 = .ok (.ifCond .lt 35, 3) := by decide +kernel
theorem dX2_put_7 : decode cX2_put 7 = .ok (.aload_n 0, 1) := by decide +kernel
theorem dX2_put_8 : decode cX2_put 8 = .ok (.getfield 21, 3) := by decide +kernel
theorem dX2_put_11 : decode cX2_put 11 = .ok (.aload_n 0, 1) := by decide +kernel
theorem dX2_put_12 : decode cX2_put 12 = .ok (.getfield 15, 3) := by decide +kernel
theorem dX2_put_15 : decode cX2_put 15 = .ok (.arraylength, 1) := by decide +kernel
theorem dX2_put_16 : decode cX2_put 16 = .ok (.if_icmp .ge 23, 3) := by decide +kernel
theorem dX2_put_19 : decode cX2_put 19 = .ok (.aload_n 0, 1) := by decide +kernel
theorem dX2_put_20 : decode cX2_put 20 = .ok (.getfield 15, 3) := by decide +kernel
theorem dX2_put_23 : decode cX2_put 23 = .ok (.aload_n 0, 1) := by decide +kernel
theorem dX2_put_24 : decode cX2_put 24 = .ok (.getfield 21, 3) := by decide +kernel
theorem dX2_put_27 : decode cX2_put 27 = .ok (.iload_n 1, 1) := by decide +kernel
theorem dX2_put_28 : decode cX2_put 28 = .ok (.iastore, 1) := by decide +kernel
theorem dX2_put_29 : decode cX2_put 29 = .ok (.aload_n 0, 1) := by decide +kernel
theorem dX2_put_30 : decode cX2_put 30 = .ok (.dup, 1) := by decide +kernel
theorem dX2_put_31 : decode cX2_put 31 = .ok (.getfield 21, 3) := by decide +kernel
theorem dX2_put_34 : decode cX2_put 34 = .ok (.iconst 1, 1) := by decide +kernel
theorem dX2_put_35 : decode cX2_put 35 = .ok (.iadd, 1) := by decide +kernel
theorem dX2_put_36 : decode cX2_put 36 = .ok (.putfield 21, 3) := by decide +kernel
theorem dX2_put_39 : decode cX2_put 39 = .ok (.return_, 1) := by decide +kernel
theorem dX2_takeAt_0 : decode cX2_takeAt 0 = .ok (.aload_n 0, 1) := by decide +kernel
theorem dX2_takeAt_1 : decode cX2_takeAt 1 = .ok (.iload_n 1, 1) := by decide +kernel
theorem dX2_takeAt_2 : decode cX2_takeAt 2 = .ok (.invokevirtual 25, 3) := by decide +kernel
theorem dX2_takeAt_5 : decode cX2_takeAt 5 = .ok (.istore_n 2, 1) := by decide +kernel
theorem dX2_takeAt_6 : decode cX2_takeAt 6 = .ok (.iload_n 2, 1) := by decide +kernel
theorem dX2_takeAt_7 : decode cX2_takeAt 7 = .ok (.iconst (-1), 1) := by decide +kernel
theorem dX2_takeAt_8 : decode cX2_takeAt 8 = .ok (.if_icmp .eq 36, 3) := by decide +kernel
theorem dX2_takeAt_11 : decode cX2_takeAt 11 = .ok (.aload_n 0, 1) := by decide +kernel
theorem dX2_takeAt_12 : decode cX2_takeAt 12 = .ok (.getfield 15, 3) := by decide +kernel
theorem dX2_takeAt_15 : decode cX2_takeAt 15 = .ok (.iload_n 1, 1) := by decide +kernel
theorem dX2_takeAt_16 : decode cX2_takeAt 16 = .ok (.iconst 1, 1) := by decide +kernel
theorem dX2_takeAt_17 : decode cX2_takeAt 17 = .ok (.iadd, 1) := by decide +kernel
theorem dX2_takeAt_18 : decode cX2_takeAt 18 = .ok (.aload_n 0, 1) := by decide +kernel
theorem dX2_takeAt_19 : decode cX2_takeAt 19 = .ok (.getfield 15, 3) := by decide +kernel
theorem dX2_takeAt_22 : decode cX2_takeAt 22 = .ok (.iload_n 1, 1) := by decide +kernel
theorem dX2_takeAt_23 : decode cX2_takeAt 23 = .ok (.aload_n 0, 1) := by decide +kernel
theorem dX2_takeAt_24 : decode cX2_takeAt 24 = .ok (.getfield 21, 3) := by decide +kernel
theorem dX2_takeAt_27 : decode cX2_takeAt 27 = .ok (.iconst 1, 1) := by decide +kernel
theorem dX2_takeAt_28 : decode cX2_takeAt 28 = .ok (.isub, 1) := by decide +kernel
theorem dX2_takeAt_29 : decode cX2_takeAt 29 = .ok (.iload_n 1, 1) := by decide +kernel
theorem dX2_takeAt_30 : decode cX2_takeAt 30 = .ok (.isub, 1) := by decide +kernel
theorem dX2_takeAt_31 : decode cX2_takeAt 31 = .ok (.invokestatic 29, 3) := by decide +kernel
theorem dX2_takeAt_34 : decode cX2_takeAt 34 = .ok (.aload_n 0, 1) := by decide +kernel
theorem dX2_takeAt_35 : decode cX2_takeAt 35 = .ok (.dup, 1) := by decide +kernel
theorem dX2_takeAt_36 : decode cX2_takeAt 36 = .ok (.getfield 21, 3) := by decide +kernel
theorem dX2_takeAt_39 : decode cX2_takeAt 39 = .ok (.iconst 1, 1) := by decide +kernel
theorem dX2_takeAt_40 : decode cX2_takeAt 40 = .ok (.isub, 1) := by decide +kernel
theorem dX2_takeAt_41 : decode cX2_takeAt 41 = .ok (.putfield 21, 3) := by decide +kernel
theorem dX2_takeAt_44 : decode cX2_takeAt 44 = .ok (.iload_n 2, 1) := by decide +kernel
theorem dX2_takeAt_45 : decode cX2_takeAt 45 = .ok (.ireturn, 1) := by decide +kernel
theorem dX2_takeLast_0 : decode cX2_takeLast 0 = .ok (.aload_n 0, 1) := by decide +kernel
theorem dX2_takeLast_1 : decode cX2_takeLast 1 = .ok (.aload_n 0, 1) := by decide +kernel
theorem dX2_takeLast_2 : decode cX2_takeLast 2 = .ok (.getfield 21, 3) := by decide +kernel
theorem dX2_takeLast_5 : decode cX2_takeLast 5 = .ok (.iconst 1, 1) := by decide +kernel
theorem dX2_takeLast_6 : decode cX2_takeLast 6 = .ok (.isub, 1) := by decide +kernel
theorem dX2_takeLast_7 : decode cX2_takeLast 7 = .ok (.invokevirtual 35, 3) := by decide +kernel
theorem dX2_takeLast_10 : decode cX2_takeLast 10 = .ok (.ireturn, 1) := by decide +kernel
theorem dX2_dropFirst_0 : decode cX2_dropFirst 0 = .ok (.iload_n 1, 1) := by decide +kernel
theorem dX2_dropFirst_1 : decode cX2_dropFirst 1 = .ok (.ifCond .lt 40, 3) := by decide +kernel
theorem dX2_dropFirst_4 : decode cX2_dropFirst 4 = .ok (.iload_n 1, 1) := by decide +kernel
theorem dX2_dropFirst_5 : decode cX2_dropFirst 5 = .ok (.aload_n 0, 1) := by decide +kernel
theorem dX2_dropFirst_6 : decode cX2_dropFirst 6 = .ok (.getfield 21, 3) := by decide +kernel
theorem dX2_dropFirst_9 : decode cX2_dropFirst 9 = .ok (.if_icmp .gt 32, 3) := by decide +kernel
theorem dX2_dropFirst_12 : decode cX2_dropFirst 12 = .ok (.aload_n 0, 1) := by decide +kernel
theorem dX2_dropFirst_13 : decode cX2_dropFirst 13 = .ok (.getfield 15, 3) := by decide +kernel
theorem dX2_dropFirst_16 : decode cX2_dropFirst 16 = .ok (.iload_n 1, 1) := by decide +kernel
theorem dX2_dropFirst_17 : decode cX2_dropFirst 17 = .ok (.aload_n 0, 1) := by decide +kernel
theorem dX2_dropFirst_18 : decode cX2_dropFirst 18 = .ok (.getfield 15, 3) := by decide +kernel
theorem dX2_dropFirst_21 : decode cX2_dropFirst 21 = .ok (.iconst 0, 1) := by decide +kernel
theorem dX2_dropFirst_22 : decode cX2_dropFirst 22 = .ok (.aload_n 0, 1) := by decide +kernel
theorem dX2_dropFirst_23 : decode cX2_dropFirst 23 = .ok (.getfield 21, 3) := by decide +kernel
theorem dX2_dropFirst_26 : decode cX2_dropFirst 26 = .ok (.iload_n 1, 1) := by decide +kernel
theorem dX2_dropFirst_27 : decode cX2_dropFirst 27 = .ok (.isub, 1) := by decide +kernel
theorem dX2_dropFirst_28 : decode cX2_dropFirst 28 = .ok (.invokestatic 29, 3) := by decide +kernel
theorem dX2_dropFirst_31 : decode cX2_dropFirst 31 = .ok (.aload_n 0, 1) := by decide +kernel
theorem dX2_dropFirst_32 : decode cX2_dropFirst 32 = .ok (.dup, 1) := by decide +kernel
theorem dX2_dropFirst_33 : decode cX2_dropFirst 33 = .ok (.getfield 21, 3) := by decide +kernel
theorem dX2_dropFirst_36 : decode cX2_dropFirst 36 = .ok (.iload_n 1, 1) := by decide +kernel
theorem dX2_dropFirst_37 : decode cX2_dropFirst 37 = .ok (.isub, 1) := by decide +kernel
theorem dX2_dropFirst_38 : decode cX2_dropFirst 38 = .ok (.putfield 21, 3) := by decide +kernel
theorem dX2_dropFirst_41 : decode cX2_dropFirst 41 = .ok (.return_, 1) := by decide +kernel
theorem dX2_clear_0 : decode cX2_clear 0 = .ok (.aload_n 0, 1) := by decide +kernel
theorem dX2_clear_1 : decode cX2_clear 1 = .ok (.iconst 0, 1) := by decide +kernel
theorem dX2_clear_2 : decode cX2_clear 2 = .ok (.putfield 21, 3) := by decide +kernel
theorem dX2_clear_5 : decode cX2_clear 5 = .ok (.return_, 1) := by decide +kernel
theorem dX2_countOf_0 : decode cX2_countOf 0 = .ok (.iconst 0, 1) := by decide +kernel
theorem dX2_countOf_1 : decode cX2_countOf 1 = .ok (.istore_n 2, 1) := by decide +kernel
theorem dX2_countOf_2 : decode cX2_countOf 2 = .ok (.iconst 0, 1) := by decide +kernel
theorem dX2_countOf_3 : decode cX2_countOf 3 = .ok (.istore_n 3, 1) := by decide +kernel
theorem dX2_countOf_4 : decode cX2_countOf 4 = .ok (.iload_n 3, 1) := by decide +kernel
theorem dX2_countOf_5 : decode cX2_countOf 5 = .ok (.aload_n 0, 1) := by decide +kernel
theorem dX2_countOf_6 : decode cX2_countOf 6 = .ok (.getfield 21, 3) := by decide +kernel
theorem dX2_countOf_9 : decode cX2_countOf 9 = .ok (.if_icmp .ge 21, 3) := by decide +kernel
theorem dX2_countOf_12 : decode cX2_countOf 12 = .ok (.aload_n 0, 1) := by decide +kernel
theorem dX2_countOf_13 : decode cX2_countOf 13 = .ok (.iload_n 3, 1) := by decide +kernel
theorem dX2_countOf_14 : decode cX2_countOf 14 = .ok (.invokevirtual 25, 3) := by decide +kernel
theorem dX2_countOf_17 : decode cX2_countOf 17 = .ok (.iload_n 1, 1) := by decide +kernel
theorem dX2_countOf_18 : decode cX2_countOf 18 = .ok (.if_icmp .ne 6, 3) := by decide +kernel
theorem dX2_countOf_21 : decode cX2_countOf 21 = .ok (.iinc 2 1, 3) := by decide +kernel
theorem dX2_countOf_24 : decode cX2_countOf 24 = .ok (.iinc 3 1, 3) := by decide +kernel
theorem dX2_countOf_27 : decode cX2_countOf 27 = .ok (.goto (-23), 3) := by decide +kernel
theorem dX2_countOf_30 : decode cX2_countOf 30 = .ok (.iload_n 2, 1) := by decide +kernel
theorem dX2_countOf_31 : decode cX2_countOf 31 = .ok (.ireturn, 1) := by decide +kernel
theorem dX2_lastIndexOf_0 : decode cX2_lastIndexOf 0 = .ok (.aload_n 0, 1) := by decide +kernel
theorem dX2_lastIndexOf_1 : decode cX2_lastIndexOf 1 = .ok (.getfield 21, 3) := by decide +kernel
theorem dX2_lastIndexOf_4 : decode cX2_lastIndexOf 4 = .ok (.iconst 1, 1) := by decide +kernel
theorem dX2_lastIndexOf_5 : decode cX2_lastIndexOf 5 = .ok (.isub, 1) := by decide +kernel
theorem dX2_lastIndexOf_6 : decode cX2_lastIndexOf 6 = .ok (.istore_n 2, 1) := by decide +kernel
theorem dX2_lastIndexOf_7 : decode cX2_lastIndexOf 7 = .ok (.iload_n 2, 1) := by decide +kernel
theorem dX2_lastIndexOf_8 : decode cX2_lastIndexOf 8 = .ok (.ifCond .lt 20, 3) := by decide +kernel
theorem dX2_lastIndexOf_11 : decode cX2_lastIndexOf 11 = .ok (.aload_n 0, 1) := by decide +kernel
theorem dX2_lastIndexOf_12 : decode cX2_lastIndexOf 12 = .ok (.iload_n 2, 1) := by decide +kernel
theorem dX2_lastIndexOf_13 : decode cX2_lastIndexOf 13 = .ok (.invokevirtual 25, 3) := by decide +kernel
theorem dX2_lastIndexOf_16 : decode cX2_lastIndexOf 16 = .ok (.iload_n 1, 1) := by decide +kernel
theorem dX2_lastIndexOf_17 : decode cX2_lastIndexOf 17 = .ok (.if_icmp .ne 5, 3) := by decide +kernel
theorem dX2_lastIndexOf_20 : decode cX2_lastIndexOf 20 = .ok (.iload_n 2, 1) := by decide +kernel
theorem dX2_lastIndexOf_21 : decode cX2_lastIndexOf 21 = .ok (.ireturn, 1) := by decide +kernel
theorem dX2_lastIndexOf_22 : decode cX2_lastIndexOf 22 = .ok (.iinc 2 (-1), 3) := by decide +kernel
theorem dX2_lastIndexOf_25 : decode cX2_lastIndexOf 25 = .ok (.goto (-18), 3) := by decide +kernel
theorem dX2_lastIndexOf_28 : decode cX2_lastIndexOf 28 = .ok (.iconst (-1), 1) := by decide +kernel
theorem dX2_lastIndexOf_29 : decode cX2_lastIndexOf 29 = .ok (.ireturn, 1) := by decide +kernel
theorem dX2_mixedInto_0 : decode cX2_mixedInto 0 = .ok (.lload_n 1, 1) := by decide +kernel
theorem dX2_mixedInto_1 : decode cX2_mixedInto 1 = .ok (.lstore_n 3, 1) := by decide +kernel
theorem dX2_mixedInto_2 : decode cX2_mixedInto 2 = .ok (.iconst 0, 1) := by decide +kernel
theorem dX2_mixedInto_3 : decode cX2_mixedInto 3 = .ok (.istore 5, 2) := by decide +kernel
theorem dX2_mixedInto_5 : decode cX2_mixedInto 5 = .ok (.iload 5, 2) := by decide +kernel
theorem dX2_mixedInto_7 : decode cX2_mixedInto 7 = .ok (.aload_n 0, 1) := by decide +kernel
theorem dX2_mixedInto_8 : decode cX2_mixedInto 8 = .ok (.getfield 21, 3) := by decide +kernel
theorem dX2_mixedInto_11 : decode cX2_mixedInto 11 = .ok (.if_icmp .ge 21, 3) := by decide +kernel
theorem dX2_mixedInto_14 : decode cX2_mixedInto 14 = .ok (.lload_n 3, 1) := by decide +kernel
theorem dX2_mixedInto_15 : decode cX2_mixedInto 15 = .ok (.aload_n 0, 1) := by decide +kernel
theorem dX2_mixedInto_16 : decode cX2_mixedInto 16 = .ok (.iload 5, 2) := by decide +kernel
theorem dX2_mixedInto_18 : decode cX2_mixedInto 18 = .ok (.invokevirtual 25, 3) := by decide +kernel
theorem dX2_mixedInto_21 : decode cX2_mixedInto 21 = .ok (.i2l, 1) := by decide +kernel
theorem dX2_mixedInto_22 : decode cX2_mixedInto 22 = .ok (.invokestatic 38, 3) := by decide +kernel
theorem dX2_mixedInto_25 : decode cX2_mixedInto 25 = .ok (.lstore_n 3, 1) := by decide +kernel
theorem dX2_mixedInto_26 : decode cX2_mixedInto 26 = .ok (.iinc 5 1, 3) := by decide +kernel
theorem dX2_mixedInto_29 : decode cX2_mixedInto 29 = .ok (.goto (-24), 3) := by decide +kernel
theorem dX2_mixedInto_32 : decode cX2_mixedInto 32 = .ok (.lload_n 3, 1) := by decide +kernel
theorem dX2_mixedInto_33 : decode cX2_mixedInto 33 = .ok (.lreturn, 1) := by decide +kernel
theorem dX2_copyFrom_0 : decode cX2_copyFrom 0 = .ok (.aload_n 0, 1) := by decide +kernel
theorem dX2_copyFrom_1 : decode cX2_copyFrom 1 = .ok (.aload_n 1, 1) := by decide +kernel
theorem dX2_copyFrom_2 : decode cX2_copyFrom 2 = .ok (.getfield 21, 3) := by decide +kernel
theorem dX2_copyFrom_5 : decode cX2_copyFrom 5 = .ok (.aload_n 0, 1) := by decide +kernel
theorem dX2_copyFrom_6 : decode cX2_copyFrom 6 = .ok (.getfield 15, 3) := by decide +kernel
theorem dX2_copyFrom_9 : decode cX2_copyFrom 9 = .ok (.arraylength, 1) := by decide +kernel
theorem dX2_copyFrom_10 : decode cX2_copyFrom 10 = .ok (.invokestatic 42, 3) := by decide +kernel
theorem dX2_copyFrom_13 : decode cX2_copyFrom 13 = .ok (.putfield 21, 3) := by decide +kernel
theorem dX2_copyFrom_16 : decode cX2_copyFrom 16 = .ok (.aload_n 1, 1) := by decide +kernel
theorem dX2_copyFrom_17 : decode cX2_copyFrom 17 = .ok (.getfield 15, 3) := by decide +kernel
theorem dX2_copyFrom_20 : decode cX2_copyFrom 20 = .ok (.iconst 0, 1) := by decide +kernel
theorem dX2_copyFrom_21 : decode cX2_copyFrom 21 = .ok (.aload_n 0, 1) := by decide +kernel
theorem dX2_copyFrom_22 : decode cX2_copyFrom 22 = .ok (.getfield 15, 3) := by decide +kernel
theorem dX2_copyFrom_25 : decode cX2_copyFrom 25 = .ok (.iconst 0, 1) := by decide +kernel
theorem dX2_copyFrom_26 : decode cX2_copyFrom 26 = .ok (.aload_n 0, 1) := by decide +kernel
theorem dX2_copyFrom_27 : decode cX2_copyFrom 27 = .ok (.getfield 21, 3) := by decide +kernel
theorem dX2_copyFrom_30 : decode cX2_copyFrom 30 = .ok (.invokestatic 29, 3) := by decide +kernel
theorem dX2_copyFrom_33 : decode cX2_copyFrom 33 = .ok (.return_, 1) := by decide +kernel
theorem dX3_init_0 : decode cX3_init 0 = .ok (.aload_n 0, 1) := by decide +kernel
theorem dX3_init_1 : decode cX3_init 1 = .ok (.invokespecial 3, 3) := by decide +kernel
theorem dX3_init_4 : decode cX3_init 4 = .ok (.aload_n 0, 1) := by decide +kernel
theorem dX3_init_5 : decode cX3_init 5 = .ok (.bipush 27, 2) := by decide +kernel
theorem dX3_init_7 : decode cX3_init 7 = .ok (.anewarray 9, 3) := by decide +kernel
theorem dX3_init_10 : decode cX3_init 10 = .ok (.putfield 11, 3) := by decide +kernel
theorem dX3_init_13 : decode cX3_init 13 = .ok (.aload_n 0, 1) := by decide +kernel
theorem dX3_init_14 : decode cX3_init 14 = .ok (.iconst 3, 1) := by decide +kernel
theorem dX3_init_15 : decode cX3_init 15 = .ok (.anewarray 17, 3) := by decide +kernel
theorem dX3_init_18 : decode cX3_init 18 = .ok (.putfield 19, 3) := by decide +kernel
theorem dX3_init_21 : decode cX3_init 21 = .ok (.aload_n 0, 1) := by decide +kernel
theorem dX3_init_22 : decode cX3_init 22 = .ok (.new 9, 3) := by decide +kernel
theorem dX3_init_25 : decode cX3_init 25 = .ok (.dup, 1) := by decide +kernel
theorem dX3_init_26 : decode cX3_init 26 = .ok (.sipush 250, 3) := by decide +kernel
theorem dX3_init_29 : decode cX3_init 29 = .ok (.invokespecial 23, 3) := by decide +kernel
theorem dX3_init_32 : decode cX3_init 32 = .ok (.putfield 26, 3) := by decide +kernel
theorem dX3_init_35 : decode cX3_init 35 = .ok (.aload_n 0, 1) := by decide +kernel
theorem dX3_init_36 : decode cX3_init 36 = .ok (.iconst 3, 1) := by decide +kernel
theorem dX3_init_37 : decode cX3_init 37 = .ok (.putfield 30, 3) := by decide +kernel
theorem dX3_init_40 : decode cX3_init 40 = .ok (.iconst 0, 1) := by decide +kernel
theorem dX3_init_41 : decode cX3_init 41 = .ok (.istore_n 1, 1) := by decide +kernel
theorem dX3_init_42 : decode cX3_init 42 = .ok (.iload_n 1, 1) := by decide +kernel
theorem dX3_init_43 : decode cX3_init 43 = .ok (.bipush 27, 2) := by decide +kernel
theorem dX3_init_45 : decode cX3_init 45 = .ok (.if_icmp .ge 25, 3) := by decide +kernel
theorem dX3_init_48 : decode cX3_init 48 = .ok (.aload_n 0, 1) := by decide +kernel
theorem dX3_init_49 : decode cX3_init 49 = .ok (.getfield 11, 3) := by decide +kernel
theorem dX3_init_52 : decode cX3_init 52 = .ok (.iload_n 1, 1) := by decide +kernel
theorem dX3_init_53 : decode cX3_init 53 = .ok (.new 9, 3) := by decide +kernel
theorem dX3_init_56 : decode cX3_init 56 = .ok (.dup, 1) := by decide +kernel
theorem dX3_init_57 : decode cX3_init 57 = .ok (.sipush 250, 3) := by decide +kernel
theorem dX3_init_60 : decode cX3_init 60 = .ok (.invokespecial 23, 3) := by decide +kernel
theorem dX3_init_63 : decode cX3_init 63 = .ok (.aastore, 1) := by decide +kernel
theorem dX3_init_64 : decode cX3_init 64 = .ok (.iinc 1 1, 3) := by decide +kernel
theorem dX3_init_67 : decode cX3_init 67 = .ok (.goto (-25), 3) := by decide +kernel
theorem dX3_init_70 : decode cX3_init 70 = .ok (.iconst 0, 1) := by decide +kernel
theorem dX3_init_71 : decode cX3_init 71 = .ok (.istore_n 1, 1) := by decide +kernel
theorem dX3_init_72 : decode cX3_init 72 = .ok (.iload_n 1, 1) := by decide +kernel
theorem dX3_init_73 : decode cX3_init 73 = .ok (.iconst 3, 1) := by decide +kernel
theorem dX3_init_74 : decode cX3_init 74 = .ok (.if_icmp .ge 22, 3) := by decide +kernel
theorem dX3_init_77 : decode cX3_init 77 = .ok (.aload_n 0, 1) := by decide +kernel
theorem dX3_init_78 : decode cX3_init 78 = .ok (.getfield 19, 3) := by decide +kernel
theorem dX3_init_81 : decode cX3_init 81 = .ok (.iload_n 1, 1) := by decide +kernel
theorem dX3_init_82 : decode cX3_init 82 = .ok (.new 17, 3) := by decide +kernel
theorem dX3_init_85 : decode cX3_init 85 = .ok (.dup, 1) := by decide +kernel
theorem dX3_init_86 : decode cX3_init 86 = .ok (.invokespecial 34, 3) := by decide +kernel
theorem dX3_init_89 : decode cX3_init 89 = .ok (.aastore, 1) := by decide +kernel
theorem dX3_init_90 : decode cX3_init 90 = .ok (.iinc 1 1, 3) := by decide +kernel
theorem dX3_init_93 : decode cX3_init 93 = .ok (.goto (-21), 3) := by decide +kernel
theorem dX3_init_96 : decode cX3_init 96 = .ok (.return_, 1) := by decide +kernel
theorem dX3_boxOf_0 : decode cX3_boxOf 0 = .ok (.aload_n 0, 1) := by decide +kernel
theorem dX3_boxOf_1 : decode cX3_boxOf 1 = .ok (.getfield 11, 3) := by decide +kernel
theorem dX3_boxOf_4 : decode cX3_boxOf 4 = .ok (.iload_n 1, 1) := by decide +kernel
theorem dX3_boxOf_5 : decode cX3_boxOf 5 = .ok (.bipush 27, 2) := by decide +kernel
theorem dX3_boxOf_7 : decode cX3_boxOf 7 = .ok (.invokestatic 35, 3) := by decide +kernel
theorem dX3_boxOf_10 : decode cX3_boxOf 10 = .ok (.aaload, 1) := by decide +kernel
theorem dX3_boxOf_11 : decode cX3_boxOf 11 = .ok (.areturn, 1) := by decide +kernel
theorem dX3_formeOf_0 : decode cX3_formeOf 0 = .ok (.aload_n 0, 1) := by decide +kernel
theorem dX3_formeOf_1 : decode cX3_formeOf 1 = .ok (.getfield 19, 3) := by decide +kernel
theorem dX3_formeOf_4 : decode cX3_formeOf 4 = .ok (.iload_n 1, 1) := by decide +kernel
theorem dX3_formeOf_5 : decode cX3_formeOf 5 = .ok (.iconst 3, 1) := by decide +kernel
theorem dX3_formeOf_6 : decode cX3_formeOf 6 = .ok (.invokestatic 35, 3) := by decide +kernel
theorem dX3_formeOf_9 : decode cX3_formeOf 9 = .ok (.aaload, 1) := by decide +kernel
theorem dX3_formeOf_10 : decode cX3_formeOf 10 = .ok (.areturn, 1) := by decide +kernel
theorem dX3_putBack_0 : decode cX3_putBack 0 = .ok (.aload_n 0, 1) := by decide +kernel
theorem dX3_putBack_1 : decode cX3_putBack 1 = .ok (.iload_n 1, 1) := by decide +kernel
theorem dX3_putBack_2 : decode cX3_putBack 2 = .ok (.invokevirtual 41, 3) := by decide +kernel
theorem dX3_putBack_5 : decode cX3_putBack 5 = .ok (.iload_n 1, 1) := by decide +kernel
theorem dX3_putBack_6 : decode cX3_putBack 6 = .ok (.invokevirtual 45, 3) := by decide +kernel
theorem dX3_putBack_9 : decode cX3_putBack 9 = .ok (.return_, 1) := by decide +kernel
theorem dX3_buySorts_0 : decode cX3_buySorts 0 = .ok (.iconst 0, 1) := by decide +kernel
theorem dX3_buySorts_1 : decode cX3_buySorts 1 = .ok (.istore_n 3, 1) := by decide +kernel
theorem dX3_buySorts_2 : decode cX3_buySorts 2 = .ok (.iload_n 3, 1) := by decide +kernel
theorem dX3_buySorts_3 : decode cX3_buySorts 3 = .ok (.iload_n 2, 1) := by decide +kernel
theorem dX3_buySorts_4 : decode cX3_buySorts 4 = .ok (.if_icmp .ge 14, 3) := by decide +kernel
theorem dX3_buySorts_7 : decode cX3_buySorts 7 = .ok (.aload_n 0, 1) := by decide +kernel
theorem dX3_buySorts_8 : decode cX3_buySorts 8 = .ok (.iload_n 1, 1) := by decide +kernel
theorem dX3_buySorts_9 : decode cX3_buySorts 9 = .ok (.invokevirtual 48, 3) := by decide +kernel
theorem dX3_buySorts_12 : decode cX3_buySorts 12 = .ok (.iinc 3 1, 3) := by decide +kernel
theorem dX3_buySorts_15 : decode cX3_buySorts 15 = .ok (.goto (-13), 3) := by decide +kernel
theorem dX3_buySorts_18 : decode cX3_buySorts 18 = .ok (.aload_n 0, 1) := by decide +kernel
theorem dX3_buySorts_19 : decode cX3_buySorts 19 = .ok (.dup, 1) := by decide +kernel
theorem dX3_buySorts_20 : decode cX3_buySorts 20 = .ok (.getfield 51, 3) := by decide +kernel
theorem dX3_buySorts_23 : decode cX3_buySorts 23 = .ok (.aload_n 0, 1) := by decide +kernel
theorem dX3_buySorts_24 : decode cX3_buySorts 24 = .ok (.getfield 30, 3) := by decide +kernel
theorem dX3_buySorts_27 : decode cX3_buySorts 27 = .ok (.iload_n 2, 1) := by decide +kernel
theorem dX3_buySorts_28 : decode cX3_buySorts 28 = .ok (.imul, 1) := by decide +kernel
theorem dX3_buySorts_29 : decode cX3_buySorts 29 = .ok (.iadd, 1) := by decide +kernel
theorem dX3_buySorts_30 : decode cX3_buySorts 30 = .ok (.putfield 51, 3) := by decide +kernel
theorem dX3_buySorts_33 : decode cX3_buySorts 33 = .ok (.return_, 1) := by decide +kernel
theorem dX3_spillSorts_0 : decode cX3_spillSorts 0 = .ok (.iconst 0, 1) := by decide +kernel
theorem dX3_spillSorts_1 : decode cX3_spillSorts 1 = .ok (.istore 4, 2) := by decide +kernel
theorem dX3_spillSorts_3 : decode cX3_spillSorts 3 = .ok (.iload 4, 2) := by decide +kernel
theorem dX3_spillSorts_5 : decode cX3_spillSorts 5 = .ok (.iload_n 3, 1) := by decide +kernel
theorem dX3_spillSorts_6 : decode cX3_spillSorts 6 = .ok (.if_icmp .ge 25, 3) := by decide +kernel
theorem dX3_spillSorts_9 : decode cX3_spillSorts 9 = .ok (.aload_n 0, 1) := by decide +kernel
theorem dX3_spillSorts_10 : decode cX3_spillSorts 10 = .ok (.iload_n 2, 1) := by decide +kernel
theorem dX3_spillSorts_11 : decode cX3_spillSorts 11 = .ok (.invokevirtual 41, 3) := by decide +kernel
theorem dX3_spillSorts_14 : decode cX3_spillSorts 14 = .ok (.aload_n 0, 1) := by decide +kernel
theorem dX3_spillSorts_15 : decode cX3_spillSorts 15 = .ok (.iload_n 1, 1) := by decide +kernel
theorem dX3_spillSorts_16 : decode cX3_spillSorts 16 = .ok (.invokevirtual 41, 3) := by decide +kernel
theorem dX3_spillSorts_19 : decode cX3_spillSorts 19 = .ok (.invokevirtual 54, 3) := by decide +kernel
theorem dX3_spillSorts_22 : decode cX3_spillSorts 22 = .ok (.invokevirtual 45, 3) := by decide +kernel
theorem dX3_spillSorts_25 : decode cX3_spillSorts 25 = .ok (.iinc 4 1, 3) := by decide +kernel
theorem dX3_spillSorts_28 : decode cX3_spillSorts 28 = .ok (.goto (-25), 3) := by decide +kernel
theorem dX3_spillSorts_31 : decode cX3_spillSorts 31 = .ok (.return_, 1) := by decide +kernel
theorem dX3_cleanBox_0 : decode cX3_cleanBox 0 = .ok (.aload_n 0, 1) := by decide +kernel
theorem dX3_cleanBox_1 : decode cX3_cleanBox 1 = .ok (.iload_n 1, 1) := by decide +kernel
theorem dX3_cleanBox_2 : decode cX3_cleanBox 2 = .ok (.invokevirtual 41, 3) := by decide +kernel
theorem dX3_cleanBox_5 : decode cX3_cleanBox 5 = .ok (.astore_n 2, 1) := by decide +kernel
theorem dX3_cleanBox_6 : decode cX3_cleanBox 6 = .ok (.aload_n 2, 1) := by decide +kernel
theorem dX3_cleanBox_7 : decode cX3_cleanBox 7 = .ok (.invokevirtual 58, 3) := by decide +kernel
theorem dX3_cleanBox_10 : decode cX3_cleanBox 10 = .ok (.istore_n 3, 1) := by decide +kernel
theorem dX3_cleanBox_11 : decode cX3_cleanBox 11 = .ok (.iconst 0, 1) := by decide +kernel
theorem dX3_cleanBox_12 : decode cX3_cleanBox 12 = .ok (.istore 4, 2) := by decide +kernel
theorem dX3_cleanBox_14 : decode cX3_cleanBox 14 = .ok (.iconst 0, 1) := by decide +kernel
theorem dX3_cleanBox_15 : decode cX3_cleanBox 15 = .ok (.istore 5, 2) := by decide +kernel
theorem dX3_cleanBox_17 : decode cX3_cleanBox 17 = .ok (.iload 5, 2) := by decide +kernel
theorem dX3_cleanBox_19 : decode cX3_cleanBox 19 = .ok (.iload_n 3, 1) := by decide +kernel
theorem dX3_cleanBox_20 : decode cX3_cleanBox 20 = .ok (.if_icmp .ge 35, 3) := by decide +kernel
theorem dX3_cleanBox_23 : decode cX3_cleanBox 23 = .ok (.aload_n 2, 1) := by decide +kernel
theorem dX3_cleanBox_24 : decode cX3_cleanBox 24 = .ok (.iload 4, 2) := by decide +kernel
theorem dX3_cleanBox_26 : decode cX3_cleanBox 26 = .ok (.invokevirtual 61, 3) := by decide +kernel
theorem dX3_cleanBox_29 : decode cX3_cleanBox 29 = .ok (.iload_n 1, 1) := by decide +kernel
theorem dX3_cleanBox_30 : decode cX3_cleanBox 30 = .ok (.if_icmp .ne 9, 3) := by decide +kernel
theorem dX3_cleanBox_33 : decode cX3_cleanBox 33 = .ok (.iinc 4 1, 3) := by decide +kernel
theorem dX3_cleanBox_36 : decode cX3_cleanBox 36 = .ok (.goto 13, 3) := by decide +kernel
theorem dX3_cleanBox_39 : decode cX3_cleanBox 39 = .ok (.aload_n 0, 1) := by decide +kernel
theorem dX3_cleanBox_40 : decode cX3_cleanBox 40 = .ok (.aload_n 2, 1) := by decide +kernel
theorem dX3_cleanBox_41 : decode cX3_cleanBox 41 = .ok (.iload 4, 2) := by decide +kernel
theorem dX3_cleanBox_43 : decode cX3_cleanBox 43 = .ok (.invokevirtual 65, 3) := by decide +kernel
theorem dX3_cleanBox_46 : decode cX3_cleanBox 46 = .ok (.invokevirtual 48, 3) := by decide +kernel
theorem dX3_cleanBox_49 : decode cX3_cleanBox 49 = .ok (.iinc 5 1, 3) := by decide +kernel
theorem dX3_cleanBox_52 : decode cX3_cleanBox 52 = .ok (.goto (-35), 3) := by decide +kernel
theorem dX3_cleanBox_55 : decode cX3_cleanBox 55 = .ok (.aload_n 0, 1) := by decide +kernel
theorem dX3_cleanBox_56 : decode cX3_cleanBox 56 = .ok (.dup, 1) := by decide +kernel
theorem dX3_cleanBox_57 : decode cX3_cleanBox 57 = .ok (.getfield 68, 3) := by decide +kernel
theorem dX3_cleanBox_60 : decode cX3_cleanBox 60 = .ok (.iconst 2, 1) := by decide +kernel
theorem dX3_cleanBox_61 : decode cX3_cleanBox 61 = .ok (.iload_n 3, 1) := by decide +kernel
theorem dX3_cleanBox_62 : decode cX3_cleanBox 62 = .ok (.iload 4, 2) := by decide +kernel
theorem dX3_cleanBox_64 : decode cX3_cleanBox 64 = .ok (.isub, 1) := by decide +kernel
theorem dX3_cleanBox_65 : decode cX3_cleanBox 65 = .ok (.imul, 1) := by decide +kernel
theorem dX3_cleanBox_66 : decode cX3_cleanBox 66 = .ok (.iadd, 1) := by decide +kernel
theorem dX3_cleanBox_67 : decode cX3_cleanBox 67 = .ok (.putfield 68, 3) := by decide +kernel
theorem dX3_cleanBox_70 : decode cX3_cleanBox 70 = .ok (.iload_n 3, 1) := by decide +kernel
theorem dX3_cleanBox_71 : decode cX3_cleanBox 71 = .ok (.iload 4, 2) := by decide +kernel
theorem dX3_cleanBox_73 : decode cX3_cleanBox 73 = .ok (.isub, 1) := by decide +kernel
theorem dX3_cleanBox_74 : decode cX3_cleanBox 74 = .ok (.ireturn, 1) := by decide +kernel
theorem dX3_setText_0 : decode cX3_setText 0 = .ok (.iconst 0, 1) := by decide +kernel
theorem dX3_setText_1 : decode cX3_setText 1 = .ok (.istore_n 3, 1) := by decide +kernel
theorem dX3_setText_2 : decode cX3_setText 2 = .ok (.iload_n 3, 1) := by decide +kernel
theorem dX3_setText_3 : decode cX3_setText 3 = .ok (.aload_n 1, 1) := by decide +kernel
theorem dX3_setText_4 : decode cX3_setText 4 = .ok (.invokevirtual 58, 3) := by decide +kernel
theorem dX3_setText_7 : decode cX3_setText 7 = .ok (.if_icmp .ge 80, 3) := by decide +kernel
theorem dX3_setText_10 : decode cX3_setText 10 = .ok (.aload_n 1, 1) := by decide +kernel
theorem dX3_setText_11 : decode cX3_setText 11 = .ok (.iload_n 3, 1) := by decide +kernel
theorem dX3_setText_12 : decode cX3_setText 12 = .ok (.invokevirtual 61, 3) := by decide +kernel
theorem dX3_setText_15 : decode cX3_setText 15 = .ok (.istore 4, 2) := by decide +kernel
theorem dX3_setText_17 : decode cX3_setText 17 = .ok (.aload_n 0, 1) := by decide +kernel
theorem dX3_setText_18 : decode cX3_setText 18 = .ok (.iload 4, 2) := by decide +kernel
theorem dX3_setText_20 : decode cX3_setText 20 = .ok (.invokevirtual 41, 3) := by decide +kernel
theorem dX3_setText_23 : decode cX3_setText 23 = .ok (.invokevirtual 58, 3) := by decide +kernel
theorem dX3_setText_26 : decode cX3_setText 26 = .ok (.ifCond .ne 7, 3) := by decide +kernel
theorem dX3_setText_29 : decode cX3_setText 29 = .ok (.iconst 1, 1) := by decide +kernel
theorem dX3_setText_30 : decode cX3_setText 30 = .ok (.goto 4, 3) := by decide +kernel
theorem dX3_setText_33 : decode cX3_setText 33 = .ok (.iconst 0, 1) := by decide +kernel
theorem dX3_setText_34 : decode cX3_setText 34 = .ok (.istore 5, 2) := by decide +kernel
theorem dX3_setText_36 : decode cX3_setText 36 = .ok (.iload 5, 2) := by decide +kernel
theorem dX3_setText_38 : decode cX3_setText 38 = .ok (.ifCond .eq 12, 3) := by decide +kernel
theorem dX3_setText_41 : decode cX3_setText 41 = .ok (.aload_n 0, 1) := by decide +kernel
theorem dX3_setText_42 : decode cX3_setText 42 = .ok (.iload 4, 2) := by decide +kernel
theorem dX3_setText_44 : decode cX3_setText 44 = .ok (.invokevirtual 71, 3) := by decide +kernel
theorem dX3_setText_47 : decode cX3_setText 47 = .ok (.goto 9, 3) := by decide +kernel
theorem dX3_setText_50 : decode cX3_setText 50 = .ok (.aload_n 0, 1) := by decide +kernel
theorem dX3_setText_51 : decode cX3_setText 51 = .ok (.iload 4, 2) := by decide +kernel
theorem dX3_setText_53 : decode cX3_setText 53 = .ok (.invokevirtual 41, 3) := by decide +kernel
theorem dX3_setText_56 : decode cX3_setText 56 = .ok (.astore 6, 2) := by decide +kernel
theorem dX3_setText_58 : decode cX3_setText 58 = .ok (.aload 6, 2) := by decide +kernel
theorem dX3_setText_60 : decode cX3_setText 60 = .ok (.invokevirtual 58, 3) := by decide +kernel
theorem dX3_setText_63 : decode cX3_setText 63 = .ok (.ifCond .ne 5, 3) := by decide +kernel
theorem dX3_setText_66 : decode cX3_setText 66 = .ok (.iconst 0, 1) := by decide +kernel
theorem dX3_setText_67 : decode cX3_setText 67 = .ok (.ireturn, 1) := by decide +kernel
theorem dX3_setText_68 : decode cX3_setText 68 = .ok (.aload_n 2, 1) := by decide +kernel
theorem dX3_setText_69 : decode cX3_setText 69 = .ok (.iload 4, 2) := by decide +kernel
theorem dX3_setText_71 : decode cX3_setText 71 = .ok (.aload 6, 2) := by decide +kernel
theorem dX3_setText_73 : decode cX3_setText 73 = .ok (.invokevirtual 54, 3) := by decide +kernel
theorem dX3_setText_76 : decode cX3_setText 76 = .ok (.iload 5, 2) := by decide +kernel
theorem dX3_setText_78 : decode cX3_setText 78 = .ok (.invokevirtual 74, 3) := by decide +kernel
theorem dX3_setText_81 : decode cX3_setText 81 = .ok (.iinc 3 1, 3) := by decide +kernel
theorem dX3_setText_84 : decode cX3_setText 84 = .ok (.goto (-82), 3) := by decide +kernel
theorem dX3_setText_87 : decode cX3_setText 87 = .ok (.aload_n 2, 1) := by decide +kernel
theorem dX3_setText_88 : decode cX3_setText 88 = .ok (.invokevirtual 78, 3) := by decide +kernel
theorem dX3_setText_91 : decode cX3_setText 91 = .ok (.aload_n 0, 1) := by decide +kernel
theorem dX3_setText_92 : decode cX3_setText 92 = .ok (.dup, 1) := by decide +kernel
theorem dX3_setText_93 : decode cX3_setText 93 = .ok (.getfield 68, 3) := by decide +kernel
theorem dX3_setText_96 : decode cX3_setText 96 = .ok (.aload_n 1, 1) := by decide +kernel
theorem dX3_setText_97 : decode cX3_setText 97 = .ok (.invokevirtual 58, 3) := by decide +kernel
theorem dX3_setText_100 : decode cX3_setText 100 = .ok (.iadd, 1) := by decide +kernel
theorem dX3_setText_101 : decode cX3_setText 101 = .ok (.putfield 68, 3) := by decide +kernel
theorem dX3_setText_104 : decode cX3_setText 104 = .ok (.iconst 1, 1) := by decide +kernel
theorem dX3_setText_105 : decode cX3_setText 105 = .ok (.ireturn, 1) := by decide +kernel
theorem dX3_lenderFor_0 : decode cX3_lenderFor 0 = .ok (.aload_n 0, 1) := by decide +kernel
theorem dX3_lenderFor_1 : decode cX3_lenderFor 1 = .ok (.iload_n 1, 1) := by decide +kernel
theorem dX3_lenderFor_2 : decode cX3_lenderFor 2 = .ok (.invokevirtual 41, 3) := by decide +kernel
theorem dX3_lenderFor_5 : decode cX3_lenderFor 5 = .ok (.astore_n 2, 1) := by decide +kernel
theorem dX3_lenderFor_6 : decode cX3_lenderFor 6 = .ok (.iconst 0, 1) := by decide +kernel
theorem dX3_lenderFor_7 : decode cX3_lenderFor 7 = .ok (.istore_n 3, 1) := by decide +kernel
theorem dX3_lenderFor_8 : decode cX3_lenderFor 8 = .ok (.iload_n 3, 1) := by decide +kernel
theorem dX3_lenderFor_9 : decode cX3_lenderFor 9 = .ok (.bipush 27, 2) := by decide +kernel
theorem dX3_lenderFor_11 : decode cX3_lenderFor 11 = .ok (.if_icmp .ge 41, 3) := by decide +kernel
theorem dX3_lenderFor_14 : decode cX3_lenderFor 14 = .ok (.iload_n 3, 1) := by decide +kernel
theorem dX3_lenderFor_15 : decode cX3_lenderFor 15 = .ok (.invokestatic 81, 3) := by decide +kernel
theorem dX3_lenderFor_18 : decode cX3_lenderFor 18 = .ok (.iload_n 1, 1) := by decide +kernel
theorem dX3_lenderFor_19 : decode cX3_lenderFor 19 = .ok (.invokestatic 81, 3) := by decide +kernel
theorem dX3_lenderFor_22 : decode cX3_lenderFor 22 = .ok (.if_icmp .ne 24, 3) := by decide +kernel
theorem dX3_lenderFor_25 : decode cX3_lenderFor 25 = .ok (.aload_n 0, 1) := by decide +kernel
theorem dX3_lenderFor_26 : decode cX3_lenderFor 26 = .ok (.iload_n 3, 1) := by decide +kernel
theorem dX3_lenderFor_27 : decode cX3_lenderFor 27 = .ok (.invokevirtual 41, 3) := by decide +kernel
theorem dX3_lenderFor_30 : decode cX3_lenderFor 30 = .ok (.invokevirtual 58, 3) := by decide +kernel
theorem dX3_lenderFor_33 : decode cX3_lenderFor 33 = .ok (.aload_n 2, 1) := by decide +kernel
theorem dX3_lenderFor_34 : decode cX3_lenderFor 34 = .ok (.invokevirtual 58, 3) := by decide +kernel
theorem dX3_lenderFor_37 : decode cX3_lenderFor 37 = .ok (.if_icmp .le 9, 3) := by decide +kernel
theorem dX3_lenderFor_40 : decode cX3_lenderFor 40 = .ok (.aload_n 0, 1) := by decide +kernel
theorem dX3_lenderFor_41 : decode cX3_lenderFor 41 = .ok (.iload_n 3, 1) := by decide +kernel
theorem dX3_lenderFor_42 : decode cX3_lenderFor 42 = .ok (.invokevirtual 41, 3) := by decide +kernel
theorem dX3_lenderFor_45 : decode cX3_lenderFor 45 = .ok (.astore_n 2, 1) := by decide +kernel
theorem dX3_lenderFor_46 : decode cX3_lenderFor 46 = .ok (.iinc 3 1, 3) := by decide +kernel
theorem dX3_lenderFor_49 : decode cX3_lenderFor 49 = .ok (.goto (-41), 3) := by decide +kernel
theorem dX3_lenderFor_52 : decode cX3_lenderFor 52 = .ok (.aload_n 2, 1) := by decide +kernel
theorem dX3_lenderFor_53 : decode cX3_lenderFor 53 = .ok (.areturn, 1) := by decide +kernel
theorem dX3_correctForme_0 : decode cX3_correctForme 0 = .ok (.iconst 0, 1) := by decide +kernel
theorem dX3_correctForme_1 : decode cX3_correctForme 1 = .ok (.istore_n 2, 1) := by decide +kernel
theorem dX3_correctForme_2 : decode cX3_correctForme 2 = .ok (.iconst 0, 1) := by decide +kernel
theorem dX3_correctForme_3 : decode cX3_correctForme 3 = .ok (.istore_n 3, 1) := by decide +kernel
theorem dX3_correctForme_4 : decode cX3_correctForme 4 = .ok (.iload_n 3, 1) := by decide +kernel
theorem dX3_correctForme_5 : decode cX3_correctForme 5 = .ok (.aload_n 1, 1) := by decide +kernel
theorem dX3_correctForme_6 : decode cX3_correctForme 6 = .ok (.invokevirtual 84, 3) := by decide +kernel
theorem dX3_correctForme_9 : decode cX3_correctForme 9 = .ok (.if_icmp .ge 29, 3) := by decide +kernel
theorem dX3_correctForme_12 : decode cX3_correctForme 12 = .ok (.aload_n 1, 1) := by decide +kernel
theorem dX3_correctForme_13 : decode cX3_correctForme 13 = .ok (.iload_n 3, 1) := by decide +kernel
theorem dX3_correctForme_14 : decode cX3_correctForme 14 = .ok (.invokevirtual 85, 3) := by decide +kernel
theorem dX3_correctForme_17 : decode cX3_correctForme 17 = .ok (.ifCond .eq 15, 3) := by decide +kernel
theorem dX3_correctForme_20 : decode cX3_correctForme 20 = .ok (.aload_n 0, 1) := by decide +kernel
theorem dX3_correctForme_21 : decode cX3_correctForme 21 = .ok (.aload_n 1, 1) := by decide +kernel
theorem dX3_correctForme_22 : decode cX3_correctForme 22 = .ok (.iload_n 3, 1) := by decide +kernel
theorem dX3_correctForme_23 : decode cX3_correctForme 23 = .ok (.invokevirtual 89, 3) := by decide +kernel
theorem dX3_correctForme_26 : decode cX3_correctForme 26 = .ok (.ifCond .eq 6, 3) := by decide +kernel
theorem dX3_correctForme_29 : decode cX3_correctForme 29 = .ok (.iinc 2 1, 3) := by decide +kernel
theorem dX3_correctForme_32 : decode cX3_correctForme 32 = .ok (.iinc 3 1, 3) := by decide +kernel
theorem dX3_correctForme_35 : decode cX3_correctForme 35 = .ok (.goto (-31), 3) := by decide +kernel
theorem dX3_correctForme_38 : decode cX3_correctForme 38 = .ok (.aload_n 0, 1) := by decide +kernel
theorem dX3_correctForme_39 : decode cX3_correctForme 39 = .ok (.dup, 1) := by decide +kernel
theorem dX3_correctForme_40 : decode cX3_correctForme 40 = .ok (.getfield 68, 3) := by decide +kernel
theorem dX3_correctForme_43 : decode cX3_correctForme 43 = .ok (.iconst 3, 1) := by decide +kernel
theorem dX3_correctForme_44 : decode cX3_correctForme 44 = .ok (.iload_n 2, 1) := by decide +kernel
theorem dX3_correctForme_45 : decode cX3_correctForme 45 = .ok (.imul, 1) := by decide +kernel
theorem dX3_correctForme_46 : decode cX3_correctForme 46 = .ok (.iadd, 1) := by decide +kernel
theorem dX3_correctForme_47 : decode cX3_correctForme 47 = .ok (.putfield 68, 3) := by decide +kernel
theorem dX3_correctForme_50 : decode cX3_correctForme 50 = .ok (.iload_n 2, 1) := by decide +kernel
theorem dX3_correctForme_51 : decode cX3_correctForme 51 = .ok (.ireturn, 1) := by decide +kernel
theorem dX3_correctPlace_0 : decode cX3_correctPlace 0 = .ok (.aload_n 1, 1) := by decide +kernel
theorem dX3_correctPlace_1 : decode cX3_correctPlace 1 = .ok (.iload_n 2, 1) := by decide +kernel
theorem dX3_correctPlace_2 : decode cX3_correctPlace 2 = .ok (.invokevirtual 93, 3) := by decide +kernel
theorem dX3_correctPlace_5 : decode cX3_correctPlace 5 = .ok (.istore_n 3, 1) := by decide +kernel
theorem dX3_correctPlace_6 : decode cX3_correctPlace 6 = .ok (.aload_n 1, 1) := by decide +kernel
theorem dX3_correctPlace_7 : decode cX3_correctPlace 7 = .ok (.iload_n 2, 1) := by decide +kernel
theorem dX3_correctPlace_8 : decode cX3_correctPlace 8 = .ok (.invokevirtual 96, 3) := by decide +kernel
theorem dX3_correctPlace_11 : decode cX3_correctPlace 11 = .ok (.istore 4, 2) := by decide +kernel
theorem dX3_correctPlace_13 : decode cX3_correctPlace 13 = .ok (.aload_n 0, 1) := by decide +kernel
theorem dX3_correctPlace_14 : decode cX3_correctPlace 14 = .ok (.iload_n 3, 1) := by decide +kernel
theorem dX3_correctPlace_15 : decode cX3_correctPlace 15 = .ok (.invokevirtual 41, 3) := by decide +kernel
theorem dX3_correctPlace_18 : decode cX3_correctPlace 18 = .ok (.astore 5, 2) := by decide +kernel
theorem dX3_correctPlace_20 : decode cX3_correctPlace 20 = .ok (.aload 5, 2) := by decide +kernel
theorem dX3_correctPlace_22 : decode cX3_correctPlace 22 = .ok (.iload_n 3, 1) := by decide +kernel
theorem dX3_correctPlace_23 : decode cX3_correctPlace 23 = .ok (.invokevirtual 99, 3) := by decide +kernel
theorem dX3_correctPlace_26 : decode cX3_correctPlace 26 = .ok (.istore 6, 2) := by decide +kernel
theorem dX3_correctPlace_28 : decode cX3_correctPlace 28 = .ok (.iload 6, 2) := by decide +kernel
theorem dX3_correctPlace_30 : decode cX3_correctPlace 30 = .ok (.iconst (-1), 1) := by decide +kernel
theorem dX3_correctPlace_31 : decode cX3_correctPlace 31 = .ok (.if_icmp .ne 5, 3) := by decide +kernel
theorem dX3_correctPlace_34 : decode cX3_correctPlace 34 = .ok (.iconst 0, 1) := by decide +kernel
theorem dX3_correctPlace_35 : decode cX3_correctPlace 35 = .ok (.ireturn, 1) := by decide +kernel
theorem dX3_correctPlace_36 : decode cX3_correctPlace 36 = .ok (.aload 5, 2) := by decide +kernel
theorem dX3_correctPlace_38 : decode cX3_correctPlace 38 = .ok (.iload 6, 2) := by decide +kernel
theorem dX3_correctPlace_40 : decode cX3_correctPlace 40 = .ok (.invokevirtual 65, 3) := by decide +kernel
theorem dX3_correctPlace_43 : decode cX3_correctPlace 43 = .ok (.pop, 1) := by decide +kernel
theorem dX3_correctPlace_44 : decode cX3_correctPlace 44 = .ok (.aload_n 1, 1) := by decide +kernel
theorem dX3_correctPlace_45 : decode cX3_correctPlace 45 = .ok (.iload_n 2, 1) := by decide +kernel
theorem dX3_correctPlace_46 : decode cX3_correctPlace 46 = .ok (.invokevirtual 102, 3) := by decide +kernel
theorem dX3_correctPlace_49 : decode cX3_correctPlace 49 = .ok (.aload_n 0, 1) := by decide +kernel
theorem dX3_correctPlace_50 : decode cX3_correctPlace 50 = .ok (.iload 4, 2) := by decide +kernel
theorem dX3_correctPlace_52 : decode cX3_correctPlace 52 = .ok (.invokevirtual 48, 3) := by decide +kernel
theorem dX3_correctPlace_55 : decode cX3_correctPlace 55 = .ok (.iconst 1, 1) := by decide +kernel
theorem dX3_correctPlace_56 : decode cX3_correctPlace 56 = .ok (.ireturn, 1) := by decide +kernel
theorem dX3_distributeForme_0 : decode cX3_distributeForme 0 = .ok (.aload_n 1, 1) := by decide +kernel
theorem dX3_distributeForme_1 : decode cX3_distributeForme 1 = .ok (.invokevirtual 84, 3) := by decide +kernel
theorem dX3_distributeForme_4 : decode cX3_distributeForme 4 = .ok (.istore_n 2, 1) := by decide +kernel
theorem dX3_distributeForme_5 : decode cX3_distributeForme 5 = .ok (.iconst 0, 1) := by decide +kernel
theorem dX3_distributeForme_6 : decode cX3_distributeForme 6 = .ok (.istore_n 3, 1) := by decide +kernel
theorem dX3_distributeForme_7 : decode cX3_distributeForme 7 = .ok (.iload_n 3, 1) := by decide +kernel
theorem dX3_distributeForme_8 : decode cX3_distributeForme 8 = .ok (.iload_n 2, 1) := by decide +kernel
theorem dX3_distributeForme_9 : decode cX3_distributeForme 9 = .ok (.if_icmp .ge 55, 3) := by decide +kernel
theorem dX3_distributeForme_12 : decode cX3_distributeForme 12 = .ok (.aload_n 1, 1) := by decide +kernel
theorem dX3_distributeForme_13 : decode cX3_distributeForme 13 = .ok (.iload_n 3, 1) := by decide +kernel
theorem dX3_distributeForme_14 : decode cX3_distributeForme 14 = .ok (.invokevirtual 96, 3) := by decide +kernel
theorem dX3_distributeForme_17 : decode cX3_distributeForme 17 = .ok (.istore 4, 2) := by decide +kernel
theorem dX3_distributeForme_19 : decode cX3_distributeForme 19 = .ok (.aload_n 0, 1) := by decide +kernel
theorem dX3_distributeForme_20 : decode cX3_distributeForme 20 = .ok (.dup, 1) := by decide +kernel
theorem dX3_distributeForme_21 : decode cX3_distributeForme 21 = .ok (.getfield 105, 3) := by decide +kernel
theorem dX3_distributeForme_24 : decode cX3_distributeForme 24 = .ok (.iconst 1, 1) := by decide +kernel
theorem dX3_distributeForme_25 : decode cX3_distributeForme 25 = .ok (.iadd, 1) := by decide +kernel
theorem dX3_distributeForme_26 : decode cX3_distributeForme 26 = .ok (.putfield 105, 3) := by decide +kernel
theorem dX3_distributeForme_29 : decode cX3_distributeForme 29 = .ok (.aload_n 0, 1) := by decide +kernel
theorem dX3_distributeForme_30 : decode cX3_distributeForme 30 = .ok (.aload_n 0, 1) := by decide +kernel
theorem dX3_distributeForme_31 : decode cX3_distributeForme 31 = .ok (.aload_n 0, 1) := by decide +kernel
theorem dX3_distributeForme_32 : decode cX3_distributeForme 32 = .ok (.getfield 105, 3) := by decide +kernel
theorem dX3_distributeForme_35 : decode cX3_distributeForme 35 = .ok (.invokevirtual 108, 3) := by decide +kernel
theorem dX3_distributeForme_38 : decode cX3_distributeForme 38 = .ok (.ifCond .eq 10, 3) := by decide +kernel
theorem dX3_distributeForme_41 : decode cX3_distributeForme 41 = .ok (.iload 4, 2) := by decide +kernel
theorem dX3_distributeForme_43 : decode cX3_distributeForme 43 = .ok (.iconst 1, 1) := by decide +kernel
theorem dX3_distributeForme_44 : decode cX3_distributeForme 44 = .ok (.iadd, 1) := by decide +kernel
theorem dX3_distributeForme_45 : decode cX3_distributeForme 45 = .ok (.goto 5, 3) := by decide +kernel
theorem dX3_distributeForme_48 : decode cX3_distributeForme 48 = .ok (.iload 4, 2) := by decide +kernel
theorem dX3_distributeForme_50 : decode cX3_distributeForme 50 = .ok (.invokevirtual 41, 3) := by decide +kernel
theorem dX3_distributeForme_53 : decode cX3_distributeForme 53 = .ok (.iload 4, 2) := by decide +kernel
theorem dX3_distributeForme_55 : decode cX3_distributeForme 55 = .ok (.invokevirtual 45, 3) := by decide +kernel
theorem dX3_distributeForme_58 : decode cX3_distributeForme 58 = .ok (.iinc 3 1, 3) := by decide +kernel
theorem dX3_distributeForme_61 : decode cX3_distributeForme 61 = .ok (.goto (-54), 3) := by decide +kernel
theorem dX3_distributeForme_64 : decode cX3_distributeForme 64 = .ok (.aload_n 0, 1) := by decide +kernel
theorem dX3_distributeForme_65 : decode cX3_distributeForme 65 = .ok (.dup, 1) := by decide +kernel
theorem dX3_distributeForme_66 : decode cX3_distributeForme 66 = .ok (.getfield 68, 3) := by decide +kernel
theorem dX3_distributeForme_69 : decode cX3_distributeForme 69 = .ok (.iload_n 2, 1) := by decide +kernel
theorem dX3_distributeForme_70 : decode cX3_distributeForme 70 = .ok (.iadd, 1) := by decide +kernel
theorem dX3_distributeForme_71 : decode cX3_distributeForme 71 = .ok (.putfield 68, 3) := by decide +kernel
theorem dX3_distributeForme_74 : decode cX3_distributeForme 74 = .ok (.aload_n 1, 1) := by decide +kernel
theorem dX3_distributeForme_75 : decode cX3_distributeForme 75 = .ok (.invokevirtual 111, 3) := by decide +kernel
theorem dX3_distributeForme_78 : decode cX3_distributeForme 78 = .ok (.iload_n 2, 1) := by decide +kernel
theorem dX3_distributeForme_79 : decode cX3_distributeForme 79 = .ok (.ireturn, 1) := by decide +kernel
theorem dX3_slips_0 : decode cX3_slips 0 = .ok (.aload_n 0, 1) := by decide +kernel
theorem dX3_slips_1 : decode cX3_slips 1 = .ok (.getfield 114, 3) := by decide +kernel
theorem dX3_slips_4 : decode cX3_slips 4 = .ok (.ifCond .le 16, 3) := by decide +kernel
theorem dX3_slips_7 : decode cX3_slips 7 = .ok (.iload_n 1, 1) := by decide +kernel
theorem dX3_slips_8 : decode cX3_slips 8 = .ok (.aload_n 0, 1) := by decide +kernel
theorem dX3_slips_9 : decode cX3_slips 9 = .ok (.getfield 114, 3) := by decide +kernel
theorem dX3_slips_12 : decode cX3_slips 12 = .ok (.irem, 1) := by decide +kernel
theorem dX3_slips_13 : decode cX3_slips 13 = .ok (.ifCond .ne 7, 3) := by decide +kernel
theorem dX3_slips_16 : decode cX3_slips 16 = .ok (.iconst 1, 1) := by decide +kernel
theorem dX3_slips_17 : decode cX3_slips 17 = .ok (.goto 4, 3) := by decide +kernel
theorem dX3_slips_20 : decode cX3_slips 20 = .ok (.iconst 0, 1) := by decide +kernel
theorem dX3_slips_21 : decode cX3_slips 21 = .ok (.ireturn, 1) := by decide +kernel
theorem dX3_pieForme_0 : decode cX3_pieForme 0 = .ok (.iconst 0, 1) := by decide +kernel
theorem dX3_pieForme_1 : decode cX3_pieForme 1 = .ok (.istore_n 2, 1) := by decide +kernel
theorem dX3_pieForme_2 : decode cX3_pieForme 2 = .ok (.iload_n 2, 1) := by decide +kernel
theorem dX3_pieForme_3 : decode cX3_pieForme 3 = .ok (.aload_n 1, 1) := by decide +kernel
theorem dX3_pieForme_4 : decode cX3_pieForme 4 = .ok (.invokevirtual 84, 3) := by decide +kernel
theorem dX3_pieForme_7 : decode cX3_pieForme 7 = .ok (.if_icmp .ge 21, 3) := by decide +kernel
theorem dX3_pieForme_10 : decode cX3_pieForme 10 = .ok (.aload_n 0, 1) := by decide +kernel
theorem dX3_pieForme_11 : decode cX3_pieForme 11 = .ok (.getfield 26, 3) := by decide +kernel
theorem dX3_pieForme_14 : decode cX3_pieForme 14 = .ok (.aload_n 1, 1) := by decide +kernel
theorem dX3_pieForme_15 : decode cX3_pieForme 15 = .ok (.iload_n 2, 1) := by decide +kernel
theorem dX3_pieForme_16 : decode cX3_pieForme 16 = .ok (.invokevirtual 96, 3) := by decide +kernel
theorem dX3_pieForme_19 : decode cX3_pieForme 19 = .ok (.invokevirtual 45, 3) := by decide +kernel
theorem dX3_pieForme_22 : decode cX3_pieForme 22 = .ok (.iinc 2 1, 3) := by decide +kernel
theorem dX3_pieForme_25 : decode cX3_pieForme 25 = .ok (.goto (-23), 3) := by decide +kernel
theorem dX3_pieForme_28 : decode cX3_pieForme 28 = .ok (.aload_n 1, 1) := by decide +kernel
theorem dX3_pieForme_29 : decode cX3_pieForme 29 = .ok (.invokevirtual 111, 3) := by decide +kernel
theorem dX3_pieForme_32 : decode cX3_pieForme 32 = .ok (.return_, 1) := by decide +kernel
theorem dX3_sortFromHeap_0 : decode cX3_sortFromHeap 0 = .ok (.iload_n 1, 1) := by decide +kernel
theorem dX3_sortFromHeap_1 : decode cX3_sortFromHeap 1 = .ok (.aload_n 0, 1) := by decide +kernel
theorem dX3_sortFromHeap_2 : decode cX3_sortFromHeap 2 = .ok (.getfield 26, 3) := by decide +kernel
theorem dX3_sortFromHeap_5 : decode cX3_sortFromHeap 5 = .ok (.invokevirtual 58, 3) := by decide +kernel
theorem dX3_sortFromHeap_8 : decode cX3_sortFromHeap 8 = .ok (.invokestatic 117, 3) := by decide +kernel
theorem dX3_sortFromHeap_11 : decode cX3_sortFromHeap 11 = .ok (.istore_n 2, 1) := by decide +kernel
theorem dX3_sortFromHeap_12 : decode cX3_sortFromHeap 12 = .ok (.iconst 0, 1) := by decide +kernel
theorem dX3_sortFromHeap_13 : decode cX3_sortFromHeap 13 = .ok (.istore_n 3, 1) := by decide +kernel
theorem dX3_sortFromHeap_14 : decode cX3_sortFromHeap 14 = .ok (.iload_n 3, 1) := by decide +kernel
theorem dX3_sortFromHeap_15 : decode cX3_sortFromHeap 15 = .ok (.iload_n 2, 1) := by decide +kernel
theorem dX3_sortFromHeap_16 : decode cX3_sortFromHeap 16 = .ok (.if_icmp .ge 21, 3) := by decide +kernel
theorem dX3_sortFromHeap_19 : decode cX3_sortFromHeap 19 = .ok (.aload_n 0, 1) := by decide +kernel
theorem dX3_sortFromHeap_20 : decode cX3_sortFromHeap 20 = .ok (.aload_n 0, 1) := by decide +kernel
theorem dX3_sortFromHeap_21 : decode cX3_sortFromHeap 21 = .ok (.getfield 26, 3) := by decide +kernel
theorem dX3_sortFromHeap_24 : decode cX3_sortFromHeap 24 = .ok (.iload_n 3, 1) := by decide +kernel
theorem dX3_sortFromHeap_25 : decode cX3_sortFromHeap 25 = .ok (.invokevirtual 61, 3) := by decide +kernel
theorem dX3_sortFromHeap_28 : decode cX3_sortFromHeap 28 = .ok (.invokevirtual 48, 3) := by decide +kernel
theorem dX3_sortFromHeap_31 : decode cX3_sortFromHeap 31 = .ok (.iinc 3 1, 3) := by decide +kernel
theorem dX3_sortFromHeap_34 : decode cX3_sortFromHeap 34 = .ok (.goto (-20), 3) := by decide +kernel
theorem dX3_sortFromHeap_37 : decode cX3_sortFromHeap 37 = .ok (.aload_n 0, 1) := by decide +kernel
theorem dX3_sortFromHeap_38 : decode cX3_sortFromHeap 38 = .ok (.getfield 26, 3) := by decide +kernel
theorem dX3_sortFromHeap_41 : decode cX3_sortFromHeap 41 = .ok (.iload_n 2, 1) := by decide +kernel
theorem dX3_sortFromHeap_42 : decode cX3_sortFromHeap 42 = .ok (.invokevirtual 120, 3) := by decide +kernel
theorem dX3_sortFromHeap_45 : decode cX3_sortFromHeap 45 = .ok (.aload_n 0, 1) := by decide +kernel
theorem dX3_sortFromHeap_46 : decode cX3_sortFromHeap 46 = .ok (.dup, 1) := by decide +kernel
theorem dX3_sortFromHeap_47 : decode cX3_sortFromHeap 47 = .ok (.getfield 68, 3) := by decide +kernel
theorem dX3_sortFromHeap_50 : decode cX3_sortFromHeap 50 = .ok (.iload_n 2, 1) := by decide +kernel
theorem dX3_sortFromHeap_51 : decode cX3_sortFromHeap 51 = .ok (.iadd, 1) := by decide +kernel
theorem dX3_sortFromHeap_52 : decode cX3_sortFromHeap 52 = .ok (.putfield 68, 3) := by decide +kernel
theorem dX3_sortFromHeap_55 : decode cX3_sortFromHeap 55 = .ok (.iload_n 2, 1) := by decide +kernel
theorem dX3_sortFromHeap_56 : decode cX3_sortFromHeap 56 = .ok (.ireturn, 1) := by decide +kernel
theorem dX3_number_0 : decode cX3_number 0 = .ok (.iload_n 1, 1) := by decide +kernel
theorem dX3_number_1 : decode cX3_number 1 = .ok (.tableswitch 117 0 10 #[59, 64, 69, 77, 82, 87, 92, 97, 102, 107, 112], 59) := by decide +kernel
theorem dX3_number_60 : decode cX3_number 60 = .ok (.aload_n 0, 1) := by decide +kernel
theorem dX3_number_61 : decode cX3_number 61 = .ok (.invokevirtual 123, 3) := by decide +kernel
theorem dX3_number_64 : decode cX3_number 64 = .ok (.ireturn, 1) := by decide +kernel
theorem dX3_number_65 : decode cX3_number 65 = .ok (.aload_n 0, 1) := by decide +kernel
theorem dX3_number_66 : decode cX3_number 66 = .ok (.invokevirtual 126, 3) := by decide +kernel
theorem dX3_number_69 : decode cX3_number 69 = .ok (.ireturn, 1) := by decide +kernel
theorem dX3_number_70 : decode cX3_number 70 = .ok (.aload_n 0, 1) := by decide +kernel
theorem dX3_number_71 : decode cX3_number 71 = .ok (.getfield 26, 3) := by decide +kernel
theorem dX3_number_74 : decode cX3_number 74 = .ok (.invokevirtual 58, 3) := by decide +kernel
theorem dX3_number_77 : decode cX3_number 77 = .ok (.ireturn, 1) := by decide +kernel
theorem dX3_number_78 : decode cX3_number 78 = .ok (.aload_n 0, 1) := by decide +kernel
theorem dX3_number_79 : decode cX3_number 79 = .ok (.invokevirtual 129, 3) := by decide +kernel
theorem dX3_number_82 : decode cX3_number 82 = .ok (.ireturn, 1) := by decide +kernel
theorem dX3_number_83 : decode cX3_number 83 = .ok (.aload_n 0, 1) := by decide +kernel
theorem dX3_number_84 : decode cX3_number 84 = .ok (.getfield 114, 3) := by decide +kernel
theorem dX3_number_87 : decode cX3_number 87 = .ok (.ireturn, 1) := by decide +kernel
theorem dX3_number_88 : decode cX3_number 88 = .ok (.aload_n 0, 1) := by decide +kernel
theorem dX3_number_89 : decode cX3_number 89 = .ok (.getfield 30, 3) := by decide +kernel
theorem dX3_number_92 : decode cX3_number 92 = .ok (.ireturn, 1) := by decide +kernel
theorem dX3_number_93 : decode cX3_number 93 = .ok (.aload_n 0, 1) := by decide +kernel
theorem dX3_number_94 : decode cX3_number 94 = .ok (.getfield 51, 3) := by decide +kernel
theorem dX3_number_97 : decode cX3_number 97 = .ok (.ireturn, 1) := by decide +kernel
theorem dX3_number_98 : decode cX3_number 98 = .ok (.aload_n 0, 1) := by decide +kernel
theorem dX3_number_99 : decode cX3_number 99 = .ok (.getfield 68, 3) := by decide +kernel
theorem dX3_number_102 : decode cX3_number 102 = .ok (.ireturn, 1) := by decide +kernel
theorem dX3_number_103 : decode cX3_number 103 = .ok (.aload_n 0, 1) := by decide +kernel
theorem dX3_number_104 : decode cX3_number 104 = .ok (.getfield 105, 3) := by decide +kernel
theorem dX3_number_107 : decode cX3_number 107 = .ok (.ireturn, 1) := by decide +kernel
theorem dX3_number_108 : decode cX3_number 108 = .ok (.aload_n 0, 1) := by decide +kernel
theorem dX3_number_109 : decode cX3_number 109 = .ok (.invokevirtual 132, 3) := by decide +kernel
theorem dX3_number_112 : decode cX3_number 112 = .ok (.ireturn, 1) := by decide +kernel
theorem dX3_number_113 : decode cX3_number 113 = .ok (.aload_n 0, 1) := by decide +kernel
theorem dX3_number_114 : decode cX3_number 114 = .ok (.invokevirtual 135, 3) := by decide +kernel
theorem dX3_number_117 : decode cX3_number 117 = .ok (.ireturn, 1) := by decide +kernel
theorem dX3_number_118 : decode cX3_number 118 = .ok (.aload_n 0, 1) := by decide +kernel
theorem dX3_number_119 : decode cX3_number 119 = .ok (.invokevirtual 138, 3) := by decide +kernel
theorem dX3_number_122 : decode cX3_number 122 = .ok (.ireturn, 1) := by decide +kernel
theorem dX3_allSorts_0 : decode cX3_allSorts 0 = .ok (.aload_n 0, 1) := by decide +kernel
theorem dX3_allSorts_1 : decode cX3_allSorts 1 = .ok (.invokevirtual 123, 3) := by decide +kernel
theorem dX3_allSorts_4 : decode cX3_allSorts 4 = .ok (.aload_n 0, 1) := by decide +kernel
theorem dX3_allSorts_5 : decode cX3_allSorts 5 = .ok (.invokevirtual 126, 3) := by decide +kernel
theorem dX3_allSorts_8 : decode cX3_allSorts 8 = .ok (.iadd, 1) := by decide +kernel
theorem dX3_allSorts_9 : decode cX3_allSorts 9 = .ok (.aload_n 0, 1) := by decide +kernel
theorem dX3_allSorts_10 : decode cX3_allSorts 10 = .ok (.getfield 26, 3) := by decide +kernel
theorem dX3_allSorts_13 : decode cX3_allSorts 13 = .ok (.invokevirtual 58, 3) := by decide +kernel
theorem dX3_allSorts_16 : decode cX3_allSorts 16 = .ok (.iadd, 1) := by decide +kernel
theorem dX3_allSorts_17 : decode cX3_allSorts 17 = .ok (.ireturn, 1) := by decide +kernel
theorem dX3_sortsInBoxes_0 : decode cX3_sortsInBoxes 0 = .ok (.iconst 0, 1) := by decide +kernel
theorem dX3_sortsInBoxes_1 : decode cX3_sortsInBoxes 1 = .ok (.istore_n 1, 1) := by decide +kernel
theorem dX3_sortsInBoxes_2 : decode cX3_sortsInBoxes 2 = .ok (.aload_n 0, 1) := by decide +kernel
theorem dX3_sortsInBoxes_3 : decode cX3_sortsInBoxes 3 = .ok (.getfield 11, 3) := by decide +kernel
theorem dX3_sortsInBoxes_6 : decode cX3_sortsInBoxes 6 = .ok (.astore_n 2, 1) := by decide +kernel
theorem dX3_sortsInBoxes_7 : decode cX3_sortsInBoxes 7 = .ok (.aload_n 2, 1) := by decide +kernel
theorem dX3_sortsInBoxes_8 : decode cX3_sortsInBoxes 8 = .ok (.arraylength, 1) := by decide +kernel
theorem dX3_sortsInBoxes_9 : decode cX3_sortsInBoxes 9 = .ok (.istore_n 3, 1) := by decide +kernel
theorem dX3_sortsInBoxes_10 : decode cX3_sortsInBoxes 10 = .ok (.iconst 0, 1) := by decide +kernel
theorem dX3_sortsInBoxes_11 : decode cX3_sortsInBoxes 11 = .ok (.istore 4, 2) := by decide +kernel
theorem dX3_sortsInBoxes_13 : decode cX3_sortsInBoxes 13 = .ok (.iload 4, 2) := by decide +kernel
theorem dX3_sortsInBoxes_15 : decode cX3_sortsInBoxes 15 = .ok (.iload_n 3, 1) := by decide +kernel
theorem dX3_sortsInBoxes_16 : decode cX3_sortsInBoxes 16 = .ok (.if_icmp .ge 23, 3) := by decide +kernel
theorem dX3_sortsInBoxes_19 : decode cX3_sortsInBoxes 19 = .ok (.aload_n 2, 1) := by decide +kernel
theorem dX3_sortsInBoxes_20 : decode cX3_sortsInBoxes 20 = .ok (.iload 4, 2) := by decide +kernel
theorem dX3_sortsInBoxes_22 : decode cX3_sortsInBoxes 22 = .ok (.aaload, 1) := by decide +kernel
theorem dX3_sortsInBoxes_23 : decode cX3_sortsInBoxes 23 = .ok (.astore 5, 2) := by decide +kernel
theorem dX3_sortsInBoxes_25 : decode cX3_sortsInBoxes 25 = .ok (.iload_n 1, 1) := by decide +kernel
theorem dX3_sortsInBoxes_26 : decode cX3_sortsInBoxes 26 = .ok (.aload 5, 2) := by decide +kernel
theorem dX3_sortsInBoxes_28 : decode cX3_sortsInBoxes 28 = .ok (.invokevirtual 58, 3) := by decide +kernel
theorem dX3_sortsInBoxes_31 : decode cX3_sortsInBoxes 31 = .ok (.iadd, 1) := by decide +kernel
theorem dX3_sortsInBoxes_32 : decode cX3_sortsInBoxes 32 = .ok (.istore_n 1, 1) := by decide +kernel
theorem dX3_sortsInBoxes_33 : decode cX3_sortsInBoxes 33 = .ok (.iinc 4 1, 3) := by decide +kernel
theorem dX3_sortsInBoxes_36 : decode cX3_sortsInBoxes 36 = .ok (.goto (-23), 3) := by decide +kernel
theorem dX3_sortsInBoxes_39 : decode cX3_sortsInBoxes 39 = .ok (.iload_n 1, 1) := by decide +kernel
theorem dX3_sortsInBoxes_40 : decode cX3_sortsInBoxes 40 = .ok (.ireturn, 1) := by decide +kernel
theorem dX3_foulSorts_0 : decode cX3_foulSorts 0 = .ok (.iconst 0, 1) := by decide +kernel
theorem dX3_foulSorts_1 : decode cX3_foulSorts 1 = .ok (.istore_n 1, 1) := by decide +kernel
theorem dX3_foulSorts_2 : decode cX3_foulSorts 2 = .ok (.iconst 0, 1) := by decide +kernel
theorem dX3_foulSorts_3 : decode cX3_foulSorts 3 = .ok (.istore_n 2, 1) := by decide +kernel
theorem dX3_foulSorts_4 : decode cX3_foulSorts 4 = .ok (.iload_n 2, 1) := by decide +kernel
theorem dX3_foulSorts_5 : decode cX3_foulSorts 5 = .ok (.bipush 27, 2) := by decide +kernel
theorem dX3_foulSorts_7 : decode cX3_foulSorts 7 = .ok (.if_icmp .ge 30, 3) := by decide +kernel
theorem dX3_foulSorts_10 : decode cX3_foulSorts 10 = .ok (.iload_n 1, 1) := by decide +kernel
theorem dX3_foulSorts_11 : decode cX3_foulSorts 11 = .ok (.aload_n 0, 1) := by decide +kernel
theorem dX3_foulSorts_12 : decode cX3_foulSorts 12 = .ok (.iload_n 2, 1) := by decide +kernel
theorem dX3_foulSorts_13 : decode cX3_foulSorts 13 = .ok (.invokevirtual 41, 3) := by decide +kernel
theorem dX3_foulSorts_16 : decode cX3_foulSorts 16 = .ok (.invokevirtual 58, 3) := by decide +kernel
theorem dX3_foulSorts_19 : decode cX3_foulSorts 19 = .ok (.aload_n 0, 1) := by decide +kernel
theorem dX3_foulSorts_20 : decode cX3_foulSorts 20 = .ok (.iload_n 2, 1) := by decide +kernel
theorem dX3_foulSorts_21 : decode cX3_foulSorts 21 = .ok (.invokevirtual 41, 3) := by decide +kernel
theorem dX3_foulSorts_24 : decode cX3_foulSorts 24 = .ok (.iload_n 2, 1) := by decide +kernel
theorem dX3_foulSorts_25 : decode cX3_foulSorts 25 = .ok (.invokevirtual 141, 3) := by decide +kernel
theorem dX3_foulSorts_28 : decode cX3_foulSorts 28 = .ok (.isub, 1) := by decide +kernel
theorem dX3_foulSorts_29 : decode cX3_foulSorts 29 = .ok (.iadd, 1) := by decide +kernel
theorem dX3_foulSorts_30 : decode cX3_foulSorts 30 = .ok (.istore_n 1, 1) := by decide +kernel
theorem dX3_foulSorts_31 : decode cX3_foulSorts 31 = .ok (.iinc 2 1, 3) := by decide +kernel
theorem dX3_foulSorts_34 : decode cX3_foulSorts 34 = .ok (.goto (-30), 3) := by decide +kernel
theorem dX3_foulSorts_37 : decode cX3_foulSorts 37 = .ok (.iload_n 1, 1) := by decide +kernel
theorem dX3_foulSorts_38 : decode cX3_foulSorts 38 = .ok (.ireturn, 1) := by decide +kernel
theorem dX3_countInBoxes_0 : decode cX3_countInBoxes 0 = .ok (.iconst 0, 1) := by decide +kernel
theorem dX3_countInBoxes_1 : decode cX3_countInBoxes 1 = .ok (.istore_n 2, 1) := by decide +kernel
theorem dX3_countInBoxes_2 : decode cX3_countInBoxes 2 = .ok (.aload_n 0, 1) := by decide +kernel
theorem dX3_countInBoxes_3 : decode cX3_countInBoxes 3 = .ok (.getfield 11, 3) := by decide +kernel
theorem dX3_countInBoxes_6 : decode cX3_countInBoxes 6 = .ok (.astore_n 3, 1) := by decide +kernel
theorem dX3_countInBoxes_7 : decode cX3_countInBoxes 7 = .ok (.aload_n 3, 1) := by decide +kernel
theorem dX3_countInBoxes_8 : decode cX3_countInBoxes 8 = .ok (.arraylength, 1) := by decide +kernel
theorem dX3_countInBoxes_9 : decode cX3_countInBoxes 9 = .ok (.istore 4, 2) := by decide +kernel
theorem dX3_countInBoxes_11 : decode cX3_countInBoxes 11 = .ok (.iconst 0, 1) := by decide +kernel
theorem dX3_countInBoxes_12 : decode cX3_countInBoxes 12 = .ok (.istore 5, 2) := by decide +kernel
theorem dX3_countInBoxes_14 : decode cX3_countInBoxes 14 = .ok (.iload 5, 2) := by decide +kernel
theorem dX3_countInBoxes_16 : decode cX3_countInBoxes 16 = .ok (.iload 4, 2) := by decide +kernel
theorem dX3_countInBoxes_18 : decode cX3_countInBoxes 18 = .ok (.if_icmp .ge 24, 3) := by decide +kernel
theorem dX3_countInBoxes_21 : decode cX3_countInBoxes 21 = .ok (.aload_n 3, 1) := by decide +kernel
theorem dX3_countInBoxes_22 : decode cX3_countInBoxes 22 = .ok (.iload 5, 2) := by decide +kernel
theorem dX3_countInBoxes_24 : decode cX3_countInBoxes 24 = .ok (.aaload, 1) := by decide +kernel
theorem dX3_countInBoxes_25 : decode cX3_countInBoxes 25 = .ok (.astore 6, 2) := by decide +kernel
theorem dX3_countInBoxes_27 : decode cX3_countInBoxes 27 = .ok (.iload_n 2, 1) := by decide +kernel
theorem dX3_countInBoxes_28 : decode cX3_countInBoxes 28 = .ok (.aload 6, 2) := by decide +kernel
theorem dX3_countInBoxes_30 : decode cX3_countInBoxes 30 = .ok (.iload_n 1, 1) := by decide +kernel
theorem dX3_countInBoxes_31 : decode cX3_countInBoxes 31 = .ok (.invokevirtual 141, 3) := by decide +kernel
theorem dX3_countInBoxes_34 : decode cX3_countInBoxes 34 = .ok (.iadd, 1) := by decide +kernel
theorem dX3_countInBoxes_35 : decode cX3_countInBoxes 35 = .ok (.istore_n 2, 1) := by decide +kernel
theorem dX3_countInBoxes_36 : decode cX3_countInBoxes 36 = .ok (.iinc 5 1, 3) := by decide +kernel
theorem dX3_countInBoxes_39 : decode cX3_countInBoxes 39 = .ok (.goto (-25), 3) := by decide +kernel
theorem dX3_countInBoxes_42 : decode cX3_countInBoxes 42 = .ok (.iload_n 2, 1) := by decide +kernel
theorem dX3_countInBoxes_43 : decode cX3_countInBoxes 43 = .ok (.ireturn, 1) := by decide +kernel
theorem dX3_sortsInFormes_0 : decode cX3_sortsInFormes 0 = .ok (.iconst 0, 1) := by decide +kernel
theorem dX3_sortsInFormes_1 : decode cX3_sortsInFormes 1 = .ok (.istore_n 1, 1) := by decide +kernel
theorem dX3_sortsInFormes_2 : decode cX3_sortsInFormes 2 = .ok (.aload_n 0, 1) := by decide +kernel
theorem dX3_sortsInFormes_3 : decode cX3_sortsInFormes 3 = .ok (.getfield 19, 3) := by decide +kernel
theorem dX3_sortsInFormes_6 : decode cX3_sortsInFormes 6 = .ok (.astore_n 2, 1) := by decide +kernel
theorem dX3_sortsInFormes_7 : decode cX3_sortsInFormes 7 = .ok (.aload_n 2, 1) := by decide +kernel
theorem dX3_sortsInFormes_8 : decode cX3_sortsInFormes 8 = .ok (.arraylength, 1) := by decide +kernel
theorem dX3_sortsInFormes_9 : decode cX3_sortsInFormes 9 = .ok (.istore_n 3, 1) := by decide +kernel
theorem dX3_sortsInFormes_10 : decode cX3_sortsInFormes 10 = .ok (.iconst 0, 1) := by decide +kernel
theorem dX3_sortsInFormes_11 : decode cX3_sortsInFormes 11 = .ok (.istore 4, 2) := by decide +kernel
theorem dX3_sortsInFormes_13 : decode cX3_sortsInFormes 13 = .ok (.iload 4, 2) := by decide +kernel
theorem dX3_sortsInFormes_15 : decode cX3_sortsInFormes 15 = .ok (.iload_n 3, 1) := by decide +kernel
theorem dX3_sortsInFormes_16 : decode cX3_sortsInFormes 16 = .ok (.if_icmp .ge 23, 3) := by decide +kernel
theorem dX3_sortsInFormes_19 : decode cX3_sortsInFormes 19 = .ok (.aload_n 2, 1) := by decide +kernel
theorem dX3_sortsInFormes_20 : decode cX3_sortsInFormes 20 = .ok (.iload 4, 2) := by decide +kernel
theorem dX3_sortsInFormes_22 : decode cX3_sortsInFormes 22 = .ok (.aaload, 1) := by decide +kernel
theorem dX3_sortsInFormes_23 : decode cX3_sortsInFormes 23 = .ok (.astore 5, 2) := by decide +kernel
theorem dX3_sortsInFormes_25 : decode cX3_sortsInFormes 25 = .ok (.iload_n 1, 1) := by decide +kernel
theorem dX3_sortsInFormes_26 : decode cX3_sortsInFormes 26 = .ok (.aload 5, 2) := by decide +kernel
theorem dX3_sortsInFormes_28 : decode cX3_sortsInFormes 28 = .ok (.invokevirtual 84, 3) := by decide +kernel
theorem dX3_sortsInFormes_31 : decode cX3_sortsInFormes 31 = .ok (.iadd, 1) := by decide +kernel
theorem dX3_sortsInFormes_32 : decode cX3_sortsInFormes 32 = .ok (.istore_n 1, 1) := by decide +kernel
theorem dX3_sortsInFormes_33 : decode cX3_sortsInFormes 33 = .ok (.iinc 4 1, 3) := by decide +kernel
theorem dX3_sortsInFormes_36 : decode cX3_sortsInFormes 36 = .ok (.goto (-23), 3) := by decide +kernel
theorem dX3_sortsInFormes_39 : decode cX3_sortsInFormes 39 = .ok (.iload_n 1, 1) := by decide +kernel
theorem dX3_sortsInFormes_40 : decode cX3_sortsInFormes 40 = .ok (.ireturn, 1) := by decide +kernel
theorem dX3_countInFormes_0 : decode cX3_countInFormes 0 = .ok (.iconst 0, 1) := by decide +kernel
theorem dX3_countInFormes_1 : decode cX3_countInFormes 1 = .ok (.istore_n 2, 1) := by decide +kernel
theorem dX3_countInFormes_2 : decode cX3_countInFormes 2 = .ok (.aload_n 0, 1) := by decide +kernel
theorem dX3_countInFormes_3 : decode cX3_countInFormes 3 = .ok (.getfield 19, 3) := by decide +kernel
theorem dX3_countInFormes_6 : decode cX3_countInFormes 6 = .ok (.astore_n 3, 1) := by decide +kernel
theorem dX3_countInFormes_7 : decode cX3_countInFormes 7 = .ok (.aload_n 3, 1) := by decide +kernel
theorem dX3_countInFormes_8 : decode cX3_countInFormes 8 = .ok (.arraylength, 1) := by decide +kernel
theorem dX3_countInFormes_9 : decode cX3_countInFormes 9 = .ok (.istore 4, 2) := by decide +kernel
theorem dX3_countInFormes_11 : decode cX3_countInFormes 11 = .ok (.iconst 0, 1) := by decide +kernel
theorem dX3_countInFormes_12 : decode cX3_countInFormes 12 = .ok (.istore 5, 2) := by decide +kernel
theorem dX3_countInFormes_14 : decode cX3_countInFormes 14 = .ok (.iload 5, 2) := by decide +kernel
theorem dX3_countInFormes_16 : decode cX3_countInFormes 16 = .ok (.iload 4, 2) := by decide +kernel
theorem dX3_countInFormes_18 : decode cX3_countInFormes 18 = .ok (.if_icmp .ge 24, 3) := by decide +kernel
theorem dX3_countInFormes_21 : decode cX3_countInFormes 21 = .ok (.aload_n 3, 1) := by decide +kernel
theorem dX3_countInFormes_22 : decode cX3_countInFormes 22 = .ok (.iload 5, 2) := by decide +kernel
theorem dX3_countInFormes_24 : decode cX3_countInFormes 24 = .ok (.aaload, 1) := by decide +kernel
theorem dX3_countInFormes_25 : decode cX3_countInFormes 25 = .ok (.astore 6, 2) := by decide +kernel
theorem dX3_countInFormes_27 : decode cX3_countInFormes 27 = .ok (.iload_n 2, 1) := by decide +kernel
theorem dX3_countInFormes_28 : decode cX3_countInFormes 28 = .ok (.aload 6, 2) := by decide +kernel
theorem dX3_countInFormes_30 : decode cX3_countInFormes 30 = .ok (.iload_n 1, 1) := by decide +kernel
theorem dX3_countInFormes_31 : decode cX3_countInFormes 31 = .ok (.invokevirtual 144, 3) := by decide +kernel
theorem dX3_countInFormes_34 : decode cX3_countInFormes 34 = .ok (.iadd, 1) := by decide +kernel
theorem dX3_countInFormes_35 : decode cX3_countInFormes 35 = .ok (.istore_n 2, 1) := by decide +kernel
theorem dX3_countInFormes_36 : decode cX3_countInFormes 36 = .ok (.iinc 5 1, 3) := by decide +kernel
theorem dX3_countInFormes_39 : decode cX3_countInFormes 39 = .ok (.goto (-25), 3) := by decide +kernel
theorem dX3_countInFormes_42 : decode cX3_countInFormes 42 = .ok (.iload_n 2, 1) := by decide +kernel
theorem dX3_countInFormes_43 : decode cX3_countInFormes 43 = .ok (.ireturn, 1) := by decide +kernel
theorem dX3_errorsInFormes_0 : decode cX3_errorsInFormes 0 = .ok (.iconst 0, 1) := by decide +kernel
theorem dX3_errorsInFormes_1 : decode cX3_errorsInFormes 1 = .ok (.istore_n 1, 1) := by decide +kernel
theorem dX3_errorsInFormes_2 : decode cX3_errorsInFormes 2 = .ok (.aload_n 0, 1) := by decide +kernel
theorem dX3_errorsInFormes_3 : decode cX3_errorsInFormes 3 = .ok (.getfield 19, 3) := by decide +kernel
theorem dX3_errorsInFormes_6 : decode cX3_errorsInFormes 6 = .ok (.astore_n 2, 1) := by decide +kernel
theorem dX3_errorsInFormes_7 : decode cX3_errorsInFormes 7 = .ok (.aload_n 2, 1) := by decide +kernel
theorem dX3_errorsInFormes_8 : decode cX3_errorsInFormes 8 = .ok (.arraylength, 1) := by decide +kernel
theorem dX3_errorsInFormes_9 : decode cX3_errorsInFormes 9 = .ok (.istore_n 3, 1) := by decide +kernel
theorem dX3_errorsInFormes_10 : decode cX3_errorsInFormes 10 = .ok (.iconst 0, 1) := by decide +kernel
theorem dX3_errorsInFormes_11 : decode cX3_errorsInFormes 11 = .ok (.istore 4, 2) := by decide +kernel
theorem dX3_errorsInFormes_13 : decode cX3_errorsInFormes 13 = .ok (.iload 4, 2) := by decide +kernel
theorem dX3_errorsInFormes_15 : decode cX3_errorsInFormes 15 = .ok (.iload_n 3, 1) := by decide +kernel
theorem dX3_errorsInFormes_16 : decode cX3_errorsInFormes 16 = .ok (.if_icmp .ge 23, 3) := by decide +kernel
theorem dX3_errorsInFormes_19 : decode cX3_errorsInFormes 19 = .ok (.aload_n 2, 1) := by decide +kernel
theorem dX3_errorsInFormes_20 : decode cX3_errorsInFormes 20 = .ok (.iload 4, 2) := by decide +kernel
theorem dX3_errorsInFormes_22 : decode cX3_errorsInFormes 22 = .ok (.aaload, 1) := by decide +kernel
theorem dX3_errorsInFormes_23 : decode cX3_errorsInFormes 23 = .ok (.astore 5, 2) := by decide +kernel
theorem dX3_errorsInFormes_25 : decode cX3_errorsInFormes 25 = .ok (.iload_n 1, 1) := by decide +kernel
theorem dX3_errorsInFormes_26 : decode cX3_errorsInFormes 26 = .ok (.aload 5, 2) := by decide +kernel
theorem dX3_errorsInFormes_28 : decode cX3_errorsInFormes 28 = .ok (.invokevirtual 145, 3) := by decide +kernel
theorem dX3_errorsInFormes_31 : decode cX3_errorsInFormes 31 = .ok (.iadd, 1) := by decide +kernel
theorem dX3_errorsInFormes_32 : decode cX3_errorsInFormes 32 = .ok (.istore_n 1, 1) := by decide +kernel
theorem dX3_errorsInFormes_33 : decode cX3_errorsInFormes 33 = .ok (.iinc 4 1, 3) := by decide +kernel
theorem dX3_errorsInFormes_36 : decode cX3_errorsInFormes 36 = .ok (.goto (-23), 3) := by decide +kernel
theorem dX3_errorsInFormes_39 : decode cX3_errorsInFormes 39 = .ok (.iload_n 1, 1) := by decide +kernel
theorem dX3_errorsInFormes_40 : decode cX3_errorsInFormes 40 = .ok (.ireturn, 1) := by decide +kernel
theorem dX3_turnedInFormes_0 : decode cX3_turnedInFormes 0 = .ok (.iconst 0, 1) := by decide +kernel
theorem dX3_turnedInFormes_1 : decode cX3_turnedInFormes 1 = .ok (.istore_n 1, 1) := by decide +kernel
theorem dX3_turnedInFormes_2 : decode cX3_turnedInFormes 2 = .ok (.aload_n 0, 1) := by decide +kernel
theorem dX3_turnedInFormes_3 : decode cX3_turnedInFormes 3 = .ok (.getfield 19, 3) := by decide +kernel
theorem dX3_turnedInFormes_6 : decode cX3_turnedInFormes 6 = .ok (.astore_n 2, 1) := by decide +kernel
theorem dX3_turnedInFormes_7 : decode cX3_turnedInFormes 7 = .ok (.aload_n 2, 1) := by decide +kernel
theorem dX3_turnedInFormes_8 : decode cX3_turnedInFormes 8 = .ok (.arraylength, 1) := by decide +kernel
theorem dX3_turnedInFormes_9 : decode cX3_turnedInFormes 9 = .ok (.istore_n 3, 1) := by decide +kernel
theorem dX3_turnedInFormes_10 : decode cX3_turnedInFormes 10 = .ok (.iconst 0, 1) := by decide +kernel
theorem dX3_turnedInFormes_11 : decode cX3_turnedInFormes 11 = .ok (.istore 4, 2) := by decide +kernel
theorem dX3_turnedInFormes_13 : decode cX3_turnedInFormes 13 = .ok (.iload 4, 2) := by decide +kernel
theorem dX3_turnedInFormes_15 : decode cX3_turnedInFormes 15 = .ok (.iload_n 3, 1) := by decide +kernel
theorem dX3_turnedInFormes_16 : decode cX3_turnedInFormes 16 = .ok (.if_icmp .ge 23, 3) := by decide +kernel
theorem dX3_turnedInFormes_19 : decode cX3_turnedInFormes 19 = .ok (.aload_n 2, 1) := by decide +kernel
theorem dX3_turnedInFormes_20 : decode cX3_turnedInFormes 20 = .ok (.iload 4, 2) := by decide +kernel
theorem dX3_turnedInFormes_22 : decode cX3_turnedInFormes 22 = .ok (.aaload, 1) := by decide +kernel
theorem dX3_turnedInFormes_23 : decode cX3_turnedInFormes 23 = .ok (.astore 5, 2) := by decide +kernel
theorem dX3_turnedInFormes_25 : decode cX3_turnedInFormes 25 = .ok (.iload_n 1, 1) := by decide +kernel
theorem dX3_turnedInFormes_26 : decode cX3_turnedInFormes 26 = .ok (.aload 5, 2) := by decide +kernel
theorem dX3_turnedInFormes_28 : decode cX3_turnedInFormes 28 = .ok (.invokevirtual 148, 3) := by decide +kernel
theorem dX3_turnedInFormes_31 : decode cX3_turnedInFormes 31 = .ok (.iadd, 1) := by decide +kernel
theorem dX3_turnedInFormes_32 : decode cX3_turnedInFormes 32 = .ok (.istore_n 1, 1) := by decide +kernel
theorem dX3_turnedInFormes_33 : decode cX3_turnedInFormes 33 = .ok (.iinc 4 1, 3) := by decide +kernel
theorem dX3_turnedInFormes_36 : decode cX3_turnedInFormes 36 = .ok (.goto (-23), 3) := by decide +kernel
theorem dX3_turnedInFormes_39 : decode cX3_turnedInFormes 39 = .ok (.iload_n 1, 1) := by decide +kernel
theorem dX3_turnedInFormes_40 : decode cX3_turnedInFormes 40 = .ok (.ireturn, 1) := by decide +kernel
theorem dX3_copyFrom_0 : decode cX3_copyFrom 0 = .ok (.iconst 0, 1) := by decide +kernel
theorem dX3_copyFrom_1 : decode cX3_copyFrom 1 = .ok (.istore_n 2, 1) := by decide +kernel
theorem dX3_copyFrom_2 : decode cX3_copyFrom 2 = .ok (.iload_n 2, 1) := by decide +kernel
theorem dX3_copyFrom_3 : decode cX3_copyFrom 3 = .ok (.bipush 27, 2) := by decide +kernel
theorem dX3_copyFrom_5 : decode cX3_copyFrom 5 = .ok (.if_icmp .ge 22, 3) := by decide +kernel
theorem dX3_copyFrom_8 : decode cX3_copyFrom 8 = .ok (.aload_n 0, 1) := by decide +kernel
theorem dX3_copyFrom_9 : decode cX3_copyFrom 9 = .ok (.iload_n 2, 1) := by decide +kernel
theorem dX3_copyFrom_10 : decode cX3_copyFrom 10 = .ok (.invokevirtual 41, 3) := by decide +kernel
theorem dX3_copyFrom_13 : decode cX3_copyFrom 13 = .ok (.aload_n 1, 1) := by decide +kernel
theorem dX3_copyFrom_14 : decode cX3_copyFrom 14 = .ok (.iload_n 2, 1) := by decide +kernel
theorem dX3_copyFrom_15 : decode cX3_copyFrom 15 = .ok (.invokevirtual 41, 3) := by decide +kernel
theorem dX3_copyFrom_18 : decode cX3_copyFrom 18 = .ok (.invokevirtual 151, 3) := by decide +kernel
theorem dX3_copyFrom_21 : decode cX3_copyFrom 21 = .ok (.iinc 2 1, 3) := by decide +kernel
theorem dX3_copyFrom_24 : decode cX3_copyFrom 24 = .ok (.goto (-22), 3) := by decide +kernel
theorem dX3_copyFrom_27 : decode cX3_copyFrom 27 = .ok (.iconst 0, 1) := by decide +kernel
theorem dX3_copyFrom_28 : decode cX3_copyFrom 28 = .ok (.istore_n 2, 1) := by decide +kernel
theorem dX3_copyFrom_29 : decode cX3_copyFrom 29 = .ok (.iload_n 2, 1) := by decide +kernel
theorem dX3_copyFrom_30 : decode cX3_copyFrom 30 = .ok (.iconst 3, 1) := by decide +kernel
theorem dX3_copyFrom_31 : decode cX3_copyFrom 31 = .ok (.if_icmp .ge 22, 3) := by decide +kernel
theorem dX3_copyFrom_34 : decode cX3_copyFrom 34 = .ok (.aload_n 0, 1) := by decide +kernel
theorem dX3_copyFrom_35 : decode cX3_copyFrom 35 = .ok (.iload_n 2, 1) := by decide +kernel
theorem dX3_copyFrom_36 : decode cX3_copyFrom 36 = .ok (.invokevirtual 155, 3) := by decide +kernel
theorem dX3_copyFrom_39 : decode cX3_copyFrom 39 = .ok (.aload_n 1, 1) := by decide +kernel
theorem dX3_copyFrom_40 : decode cX3_copyFrom 40 = .ok (.iload_n 2, 1) := by decide +kernel
theorem dX3_copyFrom_41 : decode cX3_copyFrom 41 = .ok (.invokevirtual 155, 3) := by decide +kernel
theorem dX3_copyFrom_44 : decode cX3_copyFrom 44 = .ok (.invokevirtual 159, 3) := by decide +kernel
theorem dX3_copyFrom_47 : decode cX3_copyFrom 47 = .ok (.iinc 2 1, 3) := by decide +kernel
theorem dX3_copyFrom_50 : decode cX3_copyFrom 50 = .ok (.goto (-21), 3) := by decide +kernel
theorem dX3_copyFrom_53 : decode cX3_copyFrom 53 = .ok (.aload_n 0, 1) := by decide +kernel
theorem dX3_copyFrom_54 : decode cX3_copyFrom 54 = .ok (.getfield 26, 3) := by decide +kernel
theorem dX3_copyFrom_57 : decode cX3_copyFrom 57 = .ok (.aload_n 1, 1) := by decide +kernel
theorem dX3_copyFrom_58 : decode cX3_copyFrom 58 = .ok (.getfield 26, 3) := by decide +kernel
theorem dX3_copyFrom_61 : decode cX3_copyFrom 61 = .ok (.invokevirtual 151, 3) := by decide +kernel
theorem dX3_copyFrom_64 : decode cX3_copyFrom 64 = .ok (.aload_n 0, 1) := by decide +kernel
theorem dX3_copyFrom_65 : decode cX3_copyFrom 65 = .ok (.aload_n 1, 1) := by decide +kernel
theorem dX3_copyFrom_66 : decode cX3_copyFrom 66 = .ok (.getfield 114, 3) := by decide +kernel
theorem dX3_copyFrom_69 : decode cX3_copyFrom 69 = .ok (.putfield 114, 3) := by decide +kernel
theorem dX3_copyFrom_72 : decode cX3_copyFrom 72 = .ok (.aload_n 0, 1) := by decide +kernel
theorem dX3_copyFrom_73 : decode cX3_copyFrom 73 = .ok (.aload_n 1, 1) := by decide +kernel
theorem dX3_copyFrom_74 : decode cX3_copyFrom 74 = .ok (.getfield 30, 3) := by decide +kernel
theorem dX3_copyFrom_77 : decode cX3_copyFrom 77 = .ok (.putfield 30, 3) := by decide +kernel
theorem dX3_copyFrom_80 : decode cX3_copyFrom 80 = .ok (.aload_n 0, 1) := by decide +kernel
theorem dX3_copyFrom_81 : decode cX3_copyFrom 81 = .ok (.aload_n 1, 1) := by decide +kernel
theorem dX3_copyFrom_82 : decode cX3_copyFrom 82 = .ok (.getfield 51, 3) := by decide +kernel
theorem dX3_copyFrom_85 : decode cX3_copyFrom 85 = .ok (.putfield 51, 3) := by decide +kernel
theorem dX3_copyFrom_88 : decode cX3_copyFrom 88 = .ok (.aload_n 0, 1) := by decide +kernel
theorem dX3_copyFrom_89 : decode cX3_copyFrom 89 = .ok (.aload_n 1, 1) := by decide +kernel
theorem dX3_copyFrom_90 : decode cX3_copyFrom 90 = .ok (.getfield 68, 3) := by decide +kernel
theorem dX3_copyFrom_93 : decode cX3_copyFrom 93 = .ok (.putfield 68, 3) := by decide +kernel
theorem dX3_copyFrom_96 : decode cX3_copyFrom 96 = .ok (.aload_n 0, 1) := by decide +kernel
theorem dX3_copyFrom_97 : decode cX3_copyFrom 97 = .ok (.aload_n 1, 1) := by decide +kernel
theorem dX3_copyFrom_98 : decode cX3_copyFrom 98 = .ok (.getfield 105, 3) := by decide +kernel
theorem dX3_copyFrom_101 : decode cX3_copyFrom 101 = .ok (.putfield 105, 3) := by decide +kernel
theorem dX3_copyFrom_104 : decode cX3_copyFrom 104 = .ok (.return_, 1) := by decide +kernel
theorem dX4_init_0 : decode cX4_init 0 = .ok (.aload_n 0, 1) := by decide +kernel
theorem dX4_init_1 : decode cX4_init 1 = .ok (.invokespecial 1, 3) := by decide +kernel
theorem dX4_init_4 : decode cX4_init 4 = .ok (.aload_n 0, 1) := by decide +kernel
theorem dX4_init_5 : decode cX4_init 5 = .ok (.new 7, 3) := by decide +kernel
theorem dX4_init_8 : decode cX4_init 8 = .ok (.dup, 1) := by decide +kernel
theorem dX4_init_9 : decode cX4_init 9 = .ok (.invokespecial 9, 3) := by decide +kernel
theorem dX4_init_12 : decode cX4_init 12 = .ok (.putfield 10, 3) := by decide +kernel
theorem dX4_init_15 : decode cX4_init 15 = .ok (.aload_n 0, 1) := by decide +kernel
theorem dX4_init_16 : decode cX4_init 16 = .ok (.new 16, 3) := by decide +kernel
theorem dX4_init_19 : decode cX4_init 19 = .ok (.dup, 1) := by decide +kernel
theorem dX4_init_20 : decode cX4_init 20 = .ok (.bipush 16, 2) := by decide +kernel
theorem dX4_init_22 : decode cX4_init 22 = .ok (.invokespecial 18, 3) := by decide +kernel
theorem dX4_init_25 : decode cX4_init 25 = .ok (.putfield 21, 3) := by decide +kernel
theorem dX4_init_28 : decode cX4_init 28 = .ok (.aload_n 0, 1) := by decide +kernel
theorem dX4_init_29 : decode cX4_init 29 = .ok (.new 25, 3) := by decide +kernel
theorem dX4_init_32 : decode cX4_init 32 = .ok (.dup, 1) := by decide +kernel
theorem dX4_init_33 : decode cX4_init 33 = .ok (.invokespecial 27, 3) := by decide +kernel
theorem dX4_init_36 : decode cX4_init 36 = .ok (.putfield 28, 3) := by decide +kernel
theorem dX4_init_39 : decode cX4_init 39 = .ok (.aload_n 0, 1) := by decide +kernel
theorem dX4_init_40 : decode cX4_init 40 = .ok (.new 7, 3) := by decide +kernel
theorem dX4_init_43 : decode cX4_init 43 = .ok (.dup, 1) := by decide +kernel
theorem dX4_init_44 : decode cX4_init 44 = .ok (.invokespecial 9, 3) := by decide +kernel
theorem dX4_init_47 : decode cX4_init 47 = .ok (.putfield 32, 3) := by decide +kernel
theorem dX4_init_50 : decode cX4_init 50 = .ok (.aload_n 0, 1) := by decide +kernel
theorem dX4_init_51 : decode cX4_init 51 = .ok (.new 35, 3) := by decide +kernel
theorem dX4_init_54 : decode cX4_init 54 = .ok (.dup, 1) := by decide +kernel
theorem dX4_init_55 : decode cX4_init 55 = .ok (.invokespecial 37, 3) := by decide +kernel
theorem dX4_init_58 : decode cX4_init 58 = .ok (.putfield 38, 3) := by decide +kernel
theorem dX4_init_61 : decode cX4_init 61 = .ok (.return_, 1) := by decide +kernel
theorem dX4_buy_0 : decode cX4_buy 0 = .ok (.iload_n 1, 1) := by decide +kernel
theorem dX4_buy_1 : decode cX4_buy 1 = .ok (.invokestatic 42, 3) := by decide +kernel
theorem dX4_buy_4 : decode cX4_buy 4 = .ok (.iload_n 2, 1) := by decide +kernel
theorem dX4_buy_5 : decode cX4_buy 5 = .ok (.iconst 1, 1) := by decide +kernel
theorem dX4_buy_6 : decode cX4_buy 6 = .ok (.bipush 30, 2) := by decide +kernel
theorem dX4_buy_8 : decode cX4_buy 8 = .ok (.invokestatic 45, 3) := by decide +kernel
theorem dX4_buy_11 : decode cX4_buy 11 = .ok (.aload_n 0, 1) := by decide +kernel
theorem dX4_buy_12 : decode cX4_buy 12 = .ok (.iload_n 2, 1) := by decide +kernel
theorem dX4_buy_13 : decode cX4_buy 13 = .ok (.invokevirtual 49, 3) := by decide +kernel
theorem dX4_buy_16 : decode cX4_buy 16 = .ok (.aload_n 0, 1) := by decide +kernel
theorem dX4_buy_17 : decode cX4_buy 17 = .ok (.getfield 28, 3) := by decide +kernel
theorem dX4_buy_20 : decode cX4_buy 20 = .ok (.aload_n 0, 1) := by decide +kernel
theorem dX4_buy_21 : decode cX4_buy 21 = .ok (.getfield 10, 3) := by decide +kernel
theorem dX4_buy_24 : decode cX4_buy 24 = .ok (.invokevirtual 52, 3) := by decide +kernel
theorem dX4_buy_27 : decode cX4_buy 27 = .ok (.aload_n 0, 1) := by decide +kernel
theorem dX4_buy_28 : decode cX4_buy 28 = .ok (.getfield 10, 3) := by decide +kernel
theorem dX4_buy_31 : decode cX4_buy 31 = .ok (.iload_n 1, 1) := by decide +kernel
theorem dX4_buy_32 : decode cX4_buy 32 = .ok (.iload_n 2, 1) := by decide +kernel
theorem dX4_buy_33 : decode cX4_buy 33 = .ok (.invokevirtual 56, 3) := by decide +kernel
theorem dX4_buy_36 : decode cX4_buy 36 = .ok (.aload_n 0, 1) := by decide +kernel
theorem dX4_buy_37 : decode cX4_buy 37 = .ok (.getfield 10, 3) := by decide +kernel
theorem dX4_buy_40 : decode cX4_buy 40 = .ok (.iload_n 1, 1) := by decide +kernel
theorem dX4_buy_41 : decode cX4_buy 41 = .ok (.invokevirtual 60, 3) := by decide +kernel
theorem dX4_buy_44 : decode cX4_buy 44 = .ok (.invokevirtual 64, 3) := by decide +kernel
theorem dX4_buy_47 : decode cX4_buy 47 = .ok (.ireturn, 1) := by decide +kernel
theorem dX4_buyLacking_0 : decode cX4_buyLacking 0 = .ok (.iconst 0, 1) := by decide +kernel
theorem dX4_buyLacking_1 : decode cX4_buyLacking 1 = .ok (.istore_n 1, 1) := by decide +kernel
theorem dX4_buyLacking_2 : decode cX4_buyLacking 2 = .ok (.iconst 0, 1) := by decide +kernel
theorem dX4_buyLacking_3 : decode cX4_buyLacking 3 = .ok (.istore_n 2, 1) := by decide +kernel
theorem dX4_buyLacking_4 : decode cX4_buyLacking 4 = .ok (.iload_n 2, 1) := by decide +kernel
theorem dX4_buyLacking_5 : decode cX4_buyLacking 5 = .ok (.bipush 27, 2) := by decide +kernel
theorem dX4_buyLacking_7 : decode cX4_buyLacking 7 = .ok (.if_icmp .ge 17, 3) := by decide +kernel
theorem dX4_buyLacking_10 : decode cX4_buyLacking 10 = .ok (.iload_n 1, 1) := by decide +kernel
theorem dX4_buyLacking_11 : decode cX4_buyLacking 11 = .ok (.aload_n 0, 1) := by decide +kernel
theorem dX4_buyLacking_12 : decode cX4_buyLacking 12 = .ok (.iload_n 2, 1) := by decide +kernel
theorem dX4_buyLacking_13 : decode cX4_buyLacking 13 = .ok (.invokevirtual 68, 3) := by decide +kernel
theorem dX4_buyLacking_16 : decode cX4_buyLacking 16 = .ok (.iadd, 1) := by decide +kernel
theorem dX4_buyLacking_17 : decode cX4_buyLacking 17 = .ok (.istore_n 1, 1) := by decide +kernel
theorem dX4_buyLacking_18 : decode cX4_buyLacking 18 = .ok (.iinc 2 1, 3) := by decide +kernel
theorem dX4_buyLacking_21 : decode cX4_buyLacking 21 = .ok (.goto (-17), 3) := by decide +kernel
theorem dX4_buyLacking_24 : decode cX4_buyLacking 24 = .ok (.aload_n 0, 1) := by decide +kernel
theorem dX4_buyLacking_25 : decode cX4_buyLacking 25 = .ok (.iload_n 1, 1) := by decide +kernel
theorem dX4_buyLacking_26 : decode cX4_buyLacking 26 = .ok (.invokevirtual 49, 3) := by decide +kernel
theorem dX4_buyLacking_29 : decode cX4_buyLacking 29 = .ok (.aload_n 0, 1) := by decide +kernel
theorem dX4_buyLacking_30 : decode cX4_buyLacking 30 = .ok (.getfield 28, 3) := by decide +kernel
theorem dX4_buyLacking_33 : decode cX4_buyLacking 33 = .ok (.aload_n 0, 1) := by decide +kernel
theorem dX4_buyLacking_34 : decode cX4_buyLacking 34 = .ok (.getfield 10, 3) := by decide +kernel
theorem dX4_buyLacking_37 : decode cX4_buyLacking 37 = .ok (.invokevirtual 52, 3) := by decide +kernel
theorem dX4_buyLacking_40 : decode cX4_buyLacking 40 = .ok (.iconst 0, 1) := by decide +kernel
theorem dX4_buyLacking_41 : decode cX4_buyLacking 41 = .ok (.istore_n 2, 1) := by decide +kernel
theorem dX4_buyLacking_42 : decode cX4_buyLacking 42 = .ok (.iload_n 2, 1) := by decide +kernel
theorem dX4_buyLacking_43 : decode cX4_buyLacking 43 = .ok (.bipush 27, 2) := by decide +kernel
theorem dX4_buyLacking_45 : decode cX4_buyLacking 45 = .ok (.if_icmp .ge 22, 3) := by decide +kernel
theorem dX4_buyLacking_48 : decode cX4_buyLacking 48 = .ok (.aload_n 0, 1) := by decide +kernel
theorem dX4_buyLacking_49 : decode cX4_buyLacking 49 = .ok (.getfield 10, 3) := by decide +kernel
theorem dX4_buyLacking_52 : decode cX4_buyLacking 52 = .ok (.iload_n 2, 1) := by decide +kernel
theorem dX4_buyLacking_53 : decode cX4_buyLacking 53 = .ok (.aload_n 0, 1) := by decide +kernel
theorem dX4_buyLacking_54 : decode cX4_buyLacking 54 = .ok (.iload_n 2, 1) := by decide +kernel
theorem dX4_buyLacking_55 : decode cX4_buyLacking 55 = .ok (.invokevirtual 68, 3) := by decide +kernel
theorem dX4_buyLacking_58 : decode cX4_buyLacking 58 = .ok (.invokevirtual 56, 3) := by decide +kernel
theorem dX4_buyLacking_61 : decode cX4_buyLacking 61 = .ok (.iinc 2 1, 3) := by decide +kernel
theorem dX4_buyLacking_64 : decode cX4_buyLacking 64 = .ok (.goto (-22), 3) := by decide +kernel
theorem dX4_buyLacking_67 : decode cX4_buyLacking 67 = .ok (.iload_n 1, 1) := by decide +kernel
theorem dX4_buyLacking_68 : decode cX4_buyLacking 68 = .ok (.ireturn, 1) := by decide +kernel
theorem dX4_spill_0 : decode cX4_spill 0 = .ok (.iload_n 1, 1) := by decide +kernel
theorem dX4_spill_1 : decode cX4_spill 1 = .ok (.invokestatic 42, 3) := by decide +kernel
theorem dX4_spill_4 : decode cX4_spill 4 = .ok (.iload_n 2, 1) := by decide +kernel
theorem dX4_spill_5 : decode cX4_spill 5 = .ok (.invokestatic 42, 3) := by decide +kernel
theorem dX4_spill_8 : decode cX4_spill 8 = .ok (.iload_n 1, 1) := by decide +kernel
theorem dX4_spill_9 : decode cX4_spill 9 = .ok (.iload_n 2, 1) := by decide +kernel
theorem dX4_spill_10 : decode cX4_spill 10 = .ok (.if_icmp .ne 13, 3) := by decide +kernel
theorem dX4_spill_13 : decode cX4_spill 13 = .ok (.new 72, 3) := by decide +kernel
theorem dX4_spill_16 : decode cX4_spill 16 = .ok (.dup, 1) := by decide +kernel
