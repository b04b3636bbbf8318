theorem dX5_lacking_55 : decode cX5_lacking 55 = .ok (.ireturn, 1) := by decide +kernel
theorem dX5_buyLacking_0 : decode cX5_buyLacking 0 = .ok (.iconst 0, 1) := by decide +kernel
theorem dX5_buyLacking_1 : decode cX5_buyLacking 1 = .ok (.istore_n 1, 1) := by decide +kernel
theorem dX5_buyLacking_2 : decode cX5_buyLacking 2 = .ok (.iconst 0, 1) := by decide +kernel
theorem dX5_buyLacking_3 : decode cX5_buyLacking 3 = .ok (.istore_n 2, 1) := by decide +kernel
theorem dX5_buyLacking_4 : decode cX5_buyLacking 4 = .ok (.iload_n 2, 1) := by decide +kernel
theorem dX5_buyLacking_5 : decode cX5_buyLacking 5 = .ok (.bipush 27, 2) := by decide +kernel
theorem dX5_buyLacking_7 : decode cX5_buyLacking 7 = .ok (.if_icmp .ge 17, 3) := by decide +kernel
theorem dX5_buyLacking_10 : decode cX5_buyLacking 10 = .ok (.iload_n 1, 1) := by decide +kernel
theorem dX5_buyLacking_11 : decode cX5_buyLacking 11 = .ok (.aload_n 0, 1) := by decide +kernel
theorem dX5_buyLacking_12 : decode cX5_buyLacking 12 = .ok (.iload_n 2, 1) := by decide +kernel
theorem dX5_buyLacking_13 : decode cX5_buyLacking 13 = .ok (.invokevirtual 106, 3) := by decide +kernel
theorem dX5_buyLacking_16 : decode cX5_buyLacking 16 = .ok (.iadd, 1) := by decide +kernel
theorem dX5_buyLacking_17 : decode cX5_buyLacking 17 = .ok (.istore_n 1, 1) := by decide +kernel
theorem dX5_buyLacking_18 : decode cX5_buyLacking 18 = .ok (.iinc 2 1, 3) := by decide +kernel
theorem dX5_buyLacking_21 : decode cX5_buyLacking 21 = .ok (.goto (-17), 3) := by decide +kernel
theorem dX5_buyLacking_24 : decode cX5_buyLacking 24 = .ok (.aload_n 0, 1) := by decide +kernel
theorem dX5_buyLacking_25 : decode cX5_buyLacking 25 = .ok (.invokevirtual 91, 3) := by decide +kernel
theorem dX5_buyLacking_28 : decode cX5_buyLacking 28 = .ok (.iload_n 1, 1) := by decide +kernel
theorem dX5_buyLacking_29 : decode cX5_buyLacking 29 = .ok (.iadd, 1) := by decide +kernel
theorem dX5_buyLacking_30 : decode cX5_buyLacking 30 = .ok (.sipush 250, 3) := by decide +kernel
theorem dX5_buyLacking_33 : decode cX5_buyLacking 33 = .ok (.if_icmp .le 9, 3) := by decide +kernel
theorem dX5_buyLacking_36 : decode cX5_buyLacking 36 = .ok (.aload_n 0, 1) := by decide +kernel
theorem dX5_buyLacking_37 : decode cX5_buyLacking 37 = .ok (.iconst 1, 1) := by decide +kernel
theorem dX5_buyLacking_38 : decode cX5_buyLacking 38 = .ok (.invokevirtual 86, 3) := by decide +kernel
theorem dX5_buyLacking_41 : decode cX5_buyLacking 41 = .ok (.ireturn, 1) := by decide +kernel
theorem dX5_buyLacking_42 : decode cX5_buyLacking 42 = .ok (.aload_n 0, 1) := by decide +kernel
theorem dX5_buyLacking_43 : decode cX5_buyLacking 43 = .ok (.invokevirtual 94, 3) := by decide +kernel
theorem dX5_buyLacking_46 : decode cX5_buyLacking 46 = .ok (.iconst 0, 1) := by decide +kernel
theorem dX5_buyLacking_47 : decode cX5_buyLacking 47 = .ok (.istore_n 2, 1) := by decide +kernel
theorem dX5_buyLacking_48 : decode cX5_buyLacking 48 = .ok (.iload_n 2, 1) := by decide +kernel
theorem dX5_buyLacking_49 : decode cX5_buyLacking 49 = .ok (.bipush 27, 2) := by decide +kernel
theorem dX5_buyLacking_51 : decode cX5_buyLacking 51 = .ok (.if_icmp .ge 19, 3) := by decide +kernel
theorem dX5_buyLacking_54 : decode cX5_buyLacking 54 = .ok (.aload_n 0, 1) := by decide +kernel
theorem dX5_buyLacking_55 : decode cX5_buyLacking 55 = .ok (.iload_n 2, 1) := by decide +kernel
theorem dX5_buyLacking_56 : decode cX5_buyLacking 56 = .ok (.aload_n 0, 1) := by decide +kernel
theorem dX5_buyLacking_57 : decode cX5_buyLacking 57 = .ok (.iload_n 2, 1) := by decide +kernel
theorem dX5_buyLacking_58 : decode cX5_buyLacking 58 = .ok (.invokevirtual 106, 3) := by decide +kernel
theorem dX5_buyLacking_61 : decode cX5_buyLacking 61 = .ok (.invokevirtual 97, 3) := by decide +kernel
theorem dX5_buyLacking_64 : decode cX5_buyLacking 64 = .ok (.iinc 2 1, 3) := by decide +kernel
theorem dX5_buyLacking_67 : decode cX5_buyLacking 67 = .ok (.goto (-19), 3) := by decide +kernel
theorem dX5_buyLacking_70 : decode cX5_buyLacking 70 = .ok (.aload_n 0, 1) := by decide +kernel
theorem dX5_buyLacking_71 : decode cX5_buyLacking 71 = .ok (.iload_n 1, 1) := by decide +kernel
theorem dX5_buyLacking_72 : decode cX5_buyLacking 72 = .ok (.invokevirtual 100, 3) := by decide +kernel
theorem dX5_buyLacking_75 : decode cX5_buyLacking 75 = .ok (.ireturn, 1) := by decide +kernel
theorem dX5_spill_0 : decode cX5_spill 0 = .ok (.iload_n 1, 1) := by decide +kernel
theorem dX5_spill_1 : decode cX5_spill 1 = .ok (.invokestatic 82, 3) := by decide +kernel
theorem dX5_spill_4 : decode cX5_spill 4 = .ok (.ifCond .eq 10, 3) := by decide +kernel
theorem dX5_spill_7 : decode cX5_spill 7 = .ok (.iload_n 2, 1) := by decide +kernel
theorem dX5_spill_8 : decode cX5_spill 8 = .ok (.invokestatic 82, 3) := by decide +kernel
theorem dX5_spill_11 : decode cX5_spill 11 = .ok (.ifCond .ne 9, 3) := by decide +kernel
theorem dX5_spill_14 : decode cX5_spill 14 = .ok (.aload_n 0, 1) := by decide +kernel
theorem dX5_spill_15 : decode cX5_spill 15 = .ok (.iconst 1, 1) := by decide +kernel
theorem dX5_spill_16 : decode cX5_spill 16 = .ok (.invokevirtual 86, 3) := by decide +kernel
theorem dX5_spill_19 : decode cX5_spill 19 = .ok (.ireturn, 1) := by decide +kernel
theorem dX5_spill_20 : decode cX5_spill 20 = .ok (.iload_n 1, 1) := by decide +kernel
theorem dX5_spill_21 : decode cX5_spill 21 = .ok (.iload_n 2, 1) := by decide +kernel
theorem dX5_spill_22 : decode cX5_spill 22 = .ok (.if_icmp .eq 15, 3) := by decide +kernel
theorem dX5_spill_25 : decode cX5_spill 25 = .ok (.iload_n 3, 1) := by decide +kernel
theorem dX5_spill_26 : decode cX5_spill 26 = .ok (.i2l, 1) := by decide +kernel
theorem dX5_spill_27 : decode cX5_spill 27 = .ok (.lconst 1, 1) := by decide +kernel
theorem dX5_spill_28 : decode cX5_spill 28 = .ok (.ldc2_w 89, 3) := by decide +kernel
theorem dX5_spill_31 : decode cX5_spill 31 = .ok (.invokestatic 40, 3) := by decide +kernel
theorem dX5_spill_34 : decode cX5_spill 34 = .ok (.ifCond .ne 9, 3) := by decide +kernel
theorem dX5_spill_37 : decode cX5_spill 37 = .ok (.aload_n 0, 1) := by decide +kernel
theorem dX5_spill_38 : decode cX5_spill 38 = .ok (.iconst 2, 1) := by decide +kernel
theorem dX5_spill_39 : decode cX5_spill 39 = .ok (.invokevirtual 86, 3) := by decide +kernel
theorem dX5_spill_42 : decode cX5_spill 42 = .ok (.ireturn, 1) := by decide +kernel
theorem dX5_spill_43 : decode cX5_spill 43 = .ok (.aload_n 0, 1) := by decide +kernel
theorem dX5_spill_44 : decode cX5_spill 44 = .ok (.iload_n 1, 1) := by decide +kernel
theorem dX5_spill_45 : decode cX5_spill 45 = .ok (.iconst (-1), 1) := by decide +kernel
theorem dX5_spill_46 : decode cX5_spill 46 = .ok (.invokevirtual 46, 3) := by decide +kernel
theorem dX5_spill_49 : decode cX5_spill 49 = .ok (.iload_n 3, 1) := by decide +kernel
theorem dX5_spill_50 : decode cX5_spill 50 = .ok (.if_icmp .ge 9, 3) := by decide +kernel
theorem dX5_spill_53 : decode cX5_spill 53 = .ok (.aload_n 0, 1) := by decide +kernel
theorem dX5_spill_54 : decode cX5_spill 54 = .ok (.iconst 3, 1) := by decide +kernel
theorem dX5_spill_55 : decode cX5_spill 55 = .ok (.invokevirtual 86, 3) := by decide +kernel
theorem dX5_spill_58 : decode cX5_spill 58 = .ok (.ireturn, 1) := by decide +kernel
theorem dX5_spill_59 : decode cX5_spill 59 = .ok (.aload_n 0, 1) := by decide +kernel
theorem dX5_spill_60 : decode cX5_spill 60 = .ok (.invokevirtual 94, 3) := by decide +kernel
theorem dX5_spill_63 : decode cX5_spill 63 = .ok (.iconst 0, 1) := by decide +kernel
theorem dX5_spill_64 : decode cX5_spill 64 = .ok (.istore 4, 2) := by decide +kernel
theorem dX5_spill_66 : decode cX5_spill 66 = .ok (.iload 4, 2) := by decide +kernel
theorem dX5_spill_68 : decode cX5_spill 68 = .ok (.iload_n 3, 1) := by decide +kernel
theorem dX5_spill_69 : decode cX5_spill 69 = .ok (.if_icmp .ge 19, 3) := by decide +kernel
theorem dX5_spill_72 : decode cX5_spill 72 = .ok (.aload_n 0, 1) := by decide +kernel
theorem dX5_spill_73 : decode cX5_spill 73 = .ok (.iload_n 2, 1) := by decide +kernel
theorem dX5_spill_74 : decode cX5_spill 74 = .ok (.aload_n 0, 1) := by decide +kernel
theorem dX5_spill_75 : decode cX5_spill 75 = .ok (.iload_n 1, 1) := by decide +kernel
theorem dX5_spill_76 : decode cX5_spill 76 = .ok (.invokevirtual 50, 3) := by decide +kernel
theorem dX5_spill_79 : decode cX5_spill 79 = .ok (.invokevirtual 78, 3) := by decide +kernel
theorem dX5_spill_82 : decode cX5_spill 82 = .ok (.iinc 4 1, 3) := by decide +kernel
theorem dX5_spill_85 : decode cX5_spill 85 = .ok (.goto (-19), 3) := by decide +kernel
theorem dX5_spill_88 : decode cX5_spill 88 = .ok (.aload_n 0, 1) := by decide +kernel
theorem dX5_spill_89 : decode cX5_spill 89 = .ok (.aload_n 0, 1) := by decide +kernel
theorem dX5_spill_90 : decode cX5_spill 90 = .ok (.iload_n 1, 1) := by decide +kernel
theorem dX5_spill_91 : decode cX5_spill 91 = .ok (.iconst (-1), 1) := by decide +kernel
theorem dX5_spill_92 : decode cX5_spill 92 = .ok (.invokevirtual 46, 3) := by decide +kernel
theorem dX5_spill_95 : decode cX5_spill 95 = .ok (.invokevirtual 100, 3) := by decide +kernel
theorem dX5_spill_98 : decode cX5_spill 98 = .ok (.ireturn, 1) := by decide +kernel
theorem dX5_clean_0 : decode cX5_clean 0 = .ok (.iload_n 1, 1) := by decide +kernel
theorem dX5_clean_1 : decode cX5_clean 1 = .ok (.invokestatic 82, 3) := by decide +kernel
theorem dX5_clean_4 : decode cX5_clean 4 = .ok (.ifCond .ne 9, 3) := by decide +kernel
theorem dX5_clean_7 : decode cX5_clean 7 = .ok (.aload_n 0, 1) := by decide +kernel
theorem dX5_clean_8 : decode cX5_clean 8 = .ok (.iconst 1, 1) := by decide +kernel
theorem dX5_clean_9 : decode cX5_clean 9 = .ok (.invokevirtual 86, 3) := by decide +kernel
theorem dX5_clean_12 : decode cX5_clean 12 = .ok (.ireturn, 1) := by decide +kernel
theorem dX5_clean_13 : decode cX5_clean 13 = .ok (.aload_n 0, 1) := by decide +kernel
theorem dX5_clean_14 : decode cX5_clean 14 = .ok (.invokevirtual 94, 3) := by decide +kernel
theorem dX5_clean_17 : decode cX5_clean 17 = .ok (.aload_n 0, 1) := by decide +kernel
theorem dX5_clean_18 : decode cX5_clean 18 = .ok (.iload_n 1, 1) := by decide +kernel
theorem dX5_clean_19 : decode cX5_clean 19 = .ok (.invokevirtual 109, 3) := by decide +kernel
theorem dX5_clean_22 : decode cX5_clean 22 = .ok (.istore_n 2, 1) := by decide +kernel
theorem dX5_clean_23 : decode cX5_clean 23 = .ok (.iconst 0, 1) := by decide +kernel
theorem dX5_clean_24 : decode cX5_clean 24 = .ok (.istore_n 3, 1) := by decide +kernel
theorem dX5_clean_25 : decode cX5_clean 25 = .ok (.iconst 0, 1) := by decide +kernel
theorem dX5_clean_26 : decode cX5_clean 26 = .ok (.istore 4, 2) := by decide +kernel
theorem dX5_clean_28 : decode cX5_clean 28 = .ok (.iload 4, 2) := by decide +kernel
theorem dX5_clean_30 : decode cX5_clean 30 = .ok (.iload_n 2, 1) := by decide +kernel
theorem dX5_clean_31 : decode cX5_clean 31 = .ok (.if_icmp .ge 46, 3) := by decide +kernel
theorem dX5_clean_34 : decode cX5_clean 34 = .ok (.aload_n 0, 1) := by decide +kernel
theorem dX5_clean_35 : decode cX5_clean 35 = .ok (.aload_n 0, 1) := by decide +kernel
theorem dX5_clean_36 : decode cX5_clean 36 = .ok (.getfield 22, 3) := by decide +kernel
theorem dX5_clean_39 : decode cX5_clean 39 = .ok (.iload 4, 2) := by decide +kernel
theorem dX5_clean_41 : decode cX5_clean 41 = .ok (.iaload, 1) := by decide +kernel
theorem dX5_clean_42 : decode cX5_clean 42 = .ok (.aload_n 0, 1) := by decide +kernel
theorem dX5_clean_43 : decode cX5_clean 43 = .ok (.getfield 22, 3) := by decide +kernel
theorem dX5_clean_46 : decode cX5_clean 46 = .ok (.iload 4, 2) := by decide +kernel
theorem dX5_clean_48 : decode cX5_clean 48 = .ok (.iaload, 1) := by decide +kernel
theorem dX5_clean_49 : decode cX5_clean 49 = .ok (.invokevirtual 78, 3) := by decide +kernel
theorem dX5_clean_52 : decode cX5_clean 52 = .ok (.iload_n 3, 1) := by decide +kernel
theorem dX5_clean_53 : decode cX5_clean 53 = .ok (.aload_n 0, 1) := by decide +kernel
theorem dX5_clean_54 : decode cX5_clean 54 = .ok (.getfield 22, 3) := by decide +kernel
theorem dX5_clean_57 : decode cX5_clean 57 = .ok (.iload 4, 2) := by decide +kernel
theorem dX5_clean_59 : decode cX5_clean 59 = .ok (.iaload, 1) := by decide +kernel
theorem dX5_clean_60 : decode cX5_clean 60 = .ok (.iload_n 1, 1) := by decide +kernel
theorem dX5_clean_61 : decode cX5_clean 61 = .ok (.if_icmp .ne 7, 3) := by decide +kernel
theorem dX5_clean_64 : decode cX5_clean 64 = .ok (.iconst 0, 1) := by decide +kernel
theorem dX5_clean_65 : decode cX5_clean 65 = .ok (.goto 4, 3) := by decide +kernel
theorem dX5_clean_68 : decode cX5_clean 68 = .ok (.iconst 1, 1) := by decide +kernel
theorem dX5_clean_69 : decode cX5_clean 69 = .ok (.iadd, 1) := by decide +kernel
theorem dX5_clean_70 : decode cX5_clean 70 = .ok (.istore_n 3, 1) := by decide +kernel
theorem dX5_clean_71 : decode cX5_clean 71 = .ok (.iinc 4 1, 3) := by decide +kernel
theorem dX5_clean_74 : decode cX5_clean 74 = .ok (.goto (-46), 3) := by decide +kernel
theorem dX5_clean_77 : decode cX5_clean 77 = .ok (.aload_n 0, 1) := by decide +kernel
theorem dX5_clean_78 : decode cX5_clean 78 = .ok (.getfield 7, 3) := by decide +kernel
theorem dX5_clean_81 : decode cX5_clean 81 = .ok (.sipush 1519, 3) := by decide +kernel
theorem dX5_clean_84 : decode cX5_clean 84 = .ok (.dup2, 1) := by decide +kernel
theorem dX5_clean_85 : decode cX5_clean 85 = .ok (.iaload, 1) := by decide +kernel
theorem dX5_clean_86 : decode cX5_clean 86 = .ok (.iconst 2, 1) := by decide +kernel
theorem dX5_clean_87 : decode cX5_clean 87 = .ok (.iload_n 3, 1) := by decide +kernel
theorem dX5_clean_88 : decode cX5_clean 88 = .ok (.imul, 1) := by decide +kernel
theorem dX5_clean_89 : decode cX5_clean 89 = .ok (.iadd, 1) := by decide +kernel
theorem dX5_clean_90 : decode cX5_clean 90 = .ok (.iastore, 1) := by decide +kernel
theorem dX5_clean_91 : decode cX5_clean 91 = .ok (.aload_n 0, 1) := by decide +kernel
theorem dX5_clean_92 : decode cX5_clean 92 = .ok (.iload_n 3, 1) := by decide +kernel
theorem dX5_clean_93 : decode cX5_clean 93 = .ok (.invokevirtual 100, 3) := by decide +kernel
theorem dX5_clean_96 : decode cX5_clean 96 = .ok (.ireturn, 1) := by decide +kernel
theorem dX5_set_0 : decode cX5_set 0 = .ok (.iload_n 1, 1) := by decide +kernel
theorem dX5_set_1 : decode cX5_set 1 = .ok (.ifCond .eq 17, 3) := by decide +kernel
theorem dX5_set_4 : decode cX5_set 4 = .ok (.iload_n 1, 1) := by decide +kernel
theorem dX5_set_5 : decode cX5_set 5 = .ok (.i2l, 1) := by decide +kernel
theorem dX5_set_6 : decode cX5_set 6 = .ok (.ldc2_w 44, 3) := by decide +kernel
theorem dX5_set_9 : decode cX5_set 9 = .ok (.ldc2_w 112, 3) := by decide +kernel
theorem dX5_set_12 : decode cX5_set 12 = .ok (.invokestatic 40, 3) := by decide +kernel
theorem dX5_set_15 : decode cX5_set 15 = .ok (.ifCond .eq 15, 3) := by decide +kernel
theorem dX5_set_18 : decode cX5_set 18 = .ok (.iload_n 2, 1) := by decide +kernel
theorem dX5_set_19 : decode cX5_set 19 = .ok (.i2l, 1) := by decide +kernel
theorem dX5_set_20 : decode cX5_set 20 = .ok (.lconst 0, 1) := by decide +kernel
theorem dX5_set_21 : decode cX5_set 21 = .ok (.ldc2_w 114, 3) := by decide +kernel
theorem dX5_set_24 : decode cX5_set 24 = .ok (.invokestatic 40, 3) := by decide +kernel
theorem dX5_set_27 : decode cX5_set 27 = .ok (.ifCond .ne 9, 3) := by decide +kernel
theorem dX5_set_30 : decode cX5_set 30 = .ok (.aload_n 0, 1) := by decide +kernel
theorem dX5_set_31 : decode cX5_set 31 = .ok (.iconst 1, 1) := by decide +kernel
theorem dX5_set_32 : decode cX5_set 32 = .ok (.invokevirtual 86, 3) := by decide +kernel
theorem dX5_set_35 : decode cX5_set 35 = .ok (.ireturn, 1) := by decide +kernel
theorem dX5_set_36 : decode cX5_set 36 = .ok (.aload_n 0, 1) := by decide +kernel
theorem dX5_set_37 : decode cX5_set 37 = .ok (.invokevirtual 94, 3) := by decide +kernel
theorem dX5_set_40 : decode cX5_set 40 = .ok (.aload_n 0, 1) := by decide +kernel
theorem dX5_set_41 : decode cX5_set 41 = .ok (.getfield 7, 3) := by decide +kernel
theorem dX5_set_44 : decode cX5_set 44 = .ok (.sipush 1516, 3) := by decide +kernel
theorem dX5_set_47 : decode cX5_set 47 = .ok (.iaload, 1) := by decide +kernel
theorem dX5_set_48 : decode cX5_set 48 = .ok (.istore_n 3, 1) := by decide +kernel
theorem dX5_set_49 : decode cX5_set 49 = .ok (.aload_n 0, 1) := by decide +kernel
theorem dX5_set_50 : decode cX5_set 50 = .ok (.getfield 7, 3) := by decide +kernel
theorem dX5_set_53 : decode cX5_set 53 = .ok (.sipush 1516, 3) := by decide +kernel
theorem dX5_set_56 : decode cX5_set 56 = .ok (.iload_n 1, 1) := by decide +kernel
theorem dX5_set_57 : decode cX5_set 57 = .ok (.iastore, 1) := by decide +kernel
theorem dX5_set_58 : decode cX5_set 58 = .ok (.aload_n 0, 1) := by decide +kernel
theorem dX5_set_59 : decode cX5_set 59 = .ok (.getfield 7, 3) := by decide +kernel
theorem dX5_set_62 : decode cX5_set 62 = .ok (.sipush 1517, 3) := by decide +kernel
theorem dX5_set_65 : decode cX5_set 65 = .ok (.iload_n 2, 1) := by decide +kernel
theorem dX5_set_66 : decode cX5_set 66 = .ok (.iastore, 1) := by decide +kernel
theorem dX5_set_67 : decode cX5_set 67 = .ok (.aload_n 0, 1) := by decide +kernel
theorem dX5_set_68 : decode cX5_set 68 = .ok (.iload_n 3, 1) := by decide +kernel
theorem dX5_set_69 : decode cX5_set 69 = .ok (.invokevirtual 100, 3) := by decide +kernel
theorem dX5_set_72 : decode cX5_set 72 = .ok (.ireturn, 1) := by decide +kernel
theorem dX5_inAllBoxes_0 : decode cX5_inAllBoxes 0 = .ok (.iconst 0, 1) := by decide +kernel
theorem dX5_inAllBoxes_1 : decode cX5_inAllBoxes 1 = .ok (.istore_n 2, 1) := by decide +kernel
theorem dX5_inAllBoxes_2 : decode cX5_inAllBoxes 2 = .ok (.iconst 0, 1) := by decide +kernel
theorem dX5_inAllBoxes_3 : decode cX5_inAllBoxes 3 = .ok (.istore_n 3, 1) := by decide +kernel
theorem dX5_inAllBoxes_4 : decode cX5_inAllBoxes 4 = .ok (.iload_n 3, 1) := by decide +kernel
theorem dX5_inAllBoxes_5 : decode cX5_inAllBoxes 5 = .ok (.sipush 250, 3) := by decide +kernel
theorem dX5_inAllBoxes_8 : decode cX5_inAllBoxes 8 = .ok (.if_icmp .ge 29, 3) := by decide +kernel
theorem dX5_inAllBoxes_11 : decode cX5_inAllBoxes 11 = .ok (.iload_n 2, 1) := by decide +kernel
theorem dX5_inAllBoxes_12 : decode cX5_inAllBoxes 12 = .ok (.aload_n 0, 1) := by decide +kernel
theorem dX5_inAllBoxes_13 : decode cX5_inAllBoxes 13 = .ok (.getfield 7, 3) := by decide +kernel
theorem dX5_inAllBoxes_16 : decode cX5_inAllBoxes 16 = .ok (.iconst 0, 1) := by decide +kernel
theorem dX5_inAllBoxes_17 : decode cX5_inAllBoxes 17 = .ok (.iload_n 3, 1) := by decide +kernel
theorem dX5_inAllBoxes_18 : decode cX5_inAllBoxes 18 = .ok (.iadd, 1) := by decide +kernel
theorem dX5_inAllBoxes_19 : decode cX5_inAllBoxes 19 = .ok (.iaload, 1) := by decide +kernel
theorem dX5_inAllBoxes_20 : decode cX5_inAllBoxes 20 = .ok (.iload_n 1, 1) := by decide +kernel
theorem dX5_inAllBoxes_21 : decode cX5_inAllBoxes 21 = .ok (.if_icmp .ne 7, 3) := by decide +kernel
theorem dX5_inAllBoxes_24 : decode cX5_inAllBoxes 24 = .ok (.iconst 1, 1) := by decide +kernel
theorem dX5_inAllBoxes_25 : decode cX5_inAllBoxes 25 = .ok (.goto 4, 3) := by decide +kernel
theorem dX5_inAllBoxes_28 : decode cX5_inAllBoxes 28 = .ok (.iconst 0, 1) := by decide +kernel
theorem dX5_inAllBoxes_29 : decode cX5_inAllBoxes 29 = .ok (.iadd, 1) := by decide +kernel
theorem dX5_inAllBoxes_30 : decode cX5_inAllBoxes 30 = .ok (.istore_n 2, 1) := by decide +kernel
theorem dX5_inAllBoxes_31 : decode cX5_inAllBoxes 31 = .ok (.iinc 3 1, 3) := by decide +kernel
theorem dX5_inAllBoxes_34 : decode cX5_inAllBoxes 34 = .ok (.goto (-30), 3) := by decide +kernel
theorem dX5_inAllBoxes_37 : decode cX5_inAllBoxes 37 = .ok (.iload_n 2, 1) := by decide +kernel
theorem dX5_inAllBoxes_38 : decode cX5_inAllBoxes 38 = .ok (.ireturn, 1) := by decide +kernel
theorem dX5_inTheHeap_0 : decode cX5_inTheHeap 0 = .ok (.iconst 0, 1) := by decide +kernel
theorem dX5_inTheHeap_1 : decode cX5_inTheHeap 1 = .ok (.istore_n 2, 1) := by decide +kernel
theorem dX5_inTheHeap_2 : decode cX5_inTheHeap 2 = .ok (.iconst 0, 1) := by decide +kernel
theorem dX5_inTheHeap_3 : decode cX5_inTheHeap 3 = .ok (.istore_n 3, 1) := by decide +kernel
theorem dX5_inTheHeap_4 : decode cX5_inTheHeap 4 = .ok (.iload_n 3, 1) := by decide +kernel
theorem dX5_inTheHeap_5 : decode cX5_inTheHeap 5 = .ok (.aload_n 0, 1) := by decide +kernel
theorem dX5_inTheHeap_6 : decode cX5_inTheHeap 6 = .ok (.getfield 7, 3) := by decide +kernel
theorem dX5_inTheHeap_9 : decode cX5_inTheHeap 9 = .ok (.sipush 1265, 3) := by decide +kernel
theorem dX5_inTheHeap_12 : decode cX5_inTheHeap 12 = .ok (.iaload, 1) := by decide +kernel
theorem dX5_inTheHeap_13 : decode cX5_inTheHeap 13 = .ok (.if_icmp .ge 31, 3) := by decide +kernel
theorem dX5_inTheHeap_16 : decode cX5_inTheHeap 16 = .ok (.iload_n 2, 1) := by decide +kernel
theorem dX5_inTheHeap_17 : decode cX5_inTheHeap 17 = .ok (.aload_n 0, 1) := by decide +kernel
theorem dX5_inTheHeap_18 : decode cX5_inTheHeap 18 = .ok (.getfield 7, 3) := by decide +kernel
theorem dX5_inTheHeap_21 : decode cX5_inTheHeap 21 = .ok (.sipush 1266, 3) := by decide +kernel
theorem dX5_inTheHeap_24 : decode cX5_inTheHeap 24 = .ok (.iload_n 3, 1) := by decide +kernel
theorem dX5_inTheHeap_25 : decode cX5_inTheHeap 25 = .ok (.iadd, 1) := by decide +kernel
theorem dX5_inTheHeap_26 : decode cX5_inTheHeap 26 = .ok (.iaload, 1) := by decide +kernel
theorem dX5_inTheHeap_27 : decode cX5_inTheHeap 27 = .ok (.iload_n 1, 1) := by decide +kernel
theorem dX5_inTheHeap_28 : decode cX5_inTheHeap 28 = .ok (.if_icmp .ne 7, 3) := by decide +kernel
theorem dX5_inTheHeap_31 : decode cX5_inTheHeap 31 = .ok (.iconst 1, 1) := by decide +kernel
theorem dX5_inTheHeap_32 : decode cX5_inTheHeap 32 = .ok (.goto 4, 3) := by decide +kernel
theorem dX5_inTheHeap_35 : decode cX5_inTheHeap 35 = .ok (.iconst 0, 1) := by decide +kernel
theorem dX5_inTheHeap_36 : decode cX5_inTheHeap 36 = .ok (.iadd, 1) := by decide +kernel
theorem dX5_inTheHeap_37 : decode cX5_inTheHeap 37 = .ok (.istore_n 2, 1) := by decide +kernel
theorem dX5_inTheHeap_38 : decode cX5_inTheHeap 38 = .ok (.iinc 3 1, 3) := by decide +kernel
theorem dX5_inTheHeap_41 : decode cX5_inTheHeap 41 = .ok (.goto (-37), 3) := by decide +kernel
theorem dX5_inTheHeap_44 : decode cX5_inTheHeap 44 = .ok (.iload_n 2, 1) := by decide +kernel
theorem dX5_inTheHeap_45 : decode cX5_inTheHeap 45 = .ok (.ireturn, 1) := by decide +kernel
theorem dX5_letterOf_0 : decode cX5_letterOf 0 = .ok (.iload_n 2, 1) := by decide +kernel
theorem dX5_letterOf_1 : decode cX5_letterOf 1 = .ok (.tableswitch 118 0 6 #[43, 50, 56, 62, 71, 77, 82], 43) := by decide +kernel
theorem dX5_letterOf_44 : decode cX5_letterOf 44 = .ok (.aload_n 0, 1) := by decide +kernel
theorem dX5_letterOf_45 : decode cX5_letterOf 45 = .ok (.iload_n 1, 1) := by decide +kernel
theorem dX5_letterOf_46 : decode cX5_letterOf 46 = .ok (.iconst (-1), 1) := by decide +kernel
theorem dX5_letterOf_47 : decode cX5_letterOf 47 = .ok (.invokevirtual 46, 3) := by decide +kernel
theorem dX5_letterOf_50 : decode cX5_letterOf 50 = .ok (.ireturn, 1) := by decide +kernel
theorem dX5_letterOf_51 : decode cX5_letterOf 51 = .ok (.aload_n 0, 1) := by decide +kernel
theorem dX5_letterOf_52 : decode cX5_letterOf 52 = .ok (.iload_n 1, 1) := by decide +kernel
theorem dX5_letterOf_53 : decode cX5_letterOf 53 = .ok (.invokevirtual 116, 3) := by decide +kernel
theorem dX5_letterOf_56 : decode cX5_letterOf 56 = .ok (.ireturn, 1) := by decide +kernel
theorem dX5_letterOf_57 : decode cX5_letterOf 57 = .ok (.aload_n 0, 1) := by decide +kernel
theorem dX5_letterOf_58 : decode cX5_letterOf 58 = .ok (.iload_n 1, 1) := by decide +kernel
theorem dX5_letterOf_59 : decode cX5_letterOf 59 = .ok (.invokevirtual 119, 3) := by decide +kernel
theorem dX5_letterOf_62 : decode cX5_letterOf 62 = .ok (.ireturn, 1) := by decide +kernel
theorem dX5_letterOf_63 : decode cX5_letterOf 63 = .ok (.aload_n 0, 1) := by decide +kernel
theorem dX5_letterOf_64 : decode cX5_letterOf 64 = .ok (.bipush 10, 2) := by decide +kernel
theorem dX5_letterOf_66 : decode cX5_letterOf 66 = .ok (.iload_n 1, 1) := by decide +kernel
theorem dX5_letterOf_67 : decode cX5_letterOf 67 = .ok (.iadd, 1) := by decide +kernel
theorem dX5_letterOf_68 : decode cX5_letterOf 68 = .ok (.invokevirtual 75, 3) := by decide +kernel
theorem dX5_letterOf_71 : decode cX5_letterOf 71 = .ok (.ireturn, 1) := by decide +kernel
theorem dX5_letterOf_72 : decode cX5_letterOf 72 = .ok (.aload_n 0, 1) := by decide +kernel
theorem dX5_letterOf_73 : decode cX5_letterOf 73 = .ok (.iload_n 1, 1) := by decide +kernel
theorem dX5_letterOf_74 : decode cX5_letterOf 74 = .ok (.invokevirtual 122, 3) := by decide +kernel
theorem dX5_letterOf_77 : decode cX5_letterOf 77 = .ok (.ireturn, 1) := by decide +kernel
theorem dX5_letterOf_78 : decode cX5_letterOf 78 = .ok (.iload_n 1, 1) := by decide +kernel
theorem dX5_letterOf_79 : decode cX5_letterOf 79 = .ok (.invokestatic 125, 3) := by decide +kernel
theorem dX5_letterOf_82 : decode cX5_letterOf 82 = .ok (.ireturn, 1) := by decide +kernel
theorem dX5_letterOf_83 : decode cX5_letterOf 83 = .ok (.aload_n 0, 1) := by decide +kernel
theorem dX5_letterOf_84 : decode cX5_letterOf 84 = .ok (.getfield 7, 3) := by decide +kernel
theorem dX5_letterOf_87 : decode cX5_letterOf 87 = .ok (.sipush 500, 3) := by decide +kernel
theorem dX5_letterOf_90 : decode cX5_letterOf 90 = .ok (.iload_n 1, 1) := by decide +kernel
theorem dX5_letterOf_91 : decode cX5_letterOf 91 = .ok (.iadd, 1) := by decide +kernel
theorem dX5_letterOf_92 : decode cX5_letterOf 92 = .ok (.iaload, 1) := by decide +kernel
theorem dX5_letterOf_93 : decode cX5_letterOf 93 = .ok (.iconst (-1), 1) := by decide +kernel
theorem dX5_letterOf_94 : decode cX5_letterOf 94 = .ok (.if_icmp .ne 7, 3) := by decide +kernel
theorem dX5_letterOf_97 : decode cX5_letterOf 97 = .ok (.iconst (-1), 1) := by decide +kernel
theorem dX5_letterOf_98 : decode cX5_letterOf 98 = .ok (.goto 20, 3) := by decide +kernel
theorem dX5_letterOf_101 : decode cX5_letterOf 101 = .ok (.aload_n 0, 1) := by decide +kernel
theorem dX5_letterOf_102 : decode cX5_letterOf 102 = .ok (.getfield 7, 3) := by decide +kernel
theorem dX5_letterOf_105 : decode cX5_letterOf 105 = .ok (.iconst 0, 1) := by decide +kernel
theorem dX5_letterOf_106 : decode cX5_letterOf 106 = .ok (.aload_n 0, 1) := by decide +kernel
theorem dX5_letterOf_107 : decode cX5_letterOf 107 = .ok (.getfield 7, 3) := by decide +kernel
theorem dX5_letterOf_110 : decode cX5_letterOf 110 = .ok (.sipush 500, 3) := by decide +kernel
theorem dX5_letterOf_113 : decode cX5_letterOf 113 = .ok (.iload_n 1, 1) := by decide +kernel
theorem dX5_letterOf_114 : decode cX5_letterOf 114 = .ok (.iadd, 1) := by decide +kernel
theorem dX5_letterOf_115 : decode cX5_letterOf 115 = .ok (.iaload, 1) := by decide +kernel
theorem dX5_letterOf_116 : decode cX5_letterOf 116 = .ok (.iadd, 1) := by decide +kernel
theorem dX5_letterOf_117 : decode cX5_letterOf 117 = .ok (.iaload, 1) := by decide +kernel
theorem dX5_letterOf_118 : decode cX5_letterOf 118 = .ok (.ireturn, 1) := by decide +kernel
theorem dX5_letterOf_119 : decode cX5_letterOf 119 = .ok (.aload_n 0, 1) := by decide +kernel
theorem dX5_letterOf_120 : decode cX5_letterOf 120 = .ok (.iload_n 1, 1) := by decide +kernel
theorem dX5_letterOf_121 : decode cX5_letterOf 121 = .ok (.invokevirtual 106, 3) := by decide +kernel
theorem dX5_letterOf_124 : decode cX5_letterOf 124 = .ok (.ireturn, 1) := by decide +kernel
theorem dX5_letter_0 : decode cX5_letter 0 = .ok (.iload_n 1, 1) := by decide +kernel
theorem dX5_letter_1 : decode cX5_letter 1 = .ok (.invokestatic 82, 3) := by decide +kernel
theorem dX5_letter_4 : decode cX5_letter 4 = .ok (.ifCond .ne 9, 3) := by decide +kernel
theorem dX5_letter_7 : decode cX5_letter 7 = .ok (.aload_n 0, 1) := by decide +kernel
theorem dX5_letter_8 : decode cX5_letter 8 = .ok (.iconst 1, 1) := by decide +kernel
theorem dX5_letter_9 : decode cX5_letter 9 = .ok (.invokevirtual 86, 3) := by decide +kernel
theorem dX5_letter_12 : decode cX5_letter 12 = .ok (.ireturn, 1) := by decide +kernel
theorem dX5_letter_13 : decode cX5_letter 13 = .ok (.iload_n 2, 1) := by decide +kernel
theorem dX5_letter_14 : decode cX5_letter 14 = .ok (.i2l, 1) := by decide +kernel
theorem dX5_letter_15 : decode cX5_letter 15 = .ok (.lconst 0, 1) := by decide +kernel
theorem dX5_letter_16 : decode cX5_letter 16 = .ok (.ldc2_w 128, 3) := by decide +kernel
theorem dX5_letter_19 : decode cX5_letter 19 = .ok (.invokestatic 40, 3) := by decide +kernel
theorem dX5_letter_22 : decode cX5_letter 22 = .ok (.ifCond .eq 16, 3) := by decide +kernel
theorem dX5_letter_25 : decode cX5_letter 25 = .ok (.aload_n 0, 1) := by decide +kernel
theorem dX5_letter_26 : decode cX5_letter 26 = .ok (.aload_n 0, 1) := by decide +kernel
theorem dX5_letter_27 : decode cX5_letter 27 = .ok (.iload_n 1, 1) := by decide +kernel
theorem dX5_letter_28 : decode cX5_letter 28 = .ok (.iload_n 2, 1) := by decide +kernel
theorem dX5_letter_29 : decode cX5_letter 29 = .ok (.invokevirtual 130, 3) := by decide +kernel
theorem dX5_letter_32 : decode cX5_letter 32 = .ok (.invokevirtual 100, 3) := by decide +kernel
theorem dX5_letter_35 : decode cX5_letter 35 = .ok (.goto 8, 3) := by decide +kernel
theorem dX5_letter_38 : decode cX5_letter 38 = .ok (.aload_n 0, 1) := by decide +kernel
theorem dX5_letter_39 : decode cX5_letter 39 = .ok (.iconst 2, 1) := by decide +kernel
theorem dX5_letter_40 : decode cX5_letter 40 = .ok (.invokevirtual 86, 3) := by decide +kernel
theorem dX5_letter_43 : decode cX5_letter 43 = .ok (.ireturn, 1) := by decide +kernel
theorem dX5_inBox_0 : decode cX5_inBox 0 = .ok (.iload_n 1, 1) := by decide +kernel
theorem dX5_inBox_1 : decode cX5_inBox 1 = .ok (.invokestatic 82, 3) := by decide +kernel
theorem dX5_inBox_4 : decode cX5_inBox 4 = .ok (.ifCond .eq 17, 3) := by decide +kernel
theorem dX5_inBox_7 : decode cX5_inBox 7 = .ok (.iload_n 2, 1) := by decide +kernel
theorem dX5_inBox_8 : decode cX5_inBox 8 = .ok (.ifCond .lt 13, 3) := by decide +kernel
theorem dX5_inBox_11 : decode cX5_inBox 11 = .ok (.iload_n 2, 1) := by decide +kernel
theorem dX5_inBox_12 : decode cX5_inBox 12 = .ok (.aload_n 0, 1) := by decide +kernel
theorem dX5_inBox_13 : decode cX5_inBox 13 = .ok (.iload_n 1, 1) := by decide +kernel
theorem dX5_inBox_14 : decode cX5_inBox 14 = .ok (.iconst (-1), 1) := by decide +kernel
theorem dX5_inBox_15 : decode cX5_inBox 15 = .ok (.invokevirtual 46, 3) := by decide +kernel
theorem dX5_inBox_18 : decode cX5_inBox 18 = .ok (.if_icmp .lt 9, 3) := by decide +kernel
theorem dX5_inBox_21 : decode cX5_inBox 21 = .ok (.aload_n 0, 1) := by decide +kernel
theorem dX5_inBox_22 : decode cX5_inBox 22 = .ok (.iconst 1, 1) := by decide +kernel
theorem dX5_inBox_23 : decode cX5_inBox 23 = .ok (.invokevirtual 86, 3) := by decide +kernel
theorem dX5_inBox_26 : decode cX5_inBox 26 = .ok (.ireturn, 1) := by decide +kernel
theorem dX5_inBox_27 : decode cX5_inBox 27 = .ok (.aload_n 0, 1) := by decide +kernel
theorem dX5_inBox_28 : decode cX5_inBox 28 = .ok (.getfield 7, 3) := by decide +kernel
theorem dX5_inBox_31 : decode cX5_inBox 31 = .ok (.sipush 500, 3) := by decide +kernel
theorem dX5_inBox_34 : decode cX5_inBox 34 = .ok (.iload_n 1, 1) := by decide +kernel
theorem dX5_inBox_35 : decode cX5_inBox 35 = .ok (.iadd, 1) := by decide +kernel
theorem dX5_inBox_36 : decode cX5_inBox 36 = .ok (.iaload, 1) := by decide +kernel
theorem dX5_inBox_37 : decode cX5_inBox 37 = .ok (.istore_n 3, 1) := by decide +kernel
theorem dX5_inBox_38 : decode cX5_inBox 38 = .ok (.iconst 0, 1) := by decide +kernel
theorem dX5_inBox_39 : decode cX5_inBox 39 = .ok (.istore 4, 2) := by decide +kernel
theorem dX5_inBox_41 : decode cX5_inBox 41 = .ok (.iload 4, 2) := by decide +kernel
theorem dX5_inBox_43 : decode cX5_inBox 43 = .ok (.iload_n 2, 1) := by decide +kernel
theorem dX5_inBox_44 : decode cX5_inBox 44 = .ok (.if_icmp .ge 20, 3) := by decide +kernel
theorem dX5_inBox_47 : decode cX5_inBox 47 = .ok (.aload_n 0, 1) := by decide +kernel
theorem dX5_inBox_48 : decode cX5_inBox 48 = .ok (.getfield 7, 3) := by decide +kernel
theorem dX5_inBox_51 : decode cX5_inBox 51 = .ok (.sipush 250, 3) := by decide +kernel
theorem dX5_inBox_54 : decode cX5_inBox 54 = .ok (.iload_n 3, 1) := by decide +kernel
theorem dX5_inBox_55 : decode cX5_inBox 55 = .ok (.iadd, 1) := by decide +kernel
theorem dX5_inBox_56 : decode cX5_inBox 56 = .ok (.iaload, 1) := by decide +kernel
theorem dX5_inBox_57 : decode cX5_inBox 57 = .ok (.istore_n 3, 1) := by decide +kernel
theorem dX5_inBox_58 : decode cX5_inBox 58 = .ok (.iinc 4 1, 3) := by decide +kernel
theorem dX5_inBox_61 : decode cX5_inBox 61 = .ok (.goto (-20), 3) := by decide +kernel
theorem dX5_inBox_64 : decode cX5_inBox 64 = .ok (.aload_n 0, 1) := by decide +kernel
theorem dX5_inBox_65 : decode cX5_inBox 65 = .ok (.aload_n 0, 1) := by decide +kernel
theorem dX5_inBox_66 : decode cX5_inBox 66 = .ok (.getfield 7, 3) := by decide +kernel
theorem dX5_inBox_69 : decode cX5_inBox 69 = .ok (.iconst 0, 1) := by decide +kernel
theorem dX5_inBox_70 : decode cX5_inBox 70 = .ok (.iload_n 3, 1) := by decide +kernel
theorem dX5_inBox_71 : decode cX5_inBox 71 = .ok (.iadd, 1) := by decide +kernel
theorem dX5_inBox_72 : decode cX5_inBox 72 = .ok (.iaload, 1) := by decide +kernel
theorem dX5_inBox_73 : decode cX5_inBox 73 = .ok (.invokevirtual 100, 3) := by decide +kernel
theorem dX5_inBox_76 : decode cX5_inBox 76 = .ok (.ireturn, 1) := by decide +kernel
theorem dX5_allFoul_0 : decode cX5_allFoul 0 = .ok (.iconst 0, 1) := by decide +kernel
theorem dX5_allFoul_1 : decode cX5_allFoul 1 = .ok (.istore_n 1, 1) := by decide +kernel
theorem dX5_allFoul_2 : decode cX5_allFoul 2 = .ok (.iconst 0, 1) := by decide +kernel
theorem dX5_allFoul_3 : decode cX5_allFoul 3 = .ok (.istore_n 2, 1) := by decide +kernel
theorem dX5_allFoul_4 : decode cX5_allFoul 4 = .ok (.iload_n 2, 1) := by decide +kernel
theorem dX5_allFoul_5 : decode cX5_allFoul 5 = .ok (.bipush 27, 2) := by decide +kernel
theorem dX5_allFoul_7 : decode cX5_allFoul 7 = .ok (.if_icmp .ge 17, 3) := by decide +kernel
theorem dX5_allFoul_10 : decode cX5_allFoul 10 = .ok (.iload_n 1, 1) := by decide +kernel
theorem dX5_allFoul_11 : decode cX5_allFoul 11 = .ok (.aload_n 0, 1) := by decide +kernel
theorem dX5_allFoul_12 : decode cX5_allFoul 12 = .ok (.iload_n 2, 1) := by decide +kernel
theorem dX5_allFoul_13 : decode cX5_allFoul 13 = .ok (.invokevirtual 116, 3) := by decide +kernel
theorem dX5_allFoul_16 : decode cX5_allFoul 16 = .ok (.iadd, 1) := by decide +kernel
theorem dX5_allFoul_17 : decode cX5_allFoul 17 = .ok (.istore_n 1, 1) := by decide +kernel
theorem dX5_allFoul_18 : decode cX5_allFoul 18 = .ok (.iinc 2 1, 3) := by decide +kernel
theorem dX5_allFoul_21 : decode cX5_allFoul 21 = .ok (.goto (-17), 3) := by decide +kernel
theorem dX5_allFoul_24 : decode cX5_allFoul 24 = .ok (.iload_n 1, 1) := by decide +kernel
theorem dX5_allFoul_25 : decode cX5_allFoul 25 = .ok (.ireturn, 1) := by decide +kernel
theorem dX5_valueOf_0 : decode cX5_valueOf 0 = .ok (.iload_n 1, 1) := by decide +kernel
theorem dX5_valueOf_1 : decode cX5_valueOf 1 = .ok (.tableswitch 105 0 11 #[63, 68, 74, 83, 105, 105, 105, 105, 105, 88, 93, 99], 63) := by decide +kernel
theorem dX5_valueOf_64 : decode cX5_valueOf 64 = .ok (.aload_n 0, 1) := by decide +kernel
theorem dX5_valueOf_65 : decode cX5_valueOf 65 = .ok (.invokevirtual 71, 3) := by decide +kernel
theorem dX5_valueOf_68 : decode cX5_valueOf 68 = .ok (.ireturn, 1) := by decide +kernel
theorem dX5_valueOf_69 : decode cX5_valueOf 69 = .ok (.aload_n 0, 1) := by decide +kernel
theorem dX5_valueOf_70 : decode cX5_valueOf 70 = .ok (.iconst 0, 1) := by decide +kernel
theorem dX5_valueOf_71 : decode cX5_valueOf 71 = .ok (.invokevirtual 75, 3) := by decide +kernel
theorem dX5_valueOf_74 : decode cX5_valueOf 74 = .ok (.ireturn, 1) := by decide +kernel
theorem dX5_valueOf_75 : decode cX5_valueOf 75 = .ok (.aload_n 0, 1) := by decide +kernel
theorem dX5_valueOf_76 : decode cX5_valueOf 76 = .ok (.getfield 7, 3) := by decide +kernel
theorem dX5_valueOf_79 : decode cX5_valueOf 79 = .ok (.sipush 1265, 3) := by decide +kernel
theorem dX5_valueOf_82 : decode cX5_valueOf 82 = .ok (.iaload, 1) := by decide +kernel
theorem dX5_valueOf_83 : decode cX5_valueOf 83 = .ok (.ireturn, 1) := by decide +kernel
theorem dX5_valueOf_84 : decode cX5_valueOf 84 = .ok (.aload_n 0, 1) := by decide +kernel
theorem dX5_valueOf_85 : decode cX5_valueOf 85 = .ok (.invokevirtual 91, 3) := by decide +kernel
theorem dX5_valueOf_88 : decode cX5_valueOf 88 = .ok (.ireturn, 1) := by decide +kernel
theorem dX5_valueOf_89 : decode cX5_valueOf 89 = .ok (.aload_n 0, 1) := by decide +kernel
theorem dX5_valueOf_90 : decode cX5_valueOf 90 = .ok (.invokevirtual 133, 3) := by decide +kernel
theorem dX5_valueOf_93 : decode cX5_valueOf 93 = .ok (.ireturn, 1) := by decide +kernel
theorem dX5_valueOf_94 : decode cX5_valueOf 94 = .ok (.aload_n 0, 1) := by decide +kernel
theorem dX5_valueOf_95 : decode cX5_valueOf 95 = .ok (.iconst 1, 1) := by decide +kernel
theorem dX5_valueOf_96 : decode cX5_valueOf 96 = .ok (.invokevirtual 75, 3) := by decide +kernel
theorem dX5_valueOf_99 : decode cX5_valueOf 99 = .ok (.ireturn, 1) := by decide +kernel
theorem dX5_valueOf_100 : decode cX5_valueOf 100 = .ok (.aload_n 0, 1) := by decide +kernel
theorem dX5_valueOf_101 : decode cX5_valueOf 101 = .ok (.iconst 2, 1) := by decide +kernel
theorem dX5_valueOf_102 : decode cX5_valueOf 102 = .ok (.invokevirtual 75, 3) := by decide +kernel
theorem dX5_valueOf_105 : decode cX5_valueOf 105 = .ok (.ireturn, 1) := by decide +kernel
theorem dX5_valueOf_106 : decode cX5_valueOf 106 = .ok (.aload_n 0, 1) := by decide +kernel
theorem dX5_valueOf_107 : decode cX5_valueOf 107 = .ok (.getfield 7, 3) := by decide +kernel
theorem dX5_valueOf_110 : decode cX5_valueOf 110 = .ok (.sipush 1516, 3) := by decide +kernel
theorem dX5_valueOf_113 : decode cX5_valueOf 113 = .ok (.iload_n 1, 1) := by decide +kernel
theorem dX5_valueOf_114 : decode cX5_valueOf 114 = .ok (.iadd, 1) := by decide +kernel
theorem dX5_valueOf_115 : decode cX5_valueOf 115 = .ok (.iconst 4, 1) := by decide +kernel
theorem dX5_valueOf_116 : decode cX5_valueOf 116 = .ok (.isub, 1) := by decide +kernel
theorem dX5_valueOf_117 : decode cX5_valueOf 117 = .ok (.iaload, 1) := by decide +kernel
theorem dX5_valueOf_118 : decode cX5_valueOf 118 = .ok (.ireturn, 1) := by decide +kernel
theorem dX5_value_0 : decode cX5_value 0 = .ok (.iload_n 1, 1) := by decide +kernel
theorem dX5_value_1 : decode cX5_value 1 = .ok (.i2l, 1) := by decide +kernel
theorem dX5_value_2 : decode cX5_value 2 = .ok (.lconst 0, 1) := by decide +kernel
theorem dX5_value_3 : decode cX5_value 3 = .ok (.ldc2_w 136, 3) := by decide +kernel
theorem dX5_value_6 : decode cX5_value 6 = .ok (.invokestatic 40, 3) := by decide +kernel
theorem dX5_value_9 : decode cX5_value 9 = .ok (.ifCond .eq 15, 3) := by decide +kernel
theorem dX5_value_12 : decode cX5_value 12 = .ok (.aload_n 0, 1) := by decide +kernel
theorem dX5_value_13 : decode cX5_value 13 = .ok (.aload_n 0, 1) := by decide +kernel
theorem dX5_value_14 : decode cX5_value 14 = .ok (.iload_n 1, 1) := by decide +kernel
theorem dX5_value_15 : decode cX5_value 15 = .ok (.invokevirtual 138, 3) := by decide +kernel
theorem dX5_value_18 : decode cX5_value 18 = .ok (.invokevirtual 100, 3) := by decide +kernel
theorem dX5_value_21 : decode cX5_value 21 = .ok (.goto 8, 3) := by decide +kernel
theorem dX5_value_24 : decode cX5_value 24 = .ok (.aload_n 0, 1) := by decide +kernel
theorem dX5_value_25 : decode cX5_value 25 = .ok (.iconst 1, 1) := by decide +kernel
theorem dX5_value_26 : decode cX5_value 26 = .ok (.invokevirtual 86, 3) := by decide +kernel
theorem dX5_value_29 : decode cX5_value 29 = .ok (.ireturn, 1) := by decide +kernel
theorem dX5_lender_0 : decode cX5_lender 0 = .ok (.iconst (-1), 1) := by decide +kernel
theorem dX5_lender_1 : decode cX5_lender 1 = .ok (.istore_n 2, 1) := by decide +kernel
theorem dX5_lender_2 : decode cX5_lender 2 = .ok (.iconst 0, 1) := by decide +kernel
theorem dX5_lender_3 : decode cX5_lender 3 = .ok (.istore_n 3, 1) := by decide +kernel
theorem dX5_lender_4 : decode cX5_lender 4 = .ok (.iload_n 3, 1) := by decide +kernel
theorem dX5_lender_5 : decode cX5_lender 5 = .ok (.bipush 26, 2) := by decide +kernel
theorem dX5_lender_7 : decode cX5_lender 7 = .ok (.if_icmp .ge 72, 3) := by decide +kernel
theorem dX5_lender_10 : decode cX5_lender 10 = .ok (.iload_n 3, 1) := by decide +kernel
theorem dX5_lender_11 : decode cX5_lender 11 = .ok (.invokestatic 125, 3) := by decide +kernel
theorem dX5_lender_14 : decode cX5_lender 14 = .ok (.iload_n 1, 1) := by decide +kernel
theorem dX5_lender_15 : decode cX5_lender 15 = .ok (.invokestatic 125, 3) := by decide +kernel
theorem dX5_lender_18 : decode cX5_lender 18 = .ok (.if_icmp .ne 21, 3) := by decide +kernel
theorem dX5_lender_21 : decode cX5_lender 21 = .ok (.aload_n 0, 1) := by decide +kernel
theorem dX5_lender_22 : decode cX5_lender 22 = .ok (.getfield 7, 3) := by decide +kernel
theorem dX5_lender_25 : decode cX5_lender 25 = .ok (.sipush 500, 3) := by decide +kernel
theorem dX5_lender_28 : decode cX5_lender 28 = .ok (.iload_n 3, 1) := by decide +kernel
theorem dX5_lender_29 : decode cX5_lender 29 = .ok (.iadd, 1) := by decide +kernel
theorem dX5_lender_30 : decode cX5_lender 30 = .ok (.iaload, 1) := by decide +kernel
theorem dX5_lender_31 : decode cX5_lender 31 = .ok (.iconst (-1), 1) := by decide +kernel
theorem dX5_lender_32 : decode cX5_lender 32 = .ok (.if_icmp .eq 7, 3) := by decide +kernel
theorem dX5_lender_35 : decode cX5_lender 35 = .ok (.iconst 1, 1) := by decide +kernel
theorem dX5_lender_36 : decode cX5_lender 36 = .ok (.goto 4, 3) := by decide +kernel
theorem dX5_lender_39 : decode cX5_lender 39 = .ok (.iconst 0, 1) := by decide +kernel
theorem dX5_lender_40 : decode cX5_lender 40 = .ok (.istore 4, 2) := by decide +kernel
theorem dX5_lender_42 : decode cX5_lender 42 = .ok (.iload 4, 2) := by decide +kernel
theorem dX5_lender_44 : decode cX5_lender 44 = .ok (.ifCond .eq 27, 3) := by decide +kernel
theorem dX5_lender_47 : decode cX5_lender 47 = .ok (.iload_n 2, 1) := by decide +kernel
theorem dX5_lender_48 : decode cX5_lender 48 = .ok (.iconst (-1), 1) := by decide +kernel
theorem dX5_lender_49 : decode cX5_lender 49 = .ok (.if_icmp .eq 18, 3) := by decide +kernel
theorem dX5_lender_52 : decode cX5_lender 52 = .ok (.aload_n 0, 1) := by decide +kernel
theorem dX5_lender_53 : decode cX5_lender 53 = .ok (.iload_n 3, 1) := by decide +kernel
theorem dX5_lender_54 : decode cX5_lender 54 = .ok (.iconst (-1), 1) := by decide +kernel
theorem dX5_lender_55 : decode cX5_lender 55 = .ok (.invokevirtual 46, 3) := by decide +kernel
theorem dX5_lender_58 : decode cX5_lender 58 = .ok (.aload_n 0, 1) := by decide +kernel
theorem dX5_lender_59 : decode cX5_lender 59 = .ok (.iload_n 2, 1) := by decide +kernel
theorem dX5_lender_60 : decode cX5_lender 60 = .ok (.iconst (-1), 1) := by decide +kernel
theorem dX5_lender_61 : decode cX5_lender 61 = .ok (.invokevirtual 46, 3) := by decide +kernel
theorem dX5_lender_64 : decode cX5_lender 64 = .ok (.if_icmp .le 7, 3) := by decide +kernel
theorem dX5_lender_67 : decode cX5_lender 67 = .ok (.iload_n 3, 1) := by decide +kernel
theorem dX5_lender_68 : decode cX5_lender 68 = .ok (.goto 4, 3) := by decide +kernel
theorem dX5_lender_71 : decode cX5_lender 71 = .ok (.iload_n 2, 1) := by decide +kernel
theorem dX5_lender_72 : decode cX5_lender 72 = .ok (.istore_n 2, 1) := by decide +kernel
theorem dX5_lender_73 : decode cX5_lender 73 = .ok (.iinc 3 1, 3) := by decide +kernel
theorem dX5_lender_76 : decode cX5_lender 76 = .ok (.goto (-72), 3) := by decide +kernel
theorem dX5_lender_79 : decode cX5_lender 79 = .ok (.iload_n 2, 1) := by decide +kernel
theorem dX5_lender_80 : decode cX5_lender 80 = .ok (.ireturn, 1) := by decide +kernel
theorem dX5_sets_0 : decode cX5_sets 0 = .ok (.iconst 0, 1) := by decide +kernel
theorem dX5_sets_1 : decode cX5_sets 1 = .ok (.istore_n 1, 1) := by decide +kernel
theorem dX5_sets_2 : decode cX5_sets 2 = .ok (.iload_n 1, 1) := by decide +kernel
theorem dX5_sets_3 : decode cX5_sets 3 = .ok (.aload_n 0, 1) := by decide +kernel
theorem dX5_sets_4 : decode cX5_sets 4 = .ok (.getfield 103, 3) := by decide +kernel
theorem dX5_sets_7 : decode cX5_sets 7 = .ok (.if_icmp .ge 106, 3) := by decide +kernel
theorem dX5_sets_10 : decode cX5_sets 10 = .ok (.aload_n 0, 1) := by decide +kernel
theorem dX5_sets_11 : decode cX5_sets 11 = .ok (.getfield 7, 3) := by decide +kernel
theorem dX5_sets_14 : decode cX5_sets 14 = .ok (.sipush 500, 3) := by decide +kernel
theorem dX5_sets_17 : decode cX5_sets 17 = .ok (.aload_n 0, 1) := by decide +kernel
theorem dX5_sets_18 : decode cX5_sets 18 = .ok (.getfield 19, 3) := by decide +kernel
theorem dX5_sets_21 : decode cX5_sets 21 = .ok (.iload_n 1, 1) := by decide +kernel
theorem dX5_sets_22 : decode cX5_sets 22 = .ok (.iaload, 1) := by decide +kernel
theorem dX5_sets_23 : decode cX5_sets 23 = .ok (.iadd, 1) := by decide +kernel
theorem dX5_sets_24 : decode cX5_sets 24 = .ok (.iaload, 1) := by decide +kernel
theorem dX5_sets_25 : decode cX5_sets 25 = .ok (.iconst (-1), 1) := by decide +kernel
theorem dX5_sets_26 : decode cX5_sets 26 = .ok (.if_icmp .eq 7, 3) := by decide +kernel
theorem dX5_sets_29 : decode cX5_sets 29 = .ok (.iconst 1, 1) := by decide +kernel
theorem dX5_sets_30 : decode cX5_sets 30 = .ok (.goto 4, 3) := by decide +kernel
theorem dX5_sets_33 : decode cX5_sets 33 = .ok (.iconst 0, 1) := by decide +kernel
theorem dX5_sets_34 : decode cX5_sets 34 = .ok (.istore_n 2, 1) := by decide +kernel
theorem dX5_sets_35 : decode cX5_sets 35 = .ok (.iload_n 2, 1) := by decide +kernel
theorem dX5_sets_36 : decode cX5_sets 36 = .ok (.ifCond .eq 12, 3) := by decide +kernel
theorem dX5_sets_39 : decode cX5_sets 39 = .ok (.aload_n 0, 1) := by decide +kernel
theorem dX5_sets_40 : decode cX5_sets 40 = .ok (.getfield 19, 3) := by decide +kernel
theorem dX5_sets_43 : decode cX5_sets 43 = .ok (.iload_n 1, 1) := by decide +kernel
theorem dX5_sets_44 : decode cX5_sets 44 = .ok (.iaload, 1) := by decide +kernel
theorem dX5_sets_45 : decode cX5_sets 45 = .ok (.goto 28, 3) := by decide +kernel
theorem dX5_sets_48 : decode cX5_sets 48 = .ok (.aload_n 0, 1) := by decide +kernel
theorem dX5_sets_49 : decode cX5_sets 49 = .ok (.getfield 19, 3) := by decide +kernel
theorem dX5_sets_52 : decode cX5_sets 52 = .ok (.iload_n 1, 1) := by decide +kernel
theorem dX5_sets_53 : decode cX5_sets 53 = .ok (.iaload, 1) := by decide +kernel
theorem dX5_sets_54 : decode cX5_sets 54 = .ok (.bipush 26, 2) := by decide +kernel
theorem dX5_sets_56 : decode cX5_sets 56 = .ok (.if_icmp .ne 7, 3) := by decide +kernel
theorem dX5_sets_59 : decode cX5_sets 59 = .ok (.iconst (-1), 1) := by decide +kernel
theorem dX5_sets_60 : decode cX5_sets 60 = .ok (.goto 13, 3) := by decide +kernel
theorem dX5_sets_63 : decode cX5_sets 63 = .ok (.aload_n 0, 1) := by decide +kernel
theorem dX5_sets_64 : decode cX5_sets 64 = .ok (.aload_n 0, 1) := by decide +kernel
theorem dX5_sets_65 : decode cX5_sets 65 = .ok (.getfield 19, 3) := by decide +kernel
theorem dX5_sets_68 : decode cX5_sets 68 = .ok (.iload_n 1, 1) := by decide +kernel
theorem dX5_sets_69 : decode cX5_sets 69 = .ok (.iaload, 1) := by decide +kernel
theorem dX5_sets_70 : decode cX5_sets 70 = .ok (.invokevirtual 141, 3) := by decide +kernel
theorem dX5_sets_73 : decode cX5_sets 73 = .ok (.istore_n 3, 1) := by decide +kernel
theorem dX5_sets_74 : decode cX5_sets 74 = .ok (.iload_n 3, 1) := by decide +kernel
theorem dX5_sets_75 : decode cX5_sets 75 = .ok (.iconst (-1), 1) := by decide +kernel
theorem dX5_sets_76 : decode cX5_sets 76 = .ok (.if_icmp .ne 5, 3) := by decide +kernel
theorem dX5_sets_79 : decode cX5_sets 79 = .ok (.iconst 0, 1) := by decide +kernel
theorem dX5_sets_80 : decode cX5_sets 80 = .ok (.ireturn, 1) := by decide +kernel
theorem dX5_sets_81 : decode cX5_sets 81 = .ok (.aload_n 0, 1) := by decide +kernel
theorem dX5_sets_82 : decode cX5_sets 82 = .ok (.getfield 25, 3) := by decide +kernel
theorem dX5_sets_85 : decode cX5_sets 85 = .ok (.iload_n 1, 1) := by decide +kernel
theorem dX5_sets_86 : decode cX5_sets 86 = .ok (.aload_n 0, 1) := by decide +kernel
theorem dX5_sets_87 : decode cX5_sets 87 = .ok (.iload_n 3, 1) := by decide +kernel
theorem dX5_sets_88 : decode cX5_sets 88 = .ok (.invokevirtual 50, 3) := by decide +kernel
theorem dX5_sets_91 : decode cX5_sets 91 = .ok (.iastore, 1) := by decide +kernel
theorem dX5_sets_92 : decode cX5_sets 92 = .ok (.aload_n 0, 1) := by decide +kernel
theorem dX5_sets_93 : decode cX5_sets 93 = .ok (.getfield 28, 3) := by decide +kernel
theorem dX5_sets_96 : decode cX5_sets 96 = .ok (.iload_n 1, 1) := by decide +kernel
theorem dX5_sets_97 : decode cX5_sets 97 = .ok (.iload_n 2, 1) := by decide +kernel
theorem dX5_sets_98 : decode cX5_sets 98 = .ok (.ifCond .eq 7, 3) := by decide +kernel
theorem dX5_sets_101 : decode cX5_sets 101 = .ok (.iconst 0, 1) := by decide +kernel
theorem dX5_sets_102 : decode cX5_sets 102 = .ok (.goto 4, 3) := by decide +kernel
theorem dX5_sets_105 : decode cX5_sets 105 = .ok (.iconst 1, 1) := by decide +kernel
theorem dX5_sets_106 : decode cX5_sets 106 = .ok (.iastore, 1) := by decide +kernel
theorem dX5_sets_107 : decode cX5_sets 107 = .ok (.iinc 1 1, 3) := by decide +kernel
theorem dX5_sets_110 : decode cX5_sets 110 = .ok (.goto (-108), 3) := by decide +kernel
theorem dX5_sets_113 : decode cX5_sets 113 = .ok (.aload_n 0, 1) := by decide +kernel
theorem dX5_sets_114 : decode cX5_sets 114 = .ok (.getfield 103, 3) := by decide +kernel
theorem dX5_sets_117 : decode cX5_sets 117 = .ok (.ifCond .le 7, 3) := by decide +kernel
theorem dX5_sets_120 : decode cX5_sets 120 = .ok (.iconst 1, 1) := by decide +kernel
theorem dX5_sets_121 : decode cX5_sets 121 = .ok (.goto 4, 3) := by decide +kernel
theorem dX5_sets_124 : decode cX5_sets 124 = .ok (.iconst 0, 1) := by decide +kernel
theorem dX5_sets_125 : decode cX5_sets 125 = .ok (.ireturn, 1) := by decide +kernel
theorem dX5_wrongInLine_0 : decode cX5_wrongInLine 0 = .ok (.iconst 0, 1) := by decide +kernel
theorem dX5_wrongInLine_1 : decode cX5_wrongInLine 1 = .ok (.istore_n 1, 1) := by decide +kernel
theorem dX5_wrongInLine_2 : decode cX5_wrongInLine 2 = .ok (.iconst 0, 1) := by decide +kernel
theorem dX5_wrongInLine_3 : decode cX5_wrongInLine 3 = .ok (.istore_n 2, 1) := by decide +kernel
theorem dX5_wrongInLine_4 : decode cX5_wrongInLine 4 = .ok (.iload_n 2, 1) := by decide +kernel
theorem dX5_wrongInLine_5 : decode cX5_wrongInLine 5 = .ok (.aload_n 0, 1) := by decide +kernel
theorem dX5_wrongInLine_6 : decode cX5_wrongInLine 6 = .ok (.getfield 103, 3) := by decide +kernel
theorem dX5_wrongInLine_9 : decode cX5_wrongInLine 9 = .ok (.if_icmp .ge 42, 3) := by decide +kernel
theorem dX5_wrongInLine_12 : decode cX5_wrongInLine 12 = .ok (.iload_n 1, 1) := by decide +kernel
theorem dX5_wrongInLine_13 : decode cX5_wrongInLine 13 = .ok (.aload_n 0, 1) := by decide +kernel
theorem dX5_wrongInLine_14 : decode cX5_wrongInLine 14 = .ok (.getfield 28, 3) := by decide +kernel
theorem dX5_wrongInLine_17 : decode cX5_wrongInLine 17 = .ok (.iload_n 2, 1) := by decide +kernel
theorem dX5_wrongInLine_18 : decode cX5_wrongInLine 18 = .ok (.iaload, 1) := by decide +kernel
theorem dX5_wrongInLine_19 : decode cX5_wrongInLine 19 = .ok (.iconst 1, 1) := by decide +kernel
theorem dX5_wrongInLine_20 : decode cX5_wrongInLine 20 = .ok (.if_icmp .eq 18, 3) := by decide +kernel
theorem dX5_wrongInLine_23 : decode cX5_wrongInLine 23 = .ok (.aload_n 0, 1) := by decide +kernel
theorem dX5_wrongInLine_24 : decode cX5_wrongInLine 24 = .ok (.getfield 25, 3) := by decide +kernel
theorem dX5_wrongInLine_27 : decode cX5_wrongInLine 27 = .ok (.iload_n 2, 1) := by decide +kernel
theorem dX5_wrongInLine_28 : decode cX5_wrongInLine 28 = .ok (.iaload, 1) := by decide +kernel
theorem dX5_wrongInLine_29 : decode cX5_wrongInLine 29 = .ok (.aload_n 0, 1) := by decide +kernel
theorem dX5_wrongInLine_30 : decode cX5_wrongInLine 30 = .ok (.getfield 19, 3) := by decide +kernel
theorem dX5_wrongInLine_33 : decode cX5_wrongInLine 33 = .ok (.iload_n 2, 1) := by decide +kernel
theorem dX5_wrongInLine_34 : decode cX5_wrongInLine 34 = .ok (.iaload, 1) := by decide +kernel
theorem dX5_wrongInLine_35 : decode cX5_wrongInLine 35 = .ok (.if_icmp .eq 7, 3) := by decide +kernel
theorem dX5_wrongInLine_38 : decode cX5_wrongInLine 38 = .ok (.iconst 1, 1) := by decide +kernel
theorem dX5_wrongInLine_39 : decode cX5_wrongInLine 39 = .ok (.goto 4, 3) := by decide +kernel
theorem dX5_wrongInLine_42 : decode cX5_wrongInLine 42 = .ok (.iconst 0, 1) := by decide +kernel
theorem dX5_wrongInLine_43 : decode cX5_wrongInLine 43 = .ok (.iadd, 1) := by decide +kernel
theorem dX5_wrongInLine_44 : decode cX5_wrongInLine 44 = .ok (.istore_n 1, 1) := by decide +kernel
theorem dX5_wrongInLine_45 : decode cX5_wrongInLine 45 = .ok (.iinc 2 1, 3) := by decide +kernel
theorem dX5_wrongInLine_48 : decode cX5_wrongInLine 48 = .ok (.goto (-44), 3) := by decide +kernel
theorem dX5_wrongInLine_51 : decode cX5_wrongInLine 51 = .ok (.iload_n 1, 1) := by decide +kernel
theorem dX5_wrongInLine_52 : decode cX5_wrongInLine 52 = .ok (.ireturn, 1) := by decide +kernel
theorem dX5_turnedInLine_0 : decode cX5_turnedInLine 0 = .ok (.iconst 0, 1) := by decide +kernel
theorem dX5_turnedInLine_1 : decode cX5_turnedInLine 1 = .ok (.istore_n 1, 1) := by decide +kernel
theorem dX5_turnedInLine_2 : decode cX5_turnedInLine 2 = .ok (.iconst 0, 1) := by decide +kernel
theorem dX5_turnedInLine_3 : decode cX5_turnedInLine 3 = .ok (.istore_n 2, 1) := by decide +kernel
theorem dX5_turnedInLine_4 : decode cX5_turnedInLine 4 = .ok (.iload_n 2, 1) := by decide +kernel
theorem dX5_turnedInLine_5 : decode cX5_turnedInLine 5 = .ok (.aload_n 0, 1) := by decide +kernel
theorem dX5_turnedInLine_6 : decode cX5_turnedInLine 6 = .ok (.getfield 103, 3) := by decide +kernel
theorem dX5_turnedInLine_9 : decode cX5_turnedInLine 9 = .ok (.if_icmp .ge 18, 3) := by decide +kernel
theorem dX5_turnedInLine_12 : decode cX5_turnedInLine 12 = .ok (.iload_n 1, 1) := by decide +kernel
theorem dX5_turnedInLine_13 : decode cX5_turnedInLine 13 = .ok (.aload_n 0, 1) := by decide +kernel
theorem dX5_turnedInLine_14 : decode cX5_turnedInLine 14 = .ok (.getfield 28, 3) := by decide +kernel
theorem dX5_turnedInLine_17 : decode cX5_turnedInLine 17 = .ok (.iload_n 2, 1) := by decide +kernel
theorem dX5_turnedInLine_18 : decode cX5_turnedInLine 18 = .ok (.iaload, 1) := by decide +kernel
theorem dX5_turnedInLine_19 : decode cX5_turnedInLine 19 = .ok (.iadd, 1) := by decide +kernel
theorem dX5_turnedInLine_20 : decode cX5_turnedInLine 20 = .ok (.istore_n 1, 1) := by decide +kernel
theorem dX5_turnedInLine_21 : decode cX5_turnedInLine 21 = .ok (.iinc 2 1, 3) := by decide +kernel
theorem dX5_turnedInLine_24 : decode cX5_turnedInLine 24 = .ok (.goto (-20), 3) := by decide +kernel
theorem dX5_turnedInLine_27 : decode cX5_turnedInLine 27 = .ok (.iload_n 1, 1) := by decide +kernel
theorem dX5_turnedInLine_28 : decode cX5_turnedInLine 28 = .ok (.ireturn, 1) := by decide +kernel
theorem dX5_setLine_0 : decode cX5_setLine 0 = .ok (.iload_n 1, 1) := by decide +kernel
theorem dX5_setLine_1 : decode cX5_setLine 1 = .ok (.invokestatic 144, 3) := by decide +kernel
theorem dX5_setLine_4 : decode cX5_setLine 4 = .ok (.ifCond .ne 9, 3) := by decide +kernel
theorem dX5_setLine_7 : decode cX5_setLine 7 = .ok (.aload_n 0, 1) := by decide +kernel
theorem dX5_setLine_8 : decode cX5_setLine 8 = .ok (.iconst 1, 1) := by decide +kernel
theorem dX5_setLine_9 : decode cX5_setLine 9 = .ok (.invokevirtual 86, 3) := by decide +kernel
theorem dX5_setLine_12 : decode cX5_setLine 12 = .ok (.ireturn, 1) := by decide +kernel
theorem dX5_setLine_13 : decode cX5_setLine 13 = .ok (.aload_n 0, 1) := by decide +kernel
theorem dX5_setLine_14 : decode cX5_setLine 14 = .ok (.getfield 7, 3) := by decide +kernel
theorem dX5_setLine_17 : decode cX5_setLine 17 = .ok (.sipush 1262, 3) := by decide +kernel
theorem dX5_setLine_20 : decode cX5_setLine 20 = .ok (.iload_n 1, 1) := by decide +kernel
theorem dX5_setLine_21 : decode cX5_setLine 21 = .ok (.iadd, 1) := by decide +kernel
theorem dX5_setLine_22 : decode cX5_setLine 22 = .ok (.iaload, 1) := by decide +kernel
theorem dX5_setLine_23 : decode cX5_setLine 23 = .ok (.istore_n 2, 1) := by decide +kernel
theorem dX5_setLine_24 : decode cX5_setLine 24 = .ok (.aload_n 0, 1) := by decide +kernel
theorem dX5_setLine_25 : decode cX5_setLine 25 = .ok (.invokevirtual 147, 3) := by decide +kernel
theorem dX5_setLine_28 : decode cX5_setLine 28 = .ok (.iload_n 2, 1) := by decide +kernel
theorem dX5_setLine_29 : decode cX5_setLine 29 = .ok (.iconst 5, 1) := by decide +kernel
theorem dX5_setLine_30 : decode cX5_setLine 30 = .ok (.if_icmp .ge 14, 3) := by decide +kernel
theorem dX5_setLine_33 : decode cX5_setLine 33 = .ok (.aload_n 0, 1) := by decide +kernel
theorem dX5_setLine_34 : decode cX5_setLine 34 = .ok (.invokevirtual 150, 3) := by decide +kernel
theorem dX5_setLine_37 : decode cX5_setLine 37 = .ok (.ifCond .eq 7, 3) := by decide +kernel
theorem dX5_setLine_40 : decode cX5_setLine 40 = .ok (.iconst 1, 1) := by decide +kernel
theorem dX5_setLine_41 : decode cX5_setLine 41 = .ok (.goto 4, 3) := by decide +kernel
theorem dX5_setLine_44 : decode cX5_setLine 44 = .ok (.iconst 0, 1) := by decide +kernel
theorem dX5_setLine_45 : decode cX5_setLine 45 = .ok (.istore_n 3, 1) := by decide +kernel
theorem dX5_setLine_46 : decode cX5_setLine 46 = .ok (.aload_n 0, 1) := by decide +kernel
theorem dX5_setLine_47 : decode cX5_setLine 47 = .ok (.invokevirtual 154, 3) := by decide +kernel
theorem dX5_setLine_50 : decode cX5_setLine 50 = .ok (.iload_n 3, 1) := by decide +kernel
theorem dX5_setLine_51 : decode cX5_setLine 51 = .ok (.ifCond .ne 9, 3) := by decide +kernel
theorem dX5_setLine_54 : decode cX5_setLine 54 = .ok (.aload_n 0, 1) := by decide +kernel
theorem dX5_setLine_55 : decode cX5_setLine 55 = .ok (.iconst 2, 1) := by decide +kernel
theorem dX5_setLine_56 : decode cX5_setLine 56 = .ok (.invokevirtual 86, 3) := by decide +kernel
theorem dX5_setLine_59 : decode cX5_setLine 59 = .ok (.ireturn, 1) := by decide +kernel
theorem dX5_setLine_60 : decode cX5_setLine 60 = .ok (.aload_n 0, 1) := by decide +kernel
theorem dX5_setLine_61 : decode cX5_setLine 61 = .ok (.invokevirtual 94, 3) := by decide +kernel
theorem dX5_setLine_64 : decode cX5_setLine 64 = .ok (.aload_n 0, 1) := by decide +kernel
theorem dX5_setLine_65 : decode cX5_setLine 65 = .ok (.invokevirtual 150, 3) := by decide +kernel
theorem dX5_setLine_68 : decode cX5_setLine 68 = .ok (.istore 4, 2) := by decide +kernel
theorem dX5_setLine_70 : decode cX5_setLine 70 = .ok (.aload_n 0, 1) := by decide +kernel
theorem dX5_setLine_71 : decode cX5_setLine 71 = .ok (.getfield 7, 3) := by decide +kernel
theorem dX5_setLine_74 : decode cX5_setLine 74 = .ok (.iload_n 1, 1) := by decide +kernel
theorem dX5_setLine_75 : decode cX5_setLine 75 = .ok (.iload_n 2, 1) := by decide +kernel
theorem dX5_setLine_76 : decode cX5_setLine 76 = .ok (.invokestatic 54, 3) := by decide +kernel
theorem dX5_setLine_79 : decode cX5_setLine 79 = .ok (.iload 4, 2) := by decide +kernel
theorem dX5_setLine_81 : decode cX5_setLine 81 = .ok (.ifCond .eq 10, 3) := by decide +kernel
theorem dX5_setLine_84 : decode cX5_setLine 84 = .ok (.aload_n 0, 1) := by decide +kernel
theorem dX5_setLine_85 : decode cX5_setLine 85 = .ok (.getfield 103, 3) := by decide +kernel
theorem dX5_setLine_88 : decode cX5_setLine 88 = .ok (.goto 4, 3) := by decide +kernel
theorem dX5_setLine_91 : decode cX5_setLine 91 = .ok (.iconst 0, 1) := by decide +kernel
theorem dX5_setLine_92 : decode cX5_setLine 92 = .ok (.iastore, 1) := by decide +kernel
theorem dX5_setLine_93 : decode cX5_setLine 93 = .ok (.iconst 0, 1) := by decide +kernel
theorem dX5_setLine_94 : decode cX5_setLine 94 = .ok (.istore 5, 2) := by decide +kernel
theorem dX5_setLine_96 : decode cX5_setLine 96 = .ok (.iload 5, 2) := by decide +kernel
theorem dX5_setLine_98 : decode cX5_setLine 98 = .ok (.aload_n 0, 1) := by decide +kernel
theorem dX5_setLine_99 : decode cX5_setLine 99 = .ok (.getfield 103, 3) := by decide +kernel
theorem dX5_setLine_102 : decode cX5_setLine 102 = .ok (.if_icmp .ge 81, 3) := by decide +kernel
theorem dX5_setLine_105 : decode cX5_setLine 105 = .ok (.aload_n 0, 1) := by decide +kernel
theorem dX5_setLine_106 : decode cX5_setLine 106 = .ok (.getfield 7, 3) := by decide +kernel
theorem dX5_setLine_109 : decode cX5_setLine 109 = .ok (.iload_n 1, 1) := by decide +kernel
theorem dX5_setLine_110 : decode cX5_setLine 110 = .ok (.iload_n 2, 1) := by decide +kernel
theorem dX5_setLine_111 : decode cX5_setLine 111 = .ok (.invokestatic 54, 3) := by decide +kernel
theorem dX5_setLine_114 : decode cX5_setLine 114 = .ok (.iconst 1, 1) := by decide +kernel
theorem dX5_setLine_115 : decode cX5_setLine 115 = .ok (.iadd, 1) := by decide +kernel
theorem dX5_setLine_116 : decode cX5_setLine 116 = .ok (.iconst 3, 1) := by decide +kernel
theorem dX5_setLine_117 : decode cX5_setLine 117 = .ok (.iload 5, 2) := by decide +kernel
theorem dX5_setLine_119 : decode cX5_setLine 119 = .ok (.imul, 1) := by decide +kernel
theorem dX5_setLine_120 : decode cX5_setLine 120 = .ok (.iadd, 1) := by decide +kernel
theorem dX5_setLine_121 : decode cX5_setLine 121 = .ok (.aload_n 0, 1) := by decide +kernel
theorem dX5_setLine_122 : decode cX5_setLine 122 = .ok (.getfield 19, 3) := by decide +kernel
theorem dX5_setLine_125 : decode cX5_setLine 125 = .ok (.iload 5, 2) := by decide +kernel
theorem dX5_setLine_127 : decode cX5_setLine 127 = .ok (.iaload, 1) := by decide +kernel
theorem dX5_setLine_128 : decode cX5_setLine 128 = .ok (.iastore, 1) := by decide +kernel
theorem dX5_setLine_129 : decode cX5_setLine 129 = .ok (.aload_n 0, 1) := by decide +kernel
theorem dX5_setLine_130 : decode cX5_setLine 130 = .ok (.getfield 7, 3) := by decide +kernel
theorem dX5_setLine_133 : decode cX5_setLine 133 = .ok (.iload_n 1, 1) := by decide +kernel
theorem dX5_setLine_134 : decode cX5_setLine 134 = .ok (.iload_n 2, 1) := by decide +kernel
theorem dX5_setLine_135 : decode cX5_setLine 135 = .ok (.invokestatic 54, 3) := by decide +kernel
theorem dX5_setLine_138 : decode cX5_setLine 138 = .ok (.iconst 2, 1) := by decide +kernel
theorem dX5_setLine_139 : decode cX5_setLine 139 = .ok (.iadd, 1) := by decide +kernel
theorem dX5_setLine_140 : decode cX5_setLine 140 = .ok (.iconst 3, 1) := by decide +kernel
theorem dX5_setLine_141 : decode cX5_setLine 141 = .ok (.iload 5, 2) := by decide +kernel
theorem dX5_setLine_143 : decode cX5_setLine 143 = .ok (.imul, 1) := by decide +kernel
theorem dX5_setLine_144 : decode cX5_setLine 144 = .ok (.iadd, 1) := by decide +kernel
theorem dX5_setLine_145 : decode cX5_setLine 145 = .ok (.aload_n 0, 1) := by decide +kernel
theorem dX5_setLine_146 : decode cX5_setLine 146 = .ok (.getfield 25, 3) := by decide +kernel
theorem dX5_setLine_149 : decode cX5_setLine 149 = .ok (.iload 5, 2) := by decide +kernel
theorem dX5_setLine_151 : decode cX5_setLine 151 = .ok (.iaload, 1) := by decide +kernel
theorem dX5_setLine_152 : decode cX5_setLine 152 = .ok (.iastore, 1) := by decide +kernel
theorem dX5_setLine_153 : decode cX5_setLine 153 = .ok (.aload_n 0, 1) := by decide +kernel
theorem dX5_setLine_154 : decode cX5_setLine 154 = .ok (.getfield 7, 3) := by decide +kernel
theorem dX5_setLine_157 : decode cX5_setLine 157 = .ok (.iload_n 1, 1) := by decide +kernel
theorem dX5_setLine_158 : decode cX5_setLine 158 = .ok (.iload_n 2, 1) := by decide +kernel
theorem dX5_setLine_159 : decode cX5_setLine 159 = .ok (.invokestatic 54, 3) := by decide +kernel
theorem dX5_setLine_162 : decode cX5_setLine 162 = .ok (.iconst 3, 1) := by decide +kernel
theorem dX5_setLine_163 : decode cX5_setLine 163 = .ok (.iadd, 1) := by decide +kernel
theorem dX5_setLine_164 : decode cX5_setLine 164 = .ok (.iconst 3, 1) := by decide +kernel
theorem dX5_setLine_165 : decode cX5_setLine 165 = .ok (.iload 5, 2) := by decide +kernel
theorem dX5_setLine_167 : decode cX5_setLine 167 = .ok (.imul, 1) := by decide +kernel
theorem dX5_setLine_168 : decode cX5_setLine 168 = .ok (.iadd, 1) := by decide +kernel
theorem dX5_setLine_169 : decode cX5_setLine 169 = .ok (.aload_n 0, 1) := by decide +kernel
theorem dX5_setLine_170 : decode cX5_setLine 170 = .ok (.getfield 28, 3) := by decide +kernel
theorem dX5_setLine_173 : decode cX5_setLine 173 = .ok (.iload 5, 2) := by decide +kernel
theorem dX5_setLine_175 : decode cX5_setLine 175 = .ok (.iaload, 1) := by decide +kernel
theorem dX5_setLine_176 : decode cX5_setLine 176 = .ok (.iastore, 1) := by decide +kernel
theorem dX5_setLine_177 : decode cX5_setLine 177 = .ok (.iinc 5 1, 3) := by decide +kernel
theorem dX5_setLine_180 : decode cX5_setLine 180 = .ok (.goto (-84), 3) := by decide +kernel
theorem dX5_setLine_183 : decode cX5_setLine 183 = .ok (.aload_n 0, 1) := by decide +kernel
theorem dX5_setLine_184 : decode cX5_setLine 184 = .ok (.getfield 7, 3) := by decide +kernel
theorem dX5_setLine_187 : decode cX5_setLine 187 = .ok (.sipush 1262, 3) := by decide +kernel
theorem dX5_setLine_190 : decode cX5_setLine 190 = .ok (.iload_n 1, 1) := by decide +kernel
theorem dX5_setLine_191 : decode cX5_setLine 191 = .ok (.iadd, 1) := by decide +kernel
theorem dX5_setLine_192 : decode cX5_setLine 192 = .ok (.dup2, 1) := by decide +kernel
theorem dX5_setLine_193 : decode cX5_setLine 193 = .ok (.iaload, 1) := by decide +kernel
theorem dX5_setLine_194 : decode cX5_setLine 194 = .ok (.iconst 1, 1) := by decide +kernel
theorem dX5_setLine_195 : decode cX5_setLine 195 = .ok (.iadd, 1) := by decide +kernel
theorem dX5_setLine_196 : decode cX5_setLine 196 = .ok (.iastore, 1) := by decide +kernel
theorem dX5_setLine_197 : decode cX5_setLine 197 = .ok (.aload_n 0, 1) := by decide +kernel
theorem dX5_setLine_198 : decode cX5_setLine 198 = .ok (.getfield 7, 3) := by decide +kernel
theorem dX5_setLine_201 : decode cX5_setLine 201 = .ok (.sipush 1519, 3) := by decide +kernel
theorem dX5_setLine_204 : decode cX5_setLine 204 = .ok (.dup2, 1) := by decide +kernel
theorem dX5_setLine_205 : decode cX5_setLine 205 = .ok (.iaload, 1) := by decide +kernel
theorem dX5_setLine_206 : decode cX5_setLine 206 = .ok (.aload_n 0, 1) := by decide +kernel
theorem dX5_setLine_207 : decode cX5_setLine 207 = .ok (.getfield 103, 3) := by decide +kernel
theorem dX5_setLine_210 : decode cX5_setLine 210 = .ok (.iadd, 1) := by decide +kernel
theorem dX5_setLine_211 : decode cX5_setLine 211 = .ok (.iastore, 1) := by decide +kernel
theorem dX5_setLine_212 : decode cX5_setLine 212 = .ok (.aload_n 0, 1) := by decide +kernel
theorem dX5_setLine_213 : decode cX5_setLine 213 = .ok (.iload_n 2, 1) := by decide +kernel
theorem dX5_setLine_214 : decode cX5_setLine 214 = .ok (.invokevirtual 100, 3) := by decide +kernel
theorem dX5_setLine_217 : decode cX5_setLine 217 = .ok (.ireturn, 1) := by decide +kernel
theorem dX5_corrects_0 : decode cX5_corrects 0 = .ok (.iconst 0, 1) := by decide +kernel
theorem dX5_corrects_1 : decode cX5_corrects 1 = .ok (.istore_n 2, 1) := by decide +kernel
theorem dX5_corrects_2 : decode cX5_corrects 2 = .ok (.iconst 0, 1) := by decide +kernel
theorem dX5_corrects_3 : decode cX5_corrects 3 = .ok (.istore_n 3, 1) := by decide +kernel
theorem dX5_corrects_4 : decode cX5_corrects 4 = .ok (.iload_n 3, 1) := by decide +kernel
theorem dX5_corrects_5 : decode cX5_corrects 5 = .ok (.aload_n 0, 1) := by decide +kernel
theorem dX5_corrects_6 : decode cX5_corrects 6 = .ok (.getfield 7, 3) := by decide +kernel
theorem dX5_corrects_9 : decode cX5_corrects 9 = .ok (.sipush 1262, 3) := by decide +kernel
theorem dX5_corrects_12 : decode cX5_corrects 12 = .ok (.iload_n 1, 1) := by decide +kernel
theorem dX5_corrects_13 : decode cX5_corrects 13 = .ok (.iadd, 1) := by decide +kernel
theorem dX5_corrects_14 : decode cX5_corrects 14 = .ok (.iaload, 1) := by decide +kernel
theorem dX5_corrects_15 : decode cX5_corrects 15 = .ok (.if_icmp .ge 119, 3) := by decide +kernel
theorem dX5_corrects_18 : decode cX5_corrects 18 = .ok (.iconst 0, 1) := by decide +kernel
theorem dX5_corrects_19 : decode cX5_corrects 19 = .ok (.istore 4, 2) := by decide +kernel
theorem dX5_corrects_21 : decode cX5_corrects 21 = .ok (.iload 4, 2) := by decide +kernel
theorem dX5_corrects_23 : decode cX5_corrects 23 = .ok (.aload_n 0, 1) := by decide +kernel
theorem dX5_corrects_24 : decode cX5_corrects 24 = .ok (.iload_n 1, 1) := by decide +kernel
theorem dX5_corrects_25 : decode cX5_corrects 25 = .ok (.iload_n 3, 1) := by decide +kernel
theorem dX5_corrects_26 : decode cX5_corrects 26 = .ok (.invokevirtual 61, 3) := by decide +kernel
theorem dX5_corrects_29 : decode cX5_corrects 29 = .ok (.if_icmp .ge 99, 3) := by decide +kernel
theorem dX5_corrects_32 : decode cX5_corrects 32 = .ok (.aload_n 0, 1) := by decide +kernel
theorem dX5_corrects_33 : decode cX5_corrects 33 = .ok (.iload_n 1, 1) := by decide +kernel
theorem dX5_corrects_34 : decode cX5_corrects 34 = .ok (.iload_n 3, 1) := by decide +kernel
theorem dX5_corrects_35 : decode cX5_corrects 35 = .ok (.iload 4, 2) := by decide +kernel
theorem dX5_corrects_37 : decode cX5_corrects 37 = .ok (.iconst 0, 1) := by decide +kernel
theorem dX5_corrects_38 : decode cX5_corrects 38 = .ok (.invokevirtual 57, 3) := by decide +kernel
theorem dX5_corrects_41 : decode cX5_corrects 41 = .ok (.istore 5, 2) := by decide +kernel
theorem dX5_corrects_43 : decode cX5_corrects 43 = .ok (.aload_n 0, 1) := by decide +kernel
theorem dX5_corrects_44 : decode cX5_corrects 44 = .ok (.iload_n 1, 1) := by decide +kernel
theorem dX5_corrects_45 : decode cX5_corrects 45 = .ok (.iload_n 3, 1) := by decide +kernel
theorem dX5_corrects_46 : decode cX5_corrects 46 = .ok (.iload 4, 2) := by decide +kernel
theorem dX5_corrects_48 : decode cX5_corrects 48 = .ok (.invokevirtual 64, 3) := by decide +kernel
theorem dX5_corrects_51 : decode cX5_corrects 51 = .ok (.ifCond .eq 71, 3) := by decide +kernel
theorem dX5_corrects_54 : decode cX5_corrects 54 = .ok (.aload_n 0, 1) := by decide +kernel
theorem dX5_corrects_55 : decode cX5_corrects 55 = .ok (.iload 5, 2) := by decide +kernel
theorem dX5_corrects_57 : decode cX5_corrects 57 = .ok (.invokevirtual 157, 3) := by decide +kernel
theorem dX5_corrects_60 : decode cX5_corrects 60 = .ok (.ifCond .eq 62, 3) := by decide +kernel
theorem dX5_corrects_63 : decode cX5_corrects 63 = .ok (.aload_n 0, 1) := by decide +kernel
theorem dX5_corrects_64 : decode cX5_corrects 64 = .ok (.iload_n 1, 1) := by decide +kernel
theorem dX5_corrects_65 : decode cX5_corrects 65 = .ok (.iload_n 3, 1) := by decide +kernel
theorem dX5_corrects_66 : decode cX5_corrects 66 = .ok (.iload 4, 2) := by decide +kernel
theorem dX5_corrects_68 : decode cX5_corrects 68 = .ok (.iconst 1, 1) := by decide +kernel
theorem dX5_corrects_69 : decode cX5_corrects 69 = .ok (.invokevirtual 57, 3) := by decide +kernel
theorem dX5_corrects_72 : decode cX5_corrects 72 = .ok (.istore 6, 2) := by decide +kernel
theorem dX5_corrects_74 : decode cX5_corrects 74 = .ok (.aload_n 0, 1) := by decide +kernel
theorem dX5_corrects_75 : decode cX5_corrects 75 = .ok (.iload 6, 2) := by decide +kernel
theorem dX5_corrects_77 : decode cX5_corrects 77 = .ok (.iload 6, 2) := by decide +kernel
theorem dX5_corrects_79 : decode cX5_corrects 79 = .ok (.invokevirtual 78, 3) := by decide +kernel
theorem dX5_corrects_82 : decode cX5_corrects 82 = .ok (.aload_n 0, 1) := by decide +kernel
theorem dX5_corrects_83 : decode cX5_corrects 83 = .ok (.getfield 7, 3) := by decide +kernel
theorem dX5_corrects_86 : decode cX5_corrects 86 = .ok (.iload_n 1, 1) := by decide +kernel
theorem dX5_corrects_87 : decode cX5_corrects 87 = .ok (.iload_n 3, 1) := by decide +kernel
theorem dX5_corrects_88 : decode cX5_corrects 88 = .ok (.invokestatic 54, 3) := by decide +kernel
theorem dX5_corrects_91 : decode cX5_corrects 91 = .ok (.iconst 2, 1) := by decide +kernel
theorem dX5_corrects_92 : decode cX5_corrects 92 = .ok (.iadd, 1) := by decide +kernel
theorem dX5_corrects_93 : decode cX5_corrects 93 = .ok (.iconst 3, 1) := by decide +kernel
theorem dX5_corrects_94 : decode cX5_corrects 94 = .ok (.iload 4, 2) := by decide +kernel
theorem dX5_corrects_96 : decode cX5_corrects 96 = .ok (.imul, 1) := by decide +kernel
theorem dX5_corrects_97 : decode cX5_corrects 97 = .ok (.iadd, 1) := by decide +kernel
theorem dX5_corrects_98 : decode cX5_corrects 98 = .ok (.iload 5, 2) := by decide +kernel
theorem dX5_corrects_100 : decode cX5_corrects 100 = .ok (.iastore, 1) := by decide +kernel
theorem dX5_corrects_101 : decode cX5_corrects 101 = .ok (.aload_n 0, 1) := by decide +kernel
theorem dX5_corrects_102 : decode cX5_corrects 102 = .ok (.getfield 7, 3) := by decide +kernel
theorem dX5_corrects_105 : decode cX5_corrects 105 = .ok (.iload_n 1, 1) := by decide +kernel
theorem dX5_corrects_106 : decode cX5_corrects 106 = .ok (.iload_n 3, 1) := by decide +kernel
theorem dX5_corrects_107 : decode cX5_corrects 107 = .ok (.invokestatic 54, 3) := by decide +kernel
theorem dX5_corrects_110 : decode cX5_corrects 110 = .ok (.iconst 3, 1) := by decide +kernel
theorem dX5_corrects_111 : decode cX5_corrects 111 = .ok (.iadd, 1) := by decide +kernel
theorem dX5_corrects_112 : decode cX5_corrects 112 = .ok (.iconst 3, 1) := by decide +kernel
theorem dX5_corrects_113 : decode cX5_corrects 113 = .ok (.iload 4, 2) := by decide +kernel
theorem dX5_corrects_115 : decode cX5_corrects 115 = .ok (.imul, 1) := by decide +kernel
theorem dX5_corrects_116 : decode cX5_corrects 116 = .ok (.iadd, 1) := by decide +kernel
theorem dX5_corrects_117 : decode cX5_corrects 117 = .ok (.iconst 0, 1) := by decide +kernel
theorem dX5_corrects_118 : decode cX5_corrects 118 = .ok (.iastore, 1) := by decide +kernel
theorem dX5_corrects_119 : decode cX5_corrects 119 = .ok (.iinc 2 1, 3) := by decide +kernel
theorem dX5_corrects_122 : decode cX5_corrects 122 = .ok (.iinc 4 1, 3) := by decide +kernel
theorem dX5_corrects_125 : decode cX5_corrects 125 = .ok (.goto (-104), 3) := by decide +kernel
theorem dX5_corrects_128 : decode cX5_corrects 128 = .ok (.iinc 3 1, 3) := by decide +kernel
theorem dX5_corrects_131 : decode cX5_corrects 131 = .ok (.goto (-127), 3) := by decide +kernel
theorem dX5_corrects_134 : decode cX5_corrects 134 = .ok (.aload_n 0, 1) := by decide +kernel
theorem dX5_corrects_135 : decode cX5_corrects 135 = .ok (.getfield 7, 3) := by decide +kernel
theorem dX5_corrects_138 : decode cX5_corrects 138 = .ok (.sipush 1519, 3) := by decide +kernel
theorem dX5_corrects_141 : decode cX5_corrects 141 = .ok (.dup2, 1) := by decide +kernel
theorem dX5_corrects_142 : decode cX5_corrects 142 = .ok (.iaload, 1) := by decide +kernel
theorem dX5_corrects_143 : decode cX5_corrects 143 = .ok (.iconst 3, 1) := by decide +kernel
theorem dX5_corrects_144 : decode cX5_corrects 144 = .ok (.iload_n 2, 1) := by decide +kernel
theorem dX5_corrects_145 : decode cX5_corrects 145 = .ok (.imul, 1) := by decide +kernel
theorem dX5_corrects_146 : decode cX5_corrects 146 = .ok (.iadd, 1) := by decide +kernel
theorem dX5_corrects_147 : decode cX5_corrects 147 = .ok (.iastore, 1) := by decide +kernel
theorem dX5_corrects_148 : decode cX5_corrects 148 = .ok (.iload_n 2, 1) := by decide +kernel
theorem dX5_corrects_149 : decode cX5_corrects 149 = .ok (.ireturn, 1) := by decide +kernel
theorem dX5_correct_0 : decode cX5_correct 0 = .ok (.iload_n 1, 1) := by decide +kernel
theorem dX5_correct_1 : decode cX5_correct 1 = .ok (.invokestatic 144, 3) := by decide +kernel
theorem dX5_correct_4 : decode cX5_correct 4 = .ok (.ifCond .ne 9, 3) := by decide +kernel
theorem dX5_correct_7 : decode cX5_correct 7 = .ok (.aload_n 0, 1) := by decide +kernel
theorem dX5_correct_8 : decode cX5_correct 8 = .ok (.iconst 1, 1) := by decide +kernel
theorem dX5_correct_9 : decode cX5_correct 9 = .ok (.invokevirtual 86, 3) := by decide +kernel
theorem dX5_correct_12 : decode cX5_correct 12 = .ok (.ireturn, 1) := by decide +kernel
theorem dX5_correct_13 : decode cX5_correct 13 = .ok (.aload_n 0, 1) := by decide +kernel
theorem dX5_correct_14 : decode cX5_correct 14 = .ok (.invokevirtual 94, 3) := by decide +kernel
theorem dX5_correct_17 : decode cX5_correct 17 = .ok (.aload_n 0, 1) := by decide +kernel
theorem dX5_correct_18 : decode cX5_correct 18 = .ok (.aload_n 0, 1) := by decide +kernel
theorem dX5_correct_19 : decode cX5_correct 19 = .ok (.iload_n 1, 1) := by decide +kernel
theorem dX5_correct_20 : decode cX5_correct 20 = .ok (.invokevirtual 160, 3) := by decide +kernel
theorem dX5_correct_23 : decode cX5_correct 23 = .ok (.invokevirtual 100, 3) := by decide +kernel
theorem dX5_correct_26 : decode cX5_correct 26 = .ok (.ireturn, 1) := by decide +kernel
theorem dX5_distributes_0 : decode cX5_distributes 0 = .ok (.iconst 0, 1) := by decide +kernel
theorem dX5_distributes_1 : decode cX5_distributes 1 = .ok (.istore_n 2, 1) := by decide +kernel
theorem dX5_distributes_2 : decode cX5_distributes 2 = .ok (.iconst 0, 1) := by decide +kernel
theorem dX5_distributes_3 : decode cX5_distributes 3 = .ok (.istore_n 3, 1) := by decide +kernel
theorem dX5_distributes_4 : decode cX5_distributes 4 = .ok (.iload_n 3, 1) := by decide +kernel
theorem dX5_distributes_5 : decode cX5_distributes 5 = .ok (.aload_n 0, 1) := by decide +kernel
theorem dX5_distributes_6 : decode cX5_distributes 6 = .ok (.getfield 7, 3) := by decide +kernel
theorem dX5_distributes_9 : decode cX5_distributes 9 = .ok (.sipush 1262, 3) := by decide +kernel
theorem dX5_distributes_12 : decode cX5_distributes 12 = .ok (.iload_n 1, 1) := by decide +kernel
theorem dX5_distributes_13 : decode cX5_distributes 13 = .ok (.iadd, 1) := by decide +kernel
theorem dX5_distributes_14 : decode cX5_distributes 14 = .ok (.iaload, 1) := by decide +kernel
theorem dX5_distributes_15 : decode cX5_distributes 15 = .ok (.if_icmp .ge 116, 3) := by decide +kernel
theorem dX5_distributes_18 : decode cX5_distributes 18 = .ok (.iconst 0, 1) := by decide +kernel
theorem dX5_distributes_19 : decode cX5_distributes 19 = .ok (.istore 4, 2) := by decide +kernel
theorem dX5_distributes_21 : decode cX5_distributes 21 = .ok (.iload 4, 2) := by decide +kernel
theorem dX5_distributes_23 : decode cX5_distributes 23 = .ok (.aload_n 0, 1) := by decide +kernel
theorem dX5_distributes_24 : decode cX5_distributes 24 = .ok (.iload_n 1, 1) := by decide +kernel
theorem dX5_distributes_25 : decode cX5_distributes 25 = .ok (.iload_n 3, 1) := by decide +kernel
theorem dX5_distributes_26 : decode cX5_distributes 26 = .ok (.invokevirtual 61, 3) := by decide +kernel
theorem dX5_distributes_29 : decode cX5_distributes 29 = .ok (.if_icmp .ge 96, 3) := by decide +kernel
theorem dX5_distributes_32 : decode cX5_distributes 32 = .ok (.aload_n 0, 1) := by decide +kernel
theorem dX5_distributes_33 : decode cX5_distributes 33 = .ok (.iload_n 1, 1) := by decide +kernel
theorem dX5_distributes_34 : decode cX5_distributes 34 = .ok (.iload_n 3, 1) := by decide +kernel
theorem dX5_distributes_35 : decode cX5_distributes 35 = .ok (.iload 4, 2) := by decide +kernel
theorem dX5_distributes_37 : decode cX5_distributes 37 = .ok (.iconst 1, 1) := by decide +kernel
theorem dX5_distributes_38 : decode cX5_distributes 38 = .ok (.invokevirtual 57, 3) := by decide +kernel
theorem dX5_distributes_41 : decode cX5_distributes 41 = .ok (.istore 5, 2) := by decide +kernel
theorem dX5_distributes_43 : decode cX5_distributes 43 = .ok (.aload_n 0, 1) := by decide +kernel
theorem dX5_distributes_44 : decode cX5_distributes 44 = .ok (.getfield 7, 3) := by decide +kernel
theorem dX5_distributes_47 : decode cX5_distributes 47 = .ok (.sipush 1520, 3) := by decide +kernel
theorem dX5_distributes_50 : decode cX5_distributes 50 = .ok (.dup2, 1) := by decide +kernel
theorem dX5_distributes_51 : decode cX5_distributes 51 = .ok (.iaload, 1) := by decide +kernel
theorem dX5_distributes_52 : decode cX5_distributes 52 = .ok (.iconst 1, 1) := by decide +kernel
theorem dX5_distributes_53 : decode cX5_distributes 53 = .ok (.iadd, 1) := by decide +kernel
theorem dX5_distributes_54 : decode cX5_distributes 54 = .ok (.iastore, 1) := by decide +kernel
theorem dX5_distributes_55 : decode cX5_distributes 55 = .ok (.aload_n 0, 1) := by decide +kernel
theorem dX5_distributes_56 : decode cX5_distributes 56 = .ok (.getfield 7, 3) := by decide +kernel
theorem dX5_distributes_59 : decode cX5_distributes 59 = .ok (.sipush 1516, 3) := by decide +kernel
theorem dX5_distributes_62 : decode cX5_distributes 62 = .ok (.iaload, 1) := by decide +kernel
theorem dX5_distributes_63 : decode cX5_distributes 63 = .ok (.ifCond .le 27, 3) := by decide +kernel
theorem dX5_distributes_66 : decode cX5_distributes 66 = .ok (.aload_n 0, 1) := by decide +kernel
theorem dX5_distributes_67 : decode cX5_distributes 67 = .ok (.getfield 7, 3) := by decide +kernel
theorem dX5_distributes_70 : decode cX5_distributes 70 = .ok (.sipush 1520, 3) := by decide +kernel
theorem dX5_distributes_73 : decode cX5_distributes 73 = .ok (.iaload, 1) := by decide +kernel
theorem dX5_distributes_74 : decode cX5_distributes 74 = .ok (.aload_n 0, 1) := by decide +kernel
theorem dX5_distributes_75 : decode cX5_distributes 75 = .ok (.getfield 7, 3) := by decide +kernel
theorem dX5_distributes_78 : decode cX5_distributes 78 = .ok (.sipush 1516, 3) := by decide +kernel
theorem dX5_distributes_81 : decode cX5_distributes 81 = .ok (.iaload, 1) := by decide +kernel
theorem dX5_distributes_82 : decode cX5_distributes 82 = .ok (.irem, 1) := by decide +kernel
theorem dX5_distributes_83 : decode cX5_distributes 83 = .ok (.ifCond .ne 7, 3) := by decide +kernel
theorem dX5_distributes_86 : decode cX5_distributes 86 = .ok (.iconst 1, 1) := by decide +kernel
theorem dX5_distributes_87 : decode cX5_distributes 87 = .ok (.goto 4, 3) := by decide +kernel
theorem dX5_distributes_90 : decode cX5_distributes 90 = .ok (.iconst 0, 1) := by decide +kernel
theorem dX5_distributes_91 : decode cX5_distributes 91 = .ok (.istore 6, 2) := by decide +kernel
theorem dX5_distributes_93 : decode cX5_distributes 93 = .ok (.aload_n 0, 1) := by decide +kernel
theorem dX5_distributes_94 : decode cX5_distributes 94 = .ok (.iload 6, 2) := by decide +kernel
theorem dX5_distributes_96 : decode cX5_distributes 96 = .ok (.ifCond .eq 13, 3) := by decide +kernel
theorem dX5_distributes_99 : decode cX5_distributes 99 = .ok (.iload 5, 2) := by decide +kernel
theorem dX5_distributes_101 : decode cX5_distributes 101 = .ok (.iconst 1, 1) := by decide +kernel
theorem dX5_distributes_102 : decode cX5_distributes 102 = .ok (.iadd, 1) := by decide +kernel
theorem dX5_distributes_103 : decode cX5_distributes 103 = .ok (.bipush 27, 2) := by decide +kernel
theorem dX5_distributes_105 : decode cX5_distributes 105 = .ok (.irem, 1) := by decide +kernel
theorem dX5_distributes_106 : decode cX5_distributes 106 = .ok (.goto 5, 3) := by decide +kernel
theorem dX5_distributes_109 : decode cX5_distributes 109 = .ok (.iload 5, 2) := by decide +kernel
theorem dX5_distributes_111 : decode cX5_distributes 111 = .ok (.iload 5, 2) := by decide +kernel
theorem dX5_distributes_113 : decode cX5_distributes 113 = .ok (.invokevirtual 78, 3) := by decide +kernel
theorem dX5_distributes_116 : decode cX5_distributes 116 = .ok (.iinc 2 1, 3) := by decide +kernel
theorem dX5_distributes_119 : decode cX5_distributes 119 = .ok (.iinc 4 1, 3) := by decide +kernel
theorem dX5_distributes_122 : decode cX5_distributes 122 = .ok (.goto (-101), 3) := by decide +kernel
theorem dX5_distributes_125 : decode cX5_distributes 125 = .ok (.iinc 3 1, 3) := by decide +kernel
theorem dX5_distributes_128 : decode cX5_distributes 128 = .ok (.goto (-124), 3) := by decide +kernel
theorem dX5_distributes_131 : decode cX5_distributes 131 = .ok (.aload_n 0, 1) := by decide +kernel
theorem dX5_distributes_132 : decode cX5_distributes 132 = .ok (.getfield 7, 3) := by decide +kernel
theorem dX5_distributes_135 : decode cX5_distributes 135 = .ok (.sipush 1519, 3) := by decide +kernel
theorem dX5_distributes_138 : decode cX5_distributes 138 = .ok (.dup2, 1) := by decide +kernel
theorem dX5_distributes_139 : decode cX5_distributes 139 = .ok (.iaload, 1) := by decide +kernel
theorem dX5_distributes_140 : decode cX5_distributes 140 = .ok (.iload_n 2, 1) := by decide +kernel
theorem dX5_distributes_141 : decode cX5_distributes 141 = .ok (.iadd, 1) := by decide +kernel
theorem dX5_distributes_142 : decode cX5_distributes 142 = .ok (.iastore, 1) := by decide +kernel
theorem dX5_distributes_143 : decode cX5_distributes 143 = .ok (.aload_n 0, 1) := by decide +kernel
theorem dX5_distributes_144 : decode cX5_distributes 144 = .ok (.iload_n 1, 1) := by decide +kernel
theorem dX5_distributes_145 : decode cX5_distributes 145 = .ok (.invokevirtual 163, 3) := by decide +kernel
theorem dX5_distributes_148 : decode cX5_distributes 148 = .ok (.iload_n 2, 1) := by decide +kernel
theorem dX5_distributes_149 : decode cX5_distributes 149 = .ok (.ireturn, 1) := by decide +kernel
theorem dX5_distribute_0 : decode cX5_distribute 0 = .ok (.iload_n 1, 1) := by decide +kernel
theorem dX5_distribute_1 : decode cX5_distribute 1 = .ok (.invokestatic 144, 3) := by decide +kernel
theorem dX5_distribute_4 : decode cX5_distribute 4 = .ok (.ifCond .ne 9, 3) := by decide +kernel
theorem dX5_distribute_7 : decode cX5_distribute 7 = .ok (.aload_n 0, 1) := by decide +kernel
theorem dX5_distribute_8 : decode cX5_distribute 8 = .ok (.iconst 1, 1) := by decide +kernel
theorem dX5_distribute_9 : decode cX5_distribute 9 = .ok (.invokevirtual 86, 3) := by decide +kernel
theorem dX5_distribute_12 : decode cX5_distribute 12 = .ok (.ireturn, 1) := by decide +kernel
theorem dX5_distribute_13 : decode cX5_distribute 13 = .ok (.aload_n 0, 1) := by decide +kernel
theorem dX5_distribute_14 : decode cX5_distribute 14 = .ok (.invokevirtual 94, 3) := by decide +kernel
theorem dX5_distribute_17 : decode cX5_distribute 17 = .ok (.aload_n 0, 1) := by decide +kernel
theorem dX5_distribute_18 : decode cX5_distribute 18 = .ok (.aload_n 0, 1) := by decide +kernel
theorem dX5_distribute_19 : decode cX5_distribute 19 = .ok (.iload_n 1, 1) := by decide +kernel
theorem dX5_distribute_20 : decode cX5_distribute 20 = .ok (.invokevirtual 167, 3) := by decide +kernel
theorem dX5_distribute_23 : decode cX5_distribute 23 = .ok (.invokevirtual 100, 3) := by decide +kernel
theorem dX5_distribute_26 : decode cX5_distribute 26 = .ok (.ireturn, 1) := by decide +kernel
theorem dX5_pie_0 : decode cX5_pie 0 = .ok (.iload_n 1, 1) := by decide +kernel
theorem dX5_pie_1 : decode cX5_pie 1 = .ok (.invokestatic 144, 3) := by decide +kernel
theorem dX5_pie_4 : decode cX5_pie 4 = .ok (.ifCond .ne 9, 3) := by decide +kernel
theorem dX5_pie_7 : decode cX5_pie 7 = .ok (.aload_n 0, 1) := by decide +kernel
theorem dX5_pie_8 : decode cX5_pie 8 = .ok (.iconst 1, 1) := by decide +kernel
theorem dX5_pie_9 : decode cX5_pie 9 = .ok (.invokevirtual 86, 3) := by decide +kernel
theorem dX5_pie_12 : decode cX5_pie 12 = .ok (.ireturn, 1) := by decide +kernel
theorem dX5_pie_13 : decode cX5_pie 13 = .ok (.aload_n 0, 1) := by decide +kernel
theorem dX5_pie_14 : decode cX5_pie 14 = .ok (.invokevirtual 94, 3) := by decide +kernel
theorem dX5_pie_17 : decode cX5_pie 17 = .ok (.iconst 0, 1) := by decide +kernel
theorem dX5_pie_18 : decode cX5_pie 18 = .ok (.istore_n 2, 1) := by decide +kernel
theorem dX5_pie_19 : decode cX5_pie 19 = .ok (.iload_n 2, 1) := by decide +kernel
theorem dX5_pie_20 : decode cX5_pie 20 = .ok (.aload_n 0, 1) := by decide +kernel
theorem dX5_pie_21 : decode cX5_pie 21 = .ok (.getfield 7, 3) := by decide +kernel
theorem dX5_pie_24 : decode cX5_pie 24 = .ok (.sipush 1262, 3) := by decide +kernel
theorem dX5_pie_27 : decode cX5_pie 27 = .ok (.iload_n 1, 1) := by decide +kernel
theorem dX5_pie_28 : decode cX5_pie 28 = .ok (.iadd, 1) := by decide +kernel
theorem dX5_pie_29 : decode cX5_pie 29 = .ok (.iaload, 1) := by decide +kernel
theorem dX5_pie_30 : decode cX5_pie 30 = .ok (.if_icmp .ge 64, 3) := by decide +kernel
theorem dX5_pie_33 : decode cX5_pie 33 = .ok (.iconst 0, 1) := by decide +kernel
theorem dX5_pie_34 : decode cX5_pie 34 = .ok (.istore_n 3, 1) := by decide +kernel
theorem dX5_pie_35 : decode cX5_pie 35 = .ok (.iload_n 3, 1) := by decide +kernel
theorem dX5_pie_36 : decode cX5_pie 36 = .ok (.aload_n 0, 1) := by decide +kernel
theorem dX5_pie_37 : decode cX5_pie 37 = .ok (.iload_n 1, 1) := by decide +kernel
theorem dX5_pie_38 : decode cX5_pie 38 = .ok (.iload_n 2, 1) := by decide +kernel
theorem dX5_pie_39 : decode cX5_pie 39 = .ok (.invokevirtual 61, 3) := by decide +kernel
theorem dX5_pie_42 : decode cX5_pie 42 = .ok (.if_icmp .ge 46, 3) := by decide +kernel
theorem dX5_pie_45 : decode cX5_pie 45 = .ok (.aload_n 0, 1) := by decide +kernel
theorem dX5_pie_46 : decode cX5_pie 46 = .ok (.getfield 7, 3) := by decide +kernel
theorem dX5_pie_49 : decode cX5_pie 49 = .ok (.sipush 1266, 3) := by decide +kernel
theorem dX5_pie_52 : decode cX5_pie 52 = .ok (.aload_n 0, 1) := by decide +kernel
theorem dX5_pie_53 : decode cX5_pie 53 = .ok (.getfield 7, 3) := by decide +kernel
theorem dX5_pie_56 : decode cX5_pie 56 = .ok (.sipush 1265, 3) := by decide +kernel
theorem dX5_pie_59 : decode cX5_pie 59 = .ok (.iaload, 1) := by decide +kernel
theorem dX5_pie_60 : decode cX5_pie 60 = .ok (.iadd, 1) := by decide +kernel
theorem dX5_pie_61 : decode cX5_pie 61 = .ok (.aload_n 0, 1) := by decide +kernel
theorem dX5_pie_62 : decode cX5_pie 62 = .ok (.iload_n 1, 1) := by decide +kernel
theorem dX5_pie_63 : decode cX5_pie 63 = .ok (.iload_n 2, 1) := by decide +kernel
theorem dX5_pie_64 : decode cX5_pie 64 = .ok (.iload_n 3, 1) := by decide +kernel
theorem dX5_pie_65 : decode cX5_pie 65 = .ok (.iconst 1, 1) := by decide +kernel
theorem dX5_pie_66 : decode cX5_pie 66 = .ok (.invokevirtual 57, 3) := by decide +kernel
theorem dX5_pie_69 : decode cX5_pie 69 = .ok (.iastore, 1) := by decide +kernel
theorem dX5_pie_70 : decode cX5_pie 70 = .ok (.aload_n 0, 1) := by decide +kernel
theorem dX5_pie_71 : decode cX5_pie 71 = .ok (.getfield 7, 3) := by decide +kernel
theorem dX5_pie_74 : decode cX5_pie 74 = .ok (.sipush 1265, 3) := by decide +kernel
theorem dX5_pie_77 : decode cX5_pie 77 = .ok (.dup2, 1) := by decide +kernel
theorem dX5_pie_78 : decode cX5_pie 78 = .ok (.iaload, 1) := by decide +kernel
theorem dX5_pie_79 : decode cX5_pie 79 = .ok (.iconst 1, 1) := by decide +kernel
theorem dX5_pie_80 : decode cX5_pie 80 = .ok (.iadd, 1) := by decide +kernel
theorem dX5_pie_81 : decode cX5_pie 81 = .ok (.iastore, 1) := by decide +kernel
theorem dX5_pie_82 : decode cX5_pie 82 = .ok (.iinc 3 1, 3) := by decide +kernel
theorem dX5_pie_85 : decode cX5_pie 85 = .ok (.goto (-50), 3) := by decide +kernel
theorem dX5_pie_88 : decode cX5_pie 88 = .ok (.iinc 2 1, 3) := by decide +kernel
theorem dX5_pie_91 : decode cX5_pie 91 = .ok (.goto (-72), 3) := by decide +kernel
theorem dX5_pie_94 : decode cX5_pie 94 = .ok (.aload_n 0, 1) := by decide +kernel
theorem dX5_pie_95 : decode cX5_pie 95 = .ok (.iload_n 1, 1) := by decide +kernel
theorem dX5_pie_96 : decode cX5_pie 96 = .ok (.invokevirtual 163, 3) := by decide +kernel
theorem dX5_pie_99 : decode cX5_pie 99 = .ok (.aload_n 0, 1) := by decide +kernel
theorem dX5_pie_100 : decode cX5_pie 100 = .ok (.aload_n 0, 1) := by decide +kernel
theorem dX5_pie_101 : decode cX5_pie 101 = .ok (.getfield 7, 3) := by decide +kernel
theorem dX5_pie_104 : decode cX5_pie 104 = .ok (.sipush 1265, 3) := by decide +kernel
theorem dX5_pie_107 : decode cX5_pie 107 = .ok (.iaload, 1) := by decide +kernel
theorem dX5_pie_108 : decode cX5_pie 108 = .ok (.invokevirtual 100, 3) := by decide +kernel
theorem dX5_pie_111 : decode cX5_pie 111 = .ok (.ireturn, 1) := by decide +kernel
theorem dX5_sortHeap_0 : decode cX5_sortHeap 0 = .ok (.iload_n 1, 1) := by decide +kernel
theorem dX5_sortHeap_1 : decode cX5_sortHeap 1 = .ok (.i2l, 1) := by decide +kernel
theorem dX5_sortHeap_2 : decode cX5_sortHeap 2 = .ok (.lconst 1, 1) := by decide +kernel
theorem dX5_sortHeap_3 : decode cX5_sortHeap 3 = .ok (.ldc2_w 114, 3) := by decide +kernel
theorem dX5_sortHeap_6 : decode cX5_sortHeap 6 = .ok (.invokestatic 40, 3) := by decide +kernel
theorem dX5_sortHeap_9 : decode cX5_sortHeap 9 = .ok (.ifCond .ne 9, 3) := by decide +kernel
theorem dX5_sortHeap_12 : decode cX5_sortHeap 12 = .ok (.aload_n 0, 1) := by decide +kernel
theorem dX5_sortHeap_13 : decode cX5_sortHeap 13 = .ok (.iconst 1, 1) := by decide +kernel
theorem dX5_sortHeap_14 : decode cX5_sortHeap 14 = .ok (.invokevirtual 86, 3) := by decide +kernel
theorem dX5_sortHeap_17 : decode cX5_sortHeap 17 = .ok (.ireturn, 1) := by decide +kernel
theorem dX5_sortHeap_18 : decode cX5_sortHeap 18 = .ok (.aload_n 0, 1) := by decide +kernel
theorem dX5_sortHeap_19 : decode cX5_sortHeap 19 = .ok (.invokevirtual 94, 3) := by decide +kernel
theorem dX5_sortHeap_22 : decode cX5_sortHeap 22 = .ok (.iload_n 1, 1) := by decide +kernel
theorem dX5_sortHeap_23 : decode cX5_sortHeap 23 = .ok (.aload_n 0, 1) := by decide +kernel
theorem dX5_sortHeap_24 : decode cX5_sortHeap 24 = .ok (.getfield 7, 3) := by decide +kernel
theorem dX5_sortHeap_27 : decode cX5_sortHeap 27 = .ok (.sipush 1265, 3) := by decide +kernel
theorem dX5_sortHeap_30 : decode cX5_sortHeap 30 = .ok (.iaload, 1) := by decide +kernel
theorem dX5_sortHeap_31 : decode cX5_sortHeap 31 = .ok (.if_icmp .ge 7, 3) := by decide +kernel
theorem dX5_sortHeap_34 : decode cX5_sortHeap 34 = .ok (.iload_n 1, 1) := by decide +kernel
theorem dX5_sortHeap_35 : decode cX5_sortHeap 35 = .ok (.goto 11, 3) := by decide +kernel
theorem dX5_sortHeap_38 : decode cX5_sortHeap 38 = .ok (.aload_n 0, 1) := by decide +kernel
theorem dX5_sortHeap_39 : decode cX5_sortHeap 39 = .ok (.getfield 7, 3) := by decide +kernel
theorem dX5_sortHeap_42 : decode cX5_sortHeap 42 = .ok (.sipush 1265, 3) := by decide +kernel
theorem dX5_sortHeap_45 : decode cX5_sortHeap 45 = .ok (.iaload, 1) := by decide +kernel
theorem dX5_sortHeap_46 : decode cX5_sortHeap 46 = .ok (.istore_n 2, 1) := by decide +kernel
theorem dX5_sortHeap_47 : decode cX5_sortHeap 47 = .ok (.iconst 0, 1) := by decide +kernel
theorem dX5_sortHeap_48 : decode cX5_sortHeap 48 = .ok (.istore_n 3, 1) := by decide +kernel
theorem dX5_sortHeap_49 : decode cX5_sortHeap 49 = .ok (.iload_n 3, 1) := by decide +kernel
theorem dX5_sortHeap_50 : decode cX5_sortHeap 50 = .ok (.iload_n 2, 1) := by decide +kernel
theorem dX5_sortHeap_51 : decode cX5_sortHeap 51 = .ok (.if_icmp .ge 33, 3) := by decide +kernel
theorem dX5_sortHeap_54 : decode cX5_sortHeap 54 = .ok (.aload_n 0, 1) := by decide +kernel
theorem dX5_sortHeap_55 : decode cX5_sortHeap 55 = .ok (.aload_n 0, 1) := by decide +kernel
theorem dX5_sortHeap_56 : decode cX5_sortHeap 56 = .ok (.getfield 7, 3) := by decide +kernel
theorem dX5_sortHeap_59 : decode cX5_sortHeap 59 = .ok (.sipush 1266, 3) := by decide +kernel
theorem dX5_sortHeap_62 : decode cX5_sortHeap 62 = .ok (.iload_n 3, 1) := by decide +kernel
theorem dX5_sortHeap_63 : decode cX5_sortHeap 63 = .ok (.iadd, 1) := by decide +kernel
theorem dX5_sortHeap_64 : decode cX5_sortHeap 64 = .ok (.iaload, 1) := by decide +kernel
theorem dX5_sortHeap_65 : decode cX5_sortHeap 65 = .ok (.aload_n 0, 1) := by decide +kernel
theorem dX5_sortHeap_66 : decode cX5_sortHeap 66 = .ok (.getfield 7, 3) := by decide +kernel
theorem dX5_sortHeap_69 : decode cX5_sortHeap 69 = .ok (.sipush 1266, 3) := by decide +kernel
theorem dX5_sortHeap_72 : decode cX5_sortHeap 72 = .ok (.iload_n 3, 1) := by decide +kernel
theorem dX5_sortHeap_73 : decode cX5_sortHeap 73 = .ok (.iadd, 1) := by decide +kernel
theorem dX5_sortHeap_74 : decode cX5_sortHeap 74 = .ok (.iaload, 1) := by decide +kernel
theorem dX5_sortHeap_75 : decode cX5_sortHeap 75 = .ok (.invokevirtual 78, 3) := by decide +kernel
theorem dX5_sortHeap_78 : decode cX5_sortHeap 78 = .ok (.iinc 3 1, 3) := by decide +kernel
theorem dX5_sortHeap_81 : decode cX5_sortHeap 81 = .ok (.goto (-32), 3) := by decide +kernel
theorem dX5_sortHeap_84 : decode cX5_sortHeap 84 = .ok (.aload_n 0, 1) := by decide +kernel
theorem dX5_sortHeap_85 : decode cX5_sortHeap 85 = .ok (.getfield 7, 3) := by decide +kernel
theorem dX5_sortHeap_88 : decode cX5_sortHeap 88 = .ok (.sipush 1265, 3) := by decide +kernel
theorem dX5_sortHeap_91 : decode cX5_sortHeap 91 = .ok (.dup2, 1) := by decide +kernel
theorem dX5_sortHeap_92 : decode cX5_sortHeap 92 = .ok (.iaload, 1) := by decide +kernel
theorem dX5_sortHeap_93 : decode cX5_sortHeap 93 = .ok (.iload_n 2, 1) := by decide +kernel
theorem dX5_sortHeap_94 : decode cX5_sortHeap 94 = .ok (.isub, 1) := by decide +kernel
theorem dX5_sortHeap_95 : decode cX5_sortHeap 95 = .ok (.iastore, 1) := by decide +kernel
theorem dX5_sortHeap_96 : decode cX5_sortHeap 96 = .ok (.iconst 0, 1) := by decide +kernel
theorem dX5_sortHeap_97 : decode cX5_sortHeap 97 = .ok (.istore_n 3, 1) := by decide +kernel
theorem dX5_sortHeap_98 : decode cX5_sortHeap 98 = .ok (.iload_n 3, 1) := by decide +kernel
theorem dX5_sortHeap_99 : decode cX5_sortHeap 99 = .ok (.aload_n 0, 1) := by decide +kernel
theorem dX5_sortHeap_100 : decode cX5_sortHeap 100 = .ok (.getfield 7, 3) := by decide +kernel
theorem dX5_sortHeap_103 : decode cX5_sortHeap 103 = .ok (.sipush 1265, 3) := by decide +kernel
theorem dX5_sortHeap_106 : decode cX5_sortHeap 106 = .ok (.iaload, 1) := by decide +kernel
theorem dX5_sortHeap_107 : decode cX5_sortHeap 107 = .ok (.if_icmp .ge 31, 3) := by decide +kernel
theorem dX5_sortHeap_110 : decode cX5_sortHeap 110 = .ok (.aload_n 0, 1) := by decide +kernel
theorem dX5_sortHeap_111 : decode cX5_sortHeap 111 = .ok (.getfield 7, 3) := by decide +kernel
theorem dX5_sortHeap_114 : decode cX5_sortHeap 114 = .ok (.sipush 1266, 3) := by decide +kernel
theorem dX5_sortHeap_117 : decode cX5_sortHeap 117 = .ok (.iload_n 3, 1) := by decide +kernel
theorem dX5_sortHeap_118 : decode cX5_sortHeap 118 = .ok (.iadd, 1) := by decide +kernel
theorem dX5_sortHeap_119 : decode cX5_sortHeap 119 = .ok (.aload_n 0, 1) := by decide +kernel
theorem dX5_sortHeap_120 : decode cX5_sortHeap 120 = .ok (.getfield 7, 3) := by decide +kernel
theorem dX5_sortHeap_123 : decode cX5_sortHeap 123 = .ok (.sipush 1266, 3) := by decide +kernel
theorem dX5_sortHeap_126 : decode cX5_sortHeap 126 = .ok (.iload_n 3, 1) := by decide +kernel
theorem dX5_sortHeap_127 : decode cX5_sortHeap 127 = .ok (.iadd, 1) := by decide +kernel
theorem dX5_sortHeap_128 : decode cX5_sortHeap 128 = .ok (.iload_n 2, 1) := by decide +kernel
theorem dX5_sortHeap_129 : decode cX5_sortHeap 129 = .ok (.iadd, 1) := by decide +kernel
theorem dX5_sortHeap_130 : decode cX5_sortHeap 130 = .ok (.iaload, 1) := by decide +kernel
theorem dX5_sortHeap_131 : decode cX5_sortHeap 131 = .ok (.iastore, 1) := by decide +kernel
theorem dX5_sortHeap_132 : decode cX5_sortHeap 132 = .ok (.iinc 3 1, 3) := by decide +kernel
theorem dX5_sortHeap_135 : decode cX5_sortHeap 135 = .ok (.goto (-37), 3) := by decide +kernel
theorem dX5_sortHeap_138 : decode cX5_sortHeap 138 = .ok (.aload_n 0, 1) := by decide +kernel
theorem dX5_sortHeap_139 : decode cX5_sortHeap 139 = .ok (.getfield 7, 3) := by decide +kernel
theorem dX5_sortHeap_142 : decode cX5_sortHeap 142 = .ok (.sipush 1519, 3) := by decide +kernel
theorem dX5_sortHeap_145 : decode cX5_sortHeap 145 = .ok (.dup2, 1) := by decide +kernel
theorem dX5_sortHeap_146 : decode cX5_sortHeap 146 = .ok (.iaload, 1) := by decide +kernel
theorem dX5_sortHeap_147 : decode cX5_sortHeap 147 = .ok (.iload_n 2, 1) := by decide +kernel
theorem dX5_sortHeap_148 : decode cX5_sortHeap 148 = .ok (.iadd, 1) := by decide +kernel
theorem dX5_sortHeap_149 : decode cX5_sortHeap 149 = .ok (.iastore, 1) := by decide +kernel
theorem dX5_sortHeap_150 : decode cX5_sortHeap 150 = .ok (.aload_n 0, 1) := by decide +kernel
theorem dX5_sortHeap_151 : decode cX5_sortHeap 151 = .ok (.iload_n 2, 1) := by decide +kernel
theorem dX5_sortHeap_152 : decode cX5_sortHeap 152 = .ok (.invokevirtual 100, 3) := by decide +kernel
theorem dX5_sortHeap_155 : decode cX5_sortHeap 155 = .ok (.ireturn, 1) := by decide +kernel
theorem dX5_formeOf_0 : decode cX5_formeOf 0 = .ok (.iload_n 2, 1) := by decide +kernel
theorem dX5_formeOf_1 : decode cX5_formeOf 1 = .ok (.iconst 4, 1) := by decide +kernel
theorem dX5_formeOf_2 : decode cX5_formeOf 2 = .ok (.if_icmp .ne 19, 3) := by decide +kernel
theorem dX5_formeOf_5 : decode cX5_formeOf 5 = .ok (.aload_n 0, 1) := by decide +kernel
theorem dX5_formeOf_6 : decode cX5_formeOf 6 = .ok (.invokevirtual 147, 3) := by decide +kernel
theorem dX5_formeOf_9 : decode cX5_formeOf 9 = .ok (.aload_n 0, 1) := by decide +kernel
theorem dX5_formeOf_10 : decode cX5_formeOf 10 = .ok (.iload_n 1, 1) := by decide +kernel
theorem dX5_formeOf_11 : decode cX5_formeOf 11 = .ok (.invokevirtual 160, 3) := by decide +kernel
theorem dX5_formeOf_14 : decode cX5_formeOf 14 = .ok (.istore_n 3, 1) := by decide +kernel
theorem dX5_formeOf_15 : decode cX5_formeOf 15 = .ok (.aload_n 0, 1) := by decide +kernel
theorem dX5_formeOf_16 : decode cX5_formeOf 16 = .ok (.invokevirtual 154, 3) := by decide +kernel
theorem dX5_formeOf_19 : decode cX5_formeOf 19 = .ok (.iload_n 3, 1) := by decide +kernel
theorem dX5_formeOf_20 : decode cX5_formeOf 20 = .ok (.ireturn, 1) := by decide +kernel
theorem dX5_formeOf_21 : decode cX5_formeOf 21 = .ok (.iload_n 2, 1) := by decide +kernel
theorem dX5_formeOf_22 : decode cX5_formeOf 22 = .ok (.ifCond .ne 16, 3) := by decide +kernel
theorem dX5_formeOf_25 : decode cX5_formeOf 25 = .ok (.aload_n 0, 1) := by decide +kernel
theorem dX5_formeOf_26 : decode cX5_formeOf 26 = .ok (.getfield 7, 3) := by decide +kernel
theorem dX5_formeOf_29 : decode cX5_formeOf 29 = .ok (.sipush 1262, 3) := by decide +kernel
theorem dX5_formeOf_32 : decode cX5_formeOf 32 = .ok (.iload_n 1, 1) := by decide +kernel
theorem dX5_formeOf_33 : decode cX5_formeOf 33 = .ok (.iadd, 1) := by decide +kernel
theorem dX5_formeOf_34 : decode cX5_formeOf 34 = .ok (.iaload, 1) := by decide +kernel
theorem dX5_formeOf_35 : decode cX5_formeOf 35 = .ok (.goto 11, 3) := by decide +kernel
theorem dX5_formeOf_38 : decode cX5_formeOf 38 = .ok (.aload_n 0, 1) := by decide +kernel
theorem dX5_formeOf_39 : decode cX5_formeOf 39 = .ok (.iload_n 1, 1) := by decide +kernel
theorem dX5_formeOf_40 : decode cX5_formeOf 40 = .ok (.iload_n 2, 1) := by decide +kernel
theorem dX5_formeOf_41 : decode cX5_formeOf 41 = .ok (.iconst 1, 1) := by decide +kernel
theorem dX5_formeOf_42 : decode cX5_formeOf 42 = .ok (.isub, 1) := by decide +kernel
theorem dX5_formeOf_43 : decode cX5_formeOf 43 = .ok (.invokevirtual 68, 3) := by decide +kernel
theorem dX5_formeOf_46 : decode cX5_formeOf 46 = .ok (.ireturn, 1) := by decide +kernel
theorem dX5_forme_0 : decode cX5_forme 0 = .ok (.iload_n 1, 1) := by decide +kernel
theorem dX5_forme_1 : decode cX5_forme 1 = .ok (.invokestatic 144, 3) := by decide +kernel
theorem dX5_forme_4 : decode cX5_forme 4 = .ok (.ifCond .ne 9, 3) := by decide +kernel
theorem dX5_forme_7 : decode cX5_forme 7 = .ok (.aload_n 0, 1) := by decide +kernel
theorem dX5_forme_8 : decode cX5_forme 8 = .ok (.iconst 1, 1) := by decide +kernel
theorem dX5_forme_9 : decode cX5_forme 9 = .ok (.invokevirtual 86, 3) := by decide +kernel
theorem dX5_forme_12 : decode cX5_forme 12 = .ok (.ireturn, 1) := by decide +kernel
theorem dX5_forme_13 : decode cX5_forme 13 = .ok (.iload_n 2, 1) := by decide +kernel
theorem dX5_forme_14 : decode cX5_forme 14 = .ok (.i2l, 1) := by decide +kernel
theorem dX5_forme_15 : decode cX5_forme 15 = .ok (.lconst 0, 1) := by decide +kernel
theorem dX5_forme_16 : decode cX5_forme 16 = .ok (.ldc2_w 170, 3) := by decide +kernel
theorem dX5_forme_19 : decode cX5_forme 19 = .ok (.invokestatic 40, 3) := by decide +kernel
theorem dX5_forme_22 : decode cX5_forme 22 = .ok (.ifCond .eq 16, 3) := by decide +kernel
theorem dX5_forme_25 : decode cX5_forme 25 = .ok (.aload_n 0, 1) := by decide +kernel
theorem dX5_forme_26 : decode cX5_forme 26 = .ok (.aload_n 0, 1) := by decide +kernel
theorem dX5_forme_27 : decode cX5_forme 27 = .ok (.iload_n 1, 1) := by decide +kernel
theorem dX5_forme_28 : decode cX5_forme 28 = .ok (.iload_n 2, 1) := by decide +kernel
theorem dX5_forme_29 : decode cX5_forme 29 = .ok (.invokevirtual 172, 3) := by decide +kernel
theorem dX5_forme_32 : decode cX5_forme 32 = .ok (.invokevirtual 100, 3) := by decide +kernel
theorem dX5_forme_35 : decode cX5_forme 35 = .ok (.goto 8, 3) := by decide +kernel
theorem dX5_forme_38 : decode cX5_forme 38 = .ok (.aload_n 0, 1) := by decide +kernel
theorem dX5_forme_39 : decode cX5_forme 39 = .ok (.iconst 2, 1) := by decide +kernel
theorem dX5_forme_40 : decode cX5_forme 40 = .ok (.invokevirtual 86, 3) := by decide +kernel
theorem dX5_forme_43 : decode cX5_forme 43 = .ok (.ireturn, 1) := by decide +kernel
theorem dX5_isLine_0 : decode cX5_isLine 0 = .ok (.iload_n 1, 1) := by decide +kernel
theorem dX5_isLine_1 : decode cX5_isLine 1 = .ok (.invokestatic 144, 3) := by decide +kernel
theorem dX5_isLine_4 : decode cX5_isLine 4 = .ok (.ifCond .eq 29, 3) := by decide +kernel
theorem dX5_isLine_7 : decode cX5_isLine 7 = .ok (.iload_n 2, 1) := by decide +kernel
theorem dX5_isLine_8 : decode cX5_isLine 8 = .ok (.i2l, 1) := by decide +kernel
theorem dX5_isLine_9 : decode cX5_isLine 9 = .ok (.lconst 0, 1) := by decide +kernel
theorem dX5_isLine_10 : decode cX5_isLine 10 = .ok (.aload_n 0, 1) := by decide +kernel
theorem dX5_isLine_11 : decode cX5_isLine 11 = .ok (.getfield 7, 3) := by decide +kernel
theorem dX5_isLine_14 : decode cX5_isLine 14 = .ok (.sipush 1262, 3) := by decide +kernel
theorem dX5_isLine_17 : decode cX5_isLine 17 = .ok (.iload_n 1, 1) := by decide +kernel
theorem dX5_isLine_18 : decode cX5_isLine 18 = .ok (.iadd, 1) := by decide +kernel
theorem dX5_isLine_19 : decode cX5_isLine 19 = .ok (.iaload, 1) := by decide +kernel
theorem dX5_isLine_20 : decode cX5_isLine 20 = .ok (.i2l, 1) := by decide +kernel
theorem dX5_isLine_21 : decode cX5_isLine 21 = .ok (.lconst 1, 1) := by decide +kernel
theorem dX5_isLine_22 : decode cX5_isLine 22 = .ok (.lsub, 1) := by decide +kernel
theorem dX5_isLine_23 : decode cX5_isLine 23 = .ok (.invokestatic 40, 3) := by decide +kernel
theorem dX5_isLine_26 : decode cX5_isLine 26 = .ok (.ifCond .eq 7, 3) := by decide +kernel
theorem dX5_isLine_29 : decode cX5_isLine 29 = .ok (.iconst 1, 1) := by decide +kernel
theorem dX5_isLine_30 : decode cX5_isLine 30 = .ok (.goto 4, 3) := by decide +kernel
theorem dX5_isLine_33 : decode cX5_isLine 33 = .ok (.iconst 0, 1) := by decide +kernel
theorem dX5_isLine_34 : decode cX5_isLine 34 = .ok (.ireturn, 1) := by decide +kernel
theorem dX5_places_0 : decode cX5_places 0 = .ok (.aload_n 0, 1) := by decide +kernel
theorem dX5_places_1 : decode cX5_places 1 = .ok (.iload_n 1, 1) := by decide +kernel
theorem dX5_places_2 : decode cX5_places 2 = .ok (.iload_n 2, 1) := by decide +kernel
theorem dX5_places_3 : decode cX5_places 3 = .ok (.invokevirtual 175, 3) := by decide +kernel
theorem dX5_places_6 : decode cX5_places 6 = .ok (.ifCond .eq 16, 3) := by decide +kernel
theorem dX5_places_9 : decode cX5_places 9 = .ok (.aload_n 0, 1) := by decide +kernel
theorem dX5_places_10 : decode cX5_places 10 = .ok (.aload_n 0, 1) := by decide +kernel
theorem dX5_places_11 : decode cX5_places 11 = .ok (.iload_n 1, 1) := by decide +kernel
theorem dX5_places_12 : decode cX5_places 12 = .ok (.iload_n 2, 1) := by decide +kernel
theorem dX5_places_13 : decode cX5_places 13 = .ok (.invokevirtual 61, 3) := by decide +kernel
theorem dX5_places_16 : decode cX5_places 16 = .ok (.invokevirtual 100, 3) := by decide +kernel
theorem dX5_places_19 : decode cX5_places 19 = .ok (.goto 8, 3) := by decide +kernel
theorem dX5_places_22 : decode cX5_places 22 = .ok (.aload_n 0, 1) := by decide +kernel
theorem dX5_places_23 : decode cX5_places 23 = .ok (.iconst 1, 1) := by decide +kernel
theorem dX5_places_24 : decode cX5_places 24 = .ok (.invokevirtual 86, 3) := by decide +kernel
theorem dX5_places_27 : decode cX5_places 27 = .ok (.ireturn, 1) := by decide +kernel
theorem dX5_placeOf_0 : decode cX5_placeOf 0 = .ok (.iload 4, 2) := by decide +kernel
theorem dX5_placeOf_2 : decode cX5_placeOf 2 = .ok (.iconst 3, 1) := by decide +kernel
theorem dX5_placeOf_3 : decode cX5_placeOf 3 = .ok (.if_icmp .ge 15, 3) := by decide +kernel
theorem dX5_placeOf_6 : decode cX5_placeOf 6 = .ok (.aload_n 0, 1) := by decide +kernel
theorem dX5_placeOf_7 : decode cX5_placeOf 7 = .ok (.iload_n 1, 1) := by decide +kernel
theorem dX5_placeOf_8 : decode cX5_placeOf 8 = .ok (.iload_n 2, 1) := by decide +kernel
theorem dX5_placeOf_9 : decode cX5_placeOf 9 = .ok (.iload_n 3, 1) := by decide +kernel
theorem dX5_placeOf_10 : decode cX5_placeOf 10 = .ok (.iload 4, 2) := by decide +kernel
theorem dX5_placeOf_12 : decode cX5_placeOf 12 = .ok (.invokevirtual 57, 3) := by decide +kernel
theorem dX5_placeOf_15 : decode cX5_placeOf 15 = .ok (.goto 18, 3) := by decide +kernel
theorem dX5_placeOf_18 : decode cX5_placeOf 18 = .ok (.aload_n 0, 1) := by decide +kernel
theorem dX5_placeOf_19 : decode cX5_placeOf 19 = .ok (.iload_n 1, 1) := by decide +kernel
theorem dX5_placeOf_20 : decode cX5_placeOf 20 = .ok (.iload_n 2, 1) := by decide +kernel
theorem dX5_placeOf_21 : decode cX5_placeOf 21 = .ok (.iload_n 3, 1) := by decide +kernel
theorem dX5_placeOf_22 : decode cX5_placeOf 22 = .ok (.invokevirtual 64, 3) := by decide +kernel
theorem dX5_placeOf_25 : decode cX5_placeOf 25 = .ok (.ifCond .eq 7, 3) := by decide +kernel
theorem dX5_placeOf_28 : decode cX5_placeOf 28 = .ok (.iconst 1, 1) := by decide +kernel
theorem dX5_placeOf_29 : decode cX5_placeOf 29 = .ok (.goto 4, 3) := by decide +kernel
theorem dX5_placeOf_32 : decode cX5_placeOf 32 = .ok (.iconst 0, 1) := by decide +kernel
theorem dX5_placeOf_33 : decode cX5_placeOf 33 = .ok (.ireturn, 1) := by decide +kernel
theorem dX5_place_0 : decode cX5_place 0 = .ok (.aload_n 0, 1) := by decide +kernel
theorem dX5_place_1 : decode cX5_place 1 = .ok (.iload_n 1, 1) := by decide +kernel
theorem dX5_place_2 : decode cX5_place 2 = .ok (.iload_n 2, 1) := by decide +kernel
theorem dX5_place_3 : decode cX5_place 3 = .ok (.invokevirtual 175, 3) := by decide +kernel
theorem dX5_place_6 : decode cX5_place 6 = .ok (.ifCond .eq 21, 3) := by decide +kernel
theorem dX5_place_9 : decode cX5_place 9 = .ok (.iload_n 3, 1) := by decide +kernel
theorem dX5_place_10 : decode cX5_place 10 = .ok (.i2l, 1) := by decide +kernel
theorem dX5_place_11 : decode cX5_place 11 = .ok (.lconst 0, 1) := by decide +kernel
theorem dX5_place_12 : decode cX5_place 12 = .ok (.aload_n 0, 1) := by decide +kernel
theorem dX5_place_13 : decode cX5_place 13 = .ok (.iload_n 1, 1) := by decide +kernel
theorem dX5_place_14 : decode cX5_place 14 = .ok (.iload_n 2, 1) := by decide +kernel
theorem dX5_place_15 : decode cX5_place 15 = .ok (.invokevirtual 61, 3) := by decide +kernel
theorem dX5_place_18 : decode cX5_place 18 = .ok (.i2l, 1) := by decide +kernel
theorem dX5_place_19 : decode cX5_place 19 = .ok (.lconst 1, 1) := by decide +kernel
theorem dX5_place_20 : decode cX5_place 20 = .ok (.lsub, 1) := by decide +kernel
theorem dX5_place_21 : decode cX5_place 21 = .ok (.invokestatic 40, 3) := by decide +kernel
theorem dX5_place_24 : decode cX5_place 24 = .ok (.ifCond .ne 9, 3) := by decide +kernel
theorem dX5_place_27 : decode cX5_place 27 = .ok (.aload_n 0, 1) := by decide +kernel
theorem dX5_place_28 : decode cX5_place 28 = .ok (.iconst 1, 1) := by decide +kernel
theorem dX5_place_29 : decode cX5_place 29 = .ok (.invokevirtual 86, 3) := by decide +kernel
theorem dX5_place_32 : decode cX5_place 32 = .ok (.ireturn, 1) := by decide +kernel
theorem dX5_place_33 : decode cX5_place 33 = .ok (.iload 4, 2) := by decide +kernel
theorem dX5_place_35 : decode cX5_place 35 = .ok (.i2l, 1) := by decide +kernel
theorem dX5_place_36 : decode cX5_place 36 = .ok (.lconst 0, 1) := by decide +kernel
theorem dX5_place_37 : decode cX5_place 37 = .ok (.ldc2_w 179, 3) := by decide +kernel
theorem dX5_place_40 : decode cX5_place 40 = .ok (.invokestatic 40, 3) := by decide +kernel
theorem dX5_place_43 : decode cX5_place 43 = .ok (.ifCond .eq 19, 3) := by decide +kernel
theorem dX5_place_46 : decode cX5_place 46 = .ok (.aload_n 0, 1) := by decide +kernel
theorem dX5_place_47 : decode cX5_place 47 = .ok (.aload_n 0, 1) := by decide +kernel
theorem dX5_place_48 : decode cX5_place 48 = .ok (.iload_n 1, 1) := by decide +kernel
theorem dX5_place_49 : decode cX5_place 49 = .ok (.iload_n 2, 1) := by decide +kernel
theorem dX5_place_50 : decode cX5_place 50 = .ok (.iload_n 3, 1) := by decide +kernel
theorem dX5_place_51 : decode cX5_place 51 = .ok (.iload 4, 2) := by decide +kernel
theorem dX5_place_53 : decode cX5_place 53 = .ok (.invokevirtual 181, 3) := by decide +kernel
theorem dX5_place_56 : decode cX5_place 56 = .ok (.invokevirtual 100, 3) := by decide +kernel
theorem dX5_place_59 : decode cX5_place 59 = .ok (.goto 8, 3) := by decide +kernel
theorem dX5_place_62 : decode cX5_place 62 = .ok (.aload_n 0, 1) := by decide +kernel
theorem dX5_place_63 : decode cX5_place 63 = .ok (.iconst 2, 1) := by decide +kernel
theorem dX5_place_64 : decode cX5_place 64 = .ok (.invokevirtual 86, 3) := by decide +kernel
theorem dX5_place_67 : decode cX5_place 67 = .ok (.ireturn, 1) := by decide +kernel
theorem dX5_proof_0 : decode cX5_proof 0 = .ok (.iload_n 1, 1) := by decide +kernel
theorem dX5_proof_1 : decode cX5_proof 1 = .ok (.invokestatic 144, 3) := by decide +kernel
theorem dX5_proof_4 : decode cX5_proof 4 = .ok (.ifCond .eq 7, 3) := by decide +kernel
theorem dX5_proof_7 : decode cX5_proof 7 = .ok (.iload_n 2, 1) := by decide +kernel
theorem dX5_proof_8 : decode cX5_proof 8 = .ok (.ifCond .ge 9, 3) := by decide +kernel
theorem dX5_proof_11 : decode cX5_proof 11 = .ok (.aload_n 0, 1) := by decide +kernel
theorem dX5_proof_12 : decode cX5_proof 12 = .ok (.iconst 1, 1) := by decide +kernel
theorem dX5_proof_13 : decode cX5_proof 13 = .ok (.invokevirtual 86, 3) := by decide +kernel
theorem dX5_proof_16 : decode cX5_proof 16 = .ok (.ireturn, 1) := by decide +kernel
theorem dX5_proof_17 : decode cX5_proof 17 = .ok (.iload_n 2, 1) := by decide +kernel
theorem dX5_proof_18 : decode cX5_proof 18 = .ok (.istore_n 3, 1) := by decide +kernel
theorem dX5_proof_19 : decode cX5_proof 19 = .ok (.iconst 0, 1) := by decide +kernel
theorem dX5_proof_20 : decode cX5_proof 20 = .ok (.istore 4, 2) := by decide +kernel
theorem dX5_proof_22 : decode cX5_proof 22 = .ok (.iload 4, 2) := by decide +kernel
theorem dX5_proof_24 : decode cX5_proof 24 = .ok (.aload_n 0, 1) := by decide +kernel
theorem dX5_proof_25 : decode cX5_proof 25 = .ok (.getfield 7, 3) := by decide +kernel
theorem dX5_proof_28 : decode cX5_proof 28 = .ok (.sipush 1262, 3) := by decide +kernel
theorem dX5_proof_31 : decode cX5_proof 31 = .ok (.iload_n 1, 1) := by decide +kernel
theorem dX5_proof_32 : decode cX5_proof 32 = .ok (.iadd, 1) := by decide +kernel
theorem dX5_proof_33 : decode cX5_proof 33 = .ok (.iaload, 1) := by decide +kernel
theorem dX5_proof_34 : decode cX5_proof 34 = .ok (.if_icmp .ge 76, 3) := by decide +kernel
theorem dX5_proof_37 : decode cX5_proof 37 = .ok (.iconst 0, 1) := by decide +kernel
theorem dX5_proof_38 : decode cX5_proof 38 = .ok (.istore 5, 2) := by decide +kernel
theorem dX5_proof_40 : decode cX5_proof 40 = .ok (.iload 5, 2) := by decide +kernel
theorem dX5_proof_42 : decode cX5_proof 42 = .ok (.aload_n 0, 1) := by decide +kernel
theorem dX5_proof_43 : decode cX5_proof 43 = .ok (.iload_n 1, 1) := by decide +kernel
theorem dX5_proof_44 : decode cX5_proof 44 = .ok (.iload 4, 2) := by decide +kernel
theorem dX5_proof_46 : decode cX5_proof 46 = .ok (.invokevirtual 61, 3) := by decide +kernel
theorem dX5_proof_49 : decode cX5_proof 49 = .ok (.if_icmp .ge 55, 3) := by decide +kernel
theorem dX5_proof_52 : decode cX5_proof 52 = .ok (.aload_n 0, 1) := by decide +kernel
theorem dX5_proof_53 : decode cX5_proof 53 = .ok (.iload_n 1, 1) := by decide +kernel
theorem dX5_proof_54 : decode cX5_proof 54 = .ok (.iload 4, 2) := by decide +kernel
theorem dX5_proof_56 : decode cX5_proof 56 = .ok (.iload 5, 2) := by decide +kernel
theorem dX5_proof_58 : decode cX5_proof 58 = .ok (.invokevirtual 64, 3) := by decide +kernel
theorem dX5_proof_61 : decode cX5_proof 61 = .ok (.istore 6, 2) := by decide +kernel
theorem dX5_proof_63 : decode cX5_proof 63 = .ok (.iload 6, 2) := by decide +kernel
theorem dX5_proof_65 : decode cX5_proof 65 = .ok (.ifCond .eq 20, 3) := by decide +kernel
theorem dX5_proof_68 : decode cX5_proof 68 = .ok (.iload_n 3, 1) := by decide +kernel
theorem dX5_proof_69 : decode cX5_proof 69 = .ok (.ifCond .ne 16, 3) := by decide +kernel
theorem dX5_proof_72 : decode cX5_proof 72 = .ok (.aload_n 0, 1) := by decide +kernel
theorem dX5_proof_73 : decode cX5_proof 73 = .ok (.bipush 100, 2) := by decide +kernel
theorem dX5_proof_75 : decode cX5_proof 75 = .ok (.iload 4, 2) := by decide +kernel
theorem dX5_proof_77 : decode cX5_proof 77 = .ok (.imul, 1) := by decide +kernel
theorem dX5_proof_78 : decode cX5_proof 78 = .ok (.iload 5, 2) := by decide +kernel
theorem dX5_proof_80 : decode cX5_proof 80 = .ok (.iadd, 1) := by decide +kernel
theorem dX5_proof_81 : decode cX5_proof 81 = .ok (.invokevirtual 100, 3) := by decide +kernel
theorem dX5_proof_84 : decode cX5_proof 84 = .ok (.ireturn, 1) := by decide +kernel
theorem dX5_proof_85 : decode cX5_proof 85 = .ok (.iload_n 3, 1) := by decide +kernel
theorem dX5_proof_86 : decode cX5_proof 86 = .ok (.iload 6, 2) := by decide +kernel
theorem dX5_proof_88 : decode cX5_proof 88 = .ok (.ifCond .eq 7, 3) := by decide +kernel
theorem dX5_proof_91 : decode cX5_proof 91 = .ok (.iconst 1, 1) := by decide +kernel
theorem dX5_proof_92 : decode cX5_proof 92 = .ok (.goto 4, 3) := by decide +kernel
theorem dX5_proof_95 : decode cX5_proof 95 = .ok (.iconst 0, 1) := by decide +kernel
theorem dX5_proof_96 : decode cX5_proof 96 = .ok (.isub, 1) := by decide +kernel
theorem dX5_proof_97 : decode cX5_proof 97 = .ok (.istore_n 3, 1) := by decide +kernel
theorem dX5_proof_98 : decode cX5_proof 98 = .ok (.iinc 5 1, 3) := by decide +kernel
theorem dX5_proof_101 : decode cX5_proof 101 = .ok (.goto (-61), 3) := by decide +kernel
theorem dX5_proof_104 : decode cX5_proof 104 = .ok (.iinc 4 1, 3) := by decide +kernel
theorem dX5_proof_107 : decode cX5_proof 107 = .ok (.goto (-85), 3) := by decide +kernel
theorem dX5_proof_110 : decode cX5_proof 110 = .ok (.aload_n 0, 1) := by decide +kernel
theorem dX5_proof_111 : decode cX5_proof 111 = .ok (.iconst (-1), 1) := by decide +kernel
theorem dX5_proof_112 : decode cX5_proof 112 = .ok (.invokevirtual 100, 3) := by decide +kernel
theorem dX5_proof_115 : decode cX5_proof 115 = .ok (.ireturn, 1) := by decide +kernel
theorem dX5_inHeap_0 : decode cX5_inHeap 0 = .ok (.iload_n 1, 1) := by decide +kernel
theorem dX5_inHeap_1 : decode cX5_inHeap 1 = .ok (.i2l, 1) := by decide +kernel
theorem dX5_inHeap_2 : decode cX5_inHeap 2 = .ok (.lconst 0, 1) := by decide +kernel
theorem dX5_inHeap_3 : decode cX5_inHeap 3 = .ok (.aload_n 0, 1) := by decide +kernel
theorem dX5_inHeap_4 : decode cX5_inHeap 4 = .ok (.getfield 7, 3) := by decide +kernel
theorem dX5_inHeap_7 : decode cX5_inHeap 7 = .ok (.sipush 1265, 3) := by decide +kernel
theorem dX5_inHeap_10 : decode cX5_inHeap 10 = .ok (.iaload, 1) := by decide +kernel
theorem dX5_inHeap_11 : decode cX5_inHeap 11 = .ok (.i2l, 1) := by decide +kernel
theorem dX5_inHeap_12 : decode cX5_inHeap 12 = .ok (.lconst 1, 1) := by decide +kernel
theorem dX5_inHeap_13 : decode cX5_inHeap 13 = .ok (.lsub, 1) := by decide +kernel
theorem dX5_inHeap_14 : decode cX5_inHeap 14 = .ok (.invokestatic 40, 3) := by decide +kernel
theorem dX5_inHeap_17 : decode cX5_inHeap 17 = .ok (.ifCond .eq 20, 3) := by decide +kernel
theorem dX5_inHeap_20 : decode cX5_inHeap 20 = .ok (.aload_n 0, 1) := by decide +kernel
theorem dX5_inHeap_21 : decode cX5_inHeap 21 = .ok (.aload_n 0, 1) := by decide +kernel
theorem dX5_inHeap_22 : decode cX5_inHeap 22 = .ok (.getfield 7, 3) := by decide +kernel
theorem dX5_inHeap_25 : decode cX5_inHeap 25 = .ok (.sipush 1266, 3) := by decide +kernel
theorem dX5_inHeap_28 : decode cX5_inHeap 28 = .ok (.iload_n 1, 1) := by decide +kernel
theorem dX5_inHeap_29 : decode cX5_inHeap 29 = .ok (.iadd, 1) := by decide +kernel
theorem dX5_inHeap_30 : decode cX5_inHeap 30 = .ok (.iaload, 1) := by decide +kernel
theorem dX5_inHeap_31 : decode cX5_inHeap 31 = .ok (.invokevirtual 100, 3) := by decide +kernel
theorem dX5_inHeap_34 : decode cX5_inHeap 34 = .ok (.goto 8, 3) := by decide +kernel
theorem dX5_inHeap_37 : decode cX5_inHeap 37 = .ok (.aload_n 0, 1) := by decide +kernel
theorem dX5_inHeap_38 : decode cX5_inHeap 38 = .ok (.iconst 1, 1) := by decide +kernel
theorem dX5_inHeap_39 : decode cX5_inHeap 39 = .ok (.invokevirtual 86, 3) := by decide +kernel
theorem dX5_inHeap_42 : decode cX5_inHeap 42 = .ok (.ireturn, 1) := by decide +kernel
theorem dX5_errorsIfSet_0 : decode cX5_errorsIfSet 0 = .ok (.aload_n 0, 1) := by decide +kernel
theorem dX5_errorsIfSet_1 : decode cX5_errorsIfSet 1 = .ok (.invokevirtual 147, 3) := by decide +kernel
theorem dX5_errorsIfSet_4 : decode cX5_errorsIfSet 4 = .ok (.aload_n 0, 1) := by decide +kernel
theorem dX5_errorsIfSet_5 : decode cX5_errorsIfSet 5 = .ok (.invokevirtual 150, 3) := by decide +kernel
theorem dX5_errorsIfSet_8 : decode cX5_errorsIfSet 8 = .ok (.ifCond .eq 10, 3) := by decide +kernel
theorem dX5_errorsIfSet_11 : decode cX5_errorsIfSet 11 = .ok (.aload_n 0, 1) := by decide +kernel
theorem dX5_errorsIfSet_12 : decode cX5_errorsIfSet 12 = .ok (.invokevirtual 184, 3) := by decide +kernel
theorem dX5_errorsIfSet_15 : decode cX5_errorsIfSet 15 = .ok (.goto 4, 3) := by decide +kernel
theorem dX5_errorsIfSet_18 : decode cX5_errorsIfSet 18 = .ok (.iconst (-1), 1) := by decide +kernel
theorem dX5_errorsIfSet_19 : decode cX5_errorsIfSet 19 = .ok (.istore_n 1, 1) := by decide +kernel
theorem dX5_errorsIfSet_20 : decode cX5_errorsIfSet 20 = .ok (.aload_n 0, 1) := by decide +kernel
theorem dX5_errorsIfSet_21 : decode cX5_errorsIfSet 21 = .ok (.invokevirtual 154, 3) := by decide +kernel
theorem dX5_errorsIfSet_24 : decode cX5_errorsIfSet 24 = .ok (.aload_n 0, 1) := by decide +kernel
theorem dX5_errorsIfSet_25 : decode cX5_errorsIfSet 25 = .ok (.iload_n 1, 1) := by decide +kernel
theorem dX5_errorsIfSet_26 : decode cX5_errorsIfSet 26 = .ok (.invokevirtual 100, 3) := by decide +kernel
theorem dX5_errorsIfSet_29 : decode cX5_errorsIfSet 29 = .ok (.ireturn, 1) := by decide +kernel
theorem dX5_turnedIfSet_0 : decode cX5_turnedIfSet 0 = .ok (.aload_n 0, 1) := by decide +kernel
theorem dX5_turnedIfSet_1 : decode cX5_turnedIfSet 1 = .ok (.invokevirtual 147, 3) := by decide +kernel
theorem dX5_turnedIfSet_4 : decode cX5_turnedIfSet 4 = .ok (.aload_n 0, 1) := by decide +kernel
theorem dX5_turnedIfSet_5 : decode cX5_turnedIfSet 5 = .ok (.invokevirtual 150, 3) := by decide +kernel
theorem dX5_turnedIfSet_8 : decode cX5_turnedIfSet 8 = .ok (.ifCond .eq 10, 3) := by decide +kernel
theorem dX5_turnedIfSet_11 : decode cX5_turnedIfSet 11 = .ok (.aload_n 0, 1) := by decide +kernel
theorem dX5_turnedIfSet_12 : decode cX5_turnedIfSet 12 = .ok (.invokevirtual 187, 3) := by decide +kernel
theorem dX5_turnedIfSet_15 : decode cX5_turnedIfSet 15 = .ok (.goto 4, 3) := by decide +kernel
theorem dX5_turnedIfSet_18 : decode cX5_turnedIfSet 18 = .ok (.iconst (-1), 1) := by decide +kernel
theorem dX5_turnedIfSet_19 : decode cX5_turnedIfSet 19 = .ok (.istore_n 1, 1) := by decide +kernel
theorem dX5_turnedIfSet_20 : decode cX5_turnedIfSet 20 = .ok (.aload_n 0, 1) := by decide +kernel
theorem dX5_turnedIfSet_21 : decode cX5_turnedIfSet 21 = .ok (.invokevirtual 154, 3) := by decide +kernel
theorem dX5_turnedIfSet_24 : decode cX5_turnedIfSet 24 = .ok (.aload_n 0, 1) := by decide +kernel
theorem dX5_turnedIfSet_25 : decode cX5_turnedIfSet 25 = .ok (.iload_n 1, 1) := by decide +kernel
theorem dX5_turnedIfSet_26 : decode cX5_turnedIfSet 26 = .ok (.invokevirtual 100, 3) := by decide +kernel
theorem dX5_turnedIfSet_29 : decode cX5_turnedIfSet 29 = .ok (.ireturn, 1) := by decide +kernel
theorem dX5_copies_0 : decode cX5_copies 0 = .ok (.aload_n 0, 1) := by decide +kernel
theorem dX5_copies_1 : decode cX5_copies 1 = .ok (.getfield 103, 3) := by decide +kernel
theorem dX5_copies_4 : decode cX5_copies 4 = .ok (.ifCond .ne 9, 3) := by decide +kernel
theorem dX5_copies_7 : decode cX5_copies 7 = .ok (.aload_n 0, 1) := by decide +kernel
theorem dX5_copies_8 : decode cX5_copies 8 = .ok (.iconst (-1), 1) := by decide +kernel
theorem dX5_copies_9 : decode cX5_copies 9 = .ok (.invokevirtual 100, 3) := by decide +kernel
theorem dX5_copies_12 : decode cX5_copies 12 = .ok (.ireturn, 1) := by decide +kernel
theorem dX5_copies_13 : decode cX5_copies 13 = .ok (.aload_n 0, 1) := by decide +kernel
theorem dX5_copies_14 : decode cX5_copies 14 = .ok (.invokevirtual 147, 3) := by decide +kernel
theorem dX5_copies_17 : decode cX5_copies 17 = .ok (.iconst 0, 1) := by decide +kernel
theorem dX5_copies_18 : decode cX5_copies 18 = .ok (.istore_n 1, 1) := by decide +kernel
theorem dX5_copies_19 : decode cX5_copies 19 = .ok (.aload_n 0, 1) := by decide +kernel
theorem dX5_copies_20 : decode cX5_copies 20 = .ok (.invokevirtual 150, 3) := by decide +kernel
theorem dX5_copies_23 : decode cX5_copies 23 = .ok (.ifCond .eq 16, 3) := by decide +kernel
theorem dX5_copies_26 : decode cX5_copies 26 = .ok (.aload_n 0, 1) := by decide +kernel
theorem dX5_copies_27 : decode cX5_copies 27 = .ok (.invokevirtual 184, 3) := by decide +kernel
theorem dX5_copies_30 : decode cX5_copies 30 = .ok (.ifCond .ne 9, 3) := by decide +kernel
theorem dX5_copies_33 : decode cX5_copies 33 = .ok (.iinc 1 1, 3) := by decide +kernel
theorem dX5_copies_36 : decode cX5_copies 36 = .ok (.goto (-17), 3) := by decide +kernel
theorem dX5_copies_39 : decode cX5_copies 39 = .ok (.aload_n 0, 1) := by decide +kernel
theorem dX5_copies_40 : decode cX5_copies 40 = .ok (.invokevirtual 154, 3) := by decide +kernel
theorem dX5_copies_43 : decode cX5_copies 43 = .ok (.aload_n 0, 1) := by decide +kernel
theorem dX5_copies_44 : decode cX5_copies 44 = .ok (.iload_n 1, 1) := by decide +kernel
theorem dX5_copies_45 : decode cX5_copies 45 = .ok (.invokevirtual 100, 3) := by decide +kernel
theorem dX5_copies_48 : decode cX5_copies 48 = .ok (.ireturn, 1) := by decide +kernel
theorem dX5_bestToDistribute_0 : decode cX5_bestToDistribute 0 = .ok (.iconst (-1), 1) := by decide +kernel
theorem dX5_bestToDistribute_1 : decode cX5_bestToDistribute 1 = .ok (.istore_n 1, 1) := by decide +kernel
theorem dX5_bestToDistribute_2 : decode cX5_bestToDistribute 2 = .ok (.bipush 17, 2) := by decide +kernel
theorem dX5_bestToDistribute_4 : decode cX5_bestToDistribute 4 = .ok (.istore_n 2, 1) := by decide +kernel
theorem dX5_bestToDistribute_5 : decode cX5_bestToDistribute 5 = .ok (.iconst 0, 1) := by decide +kernel
theorem dX5_bestToDistribute_6 : decode cX5_bestToDistribute 6 = .ok (.istore_n 3, 1) := by decide +kernel
theorem dX5_bestToDistribute_7 : decode cX5_bestToDistribute 7 = .ok (.iload_n 3, 1) := by decide +kernel
theorem dX5_bestToDistribute_8 : decode cX5_bestToDistribute 8 = .ok (.iconst 3, 1) := by decide +kernel
theorem dX5_bestToDistribute_9 : decode cX5_bestToDistribute 9 = .ok (.if_icmp .ge 76, 3) := by decide +kernel
theorem dX5_bestToDistribute_12 : decode cX5_bestToDistribute 12 = .ok (.aload_n 0, 1) := by decide +kernel
theorem dX5_bestToDistribute_13 : decode cX5_bestToDistribute 13 = .ok (.invokevirtual 147, 3) := by decide +kernel
theorem dX5_bestToDistribute_16 : decode cX5_bestToDistribute 16 = .ok (.aload_n 0, 1) := by decide +kernel
theorem dX5_bestToDistribute_17 : decode cX5_bestToDistribute 17 = .ok (.iload_n 3, 1) := by decide +kernel
theorem dX5_bestToDistribute_18 : decode cX5_bestToDistribute 18 = .ok (.invokevirtual 167, 3) := by decide +kernel
theorem dX5_bestToDistribute_21 : decode cX5_bestToDistribute 21 = .ok (.istore 4, 2) := by decide +kernel
theorem dX5_bestToDistribute_23 : decode cX5_bestToDistribute 23 = .ok (.aload_n 0, 1) := by decide +kernel
theorem dX5_bestToDistribute_24 : decode cX5_bestToDistribute 24 = .ok (.invokevirtual 150, 3) := by decide +kernel
theorem dX5_bestToDistribute_27 : decode cX5_bestToDistribute 27 = .ok (.ifCond .eq 10, 3) := by decide +kernel
theorem dX5_bestToDistribute_30 : decode cX5_bestToDistribute 30 = .ok (.aload_n 0, 1) := by decide +kernel
theorem dX5_bestToDistribute_31 : decode cX5_bestToDistribute 31 = .ok (.invokevirtual 184, 3) := by decide +kernel
theorem dX5_bestToDistribute_34 : decode cX5_bestToDistribute 34 = .ok (.goto 14, 3) := by decide +kernel
theorem dX5_bestToDistribute_37 : decode cX5_bestToDistribute 37 = .ok (.iload 4, 2) := by decide +kernel
theorem dX5_bestToDistribute_39 : decode cX5_bestToDistribute 39 = .ok (.ifCond .ge 7, 3) := by decide +kernel
theorem dX5_bestToDistribute_42 : decode cX5_bestToDistribute 42 = .ok (.iconst 0, 1) := by decide +kernel
theorem dX5_bestToDistribute_43 : decode cX5_bestToDistribute 43 = .ok (.goto 5, 3) := by decide +kernel
theorem dX5_bestToDistribute_46 : decode cX5_bestToDistribute 46 = .ok (.bipush 17, 2) := by decide +kernel
theorem dX5_bestToDistribute_48 : decode cX5_bestToDistribute 48 = .ok (.istore 5, 2) := by decide +kernel
theorem dX5_bestToDistribute_50 : decode cX5_bestToDistribute 50 = .ok (.aload_n 0, 1) := by decide +kernel
theorem dX5_bestToDistribute_51 : decode cX5_bestToDistribute 51 = .ok (.invokevirtual 154, 3) := by decide +kernel
theorem dX5_bestToDistribute_54 : decode cX5_bestToDistribute 54 = .ok (.iload 5, 2) := by decide +kernel
theorem dX5_bestToDistribute_56 : decode cX5_bestToDistribute 56 = .ok (.iload_n 2, 1) := by decide +kernel
theorem dX5_bestToDistribute_57 : decode cX5_bestToDistribute 57 = .ok (.if_icmp .ge 7, 3) := by decide +kernel
theorem dX5_bestToDistribute_60 : decode cX5_bestToDistribute 60 = .ok (.iload_n 3, 1) := by decide +kernel
theorem dX5_bestToDistribute_61 : decode cX5_bestToDistribute 61 = .ok (.goto 4, 3) := by decide +kernel
theorem dX5_bestToDistribute_64 : decode cX5_bestToDistribute 64 = .ok (.iload_n 1, 1) := by decide +kernel
theorem dX5_bestToDistribute_65 : decode cX5_bestToDistribute 65 = .ok (.istore_n 1, 1) := by decide +kernel
theorem dX5_bestToDistribute_66 : decode cX5_bestToDistribute 66 = .ok (.iload 5, 2) := by decide +kernel
theorem dX5_bestToDistribute_68 : decode cX5_bestToDistribute 68 = .ok (.iload_n 2, 1) := by decide +kernel
theorem dX5_bestToDistribute_69 : decode cX5_bestToDistribute 69 = .ok (.if_icmp .ge 8, 3) := by decide +kernel
theorem dX5_bestToDistribute_72 : decode cX5_bestToDistribute 72 = .ok (.iload 5, 2) := by decide +kernel
theorem dX5_bestToDistribute_74 : decode cX5_bestToDistribute 74 = .ok (.goto 4, 3) := by decide +kernel
theorem dX5_bestToDistribute_77 : decode cX5_bestToDistribute 77 = .ok (.iload_n 2, 1) := by decide +kernel
theorem dX5_bestToDistribute_78 : decode cX5_bestToDistribute 78 = .ok (.istore_n 2, 1) := by decide +kernel
theorem dX5_bestToDistribute_79 : decode cX5_bestToDistribute 79 = .ok (.iinc 3 1, 3) := by decide +kernel
theorem dX5_bestToDistribute_82 : decode cX5_bestToDistribute 82 = .ok (.goto (-75), 3) := by decide +kernel
theorem dX5_bestToDistribute_85 : decode cX5_bestToDistribute 85 = .ok (.aload_n 0, 1) := by decide +kernel
theorem dX5_bestToDistribute_86 : decode cX5_bestToDistribute 86 = .ok (.iload_n 1, 1) := by decide +kernel
theorem dX5_bestToDistribute_87 : decode cX5_bestToDistribute 87 = .ok (.invokevirtual 100, 3) := by decide +kernel
theorem dX5_bestToDistribute_90 : decode cX5_bestToDistribute 90 = .ok (.ireturn, 1) := by decide +kernel
theorem dX5_order_0 : decode cX5_order 0 = .ok (.aload_n 0, 1) := by decide +kernel
theorem dX5_order_1 : decode cX5_order 1 = .ok (.iconst 0, 1) := by decide +kernel
theorem dX5_order_2 : decode cX5_order 2 = .ok (.putfield 31, 3) := by decide +kernel
theorem dX5_order_5 : decode cX5_order 5 = .ok (.aload_n 0, 1) := by decide +kernel
theorem dX5_order_6 : decode cX5_order 6 = .ok (.invokevirtual 71, 3) := by decide +kernel
theorem dX5_order_9 : decode cX5_order 9 = .ok (.istore_n 1, 1) := by decide +kernel
theorem dX5_order_10 : decode cX5_order 10 = .ok (.iload_n 1, 1) := by decide +kernel
theorem dX5_order_11 : decode cX5_order 11 = .ok (.aload_n 0, 1) := by decide +kernel
theorem dX5_order_12 : decode cX5_order 12 = .ok (.invokevirtual 133, 3) := by decide +kernel
theorem dX5_order_15 : decode cX5_order 15 = .ok (.isub, 1) := by decide +kernel
theorem dX5_order_16 : decode cX5_order 16 = .ok (.i2d, 1) := by decide +kernel
theorem dX5_order_17 : decode cX5_order 17 = .ok (.dstore_n 2, 1) := by decide +kernel
theorem dX5_order_18 : decode cX5_order 18 = .ok (.iload_n 1, 1) := by decide +kernel
theorem dX5_order_19 : decode cX5_order 19 = .ok (.i2d, 1) := by decide +kernel
theorem dX5_order_20 : decode cX5_order 20 = .ok (.dstore 4, 2) := by decide +kernel
theorem dX5_order_22 : decode cX5_order 22 = .ok (.iload_n 1, 1) := by decide +kernel
theorem dX5_order_23 : decode cX5_order 23 = .ok (.ifCond .ne 7, 3) := by decide +kernel
theorem dX5_order_26 : decode cX5_order 26 = .ok (.dconst 1, 1) := by decide +kernel
theorem dX5_order_27 : decode cX5_order 27 = .ok (.goto 7, 3) := by decide +kernel
theorem dX5_order_30 : decode cX5_order 30 = .ok (.dload_n 2, 1) := by decide +kernel
theorem dX5_order_31 : decode cX5_order 31 = .ok (.dload 4, 2) := by decide +kernel
theorem dX5_order_33 : decode cX5_order 33 = .ok (.ddiv, 1) := by decide +kernel
theorem dX5_order_34 : decode cX5_order 34 = .ok (.dreturn, 1) := by decide +kernel
theorem dX5_append_0 : decode cX5_append 0 = .ok (.iload_n 1, 1) := by decide +kernel
theorem dX5_append_1 : decode cX5_append 1 = .ok (.bipush 32, 2) := by decide +kernel
theorem dX5_append_3 : decode cX5_append 3 = .ok (.if_icmp .eq 23, 3) := by decide +kernel
theorem dX5_append_6 : decode cX5_append 6 = .ok (.iload_n 1, 1) := by decide +kernel
theorem dX5_append_7 : decode cX5_append 7 = .ok (.i2l, 1) := by decide +kernel
theorem dX5_append_8 : decode cX5_append 8 = .ok (.ldc2_w 190, 3) := by decide +kernel
theorem dX5_append_11 : decode cX5_append 11 = .ok (.ldc2_w 192, 3) := by decide +kernel
theorem dX5_append_14 : decode cX5_append 14 = .ok (.invokestatic 40, 3) := by decide +kernel
theorem dX5_append_17 : decode cX5_append 17 = .ok (.ifCond .ne 9, 3) := by decide +kernel
theorem dX5_append_20 : decode cX5_append 20 = .ok (.aload_n 0, 1) := by decide +kernel
theorem dX5_append_21 : decode cX5_append 21 = .ok (.iconst 1, 1) := by decide +kernel
theorem dX5_append_22 : decode cX5_append 22 = .ok (.invokevirtual 86, 3) := by decide +kernel
theorem dX5_append_25 : decode cX5_append 25 = .ok (.ireturn, 1) := by decide +kernel
theorem dX5_append_26 : decode cX5_append 26 = .ok (.aload_n 0, 1) := by decide +kernel
theorem dX5_append_27 : decode cX5_append 27 = .ok (.getfield 103, 3) := by decide +kernel
theorem dX5_append_30 : decode cX5_append 30 = .ok (.bipush 16, 2) := by decide +kernel
theorem dX5_append_32 : decode cX5_append 32 = .ok (.if_icmp .ne 9, 3) := by decide +kernel
theorem dX5_append_35 : decode cX5_append 35 = .ok (.aload_n 0, 1) := by decide +kernel
theorem dX5_append_36 : decode cX5_append 36 = .ok (.iconst 2, 1) := by decide +kernel
theorem dX5_append_37 : decode cX5_append 37 = .ok (.invokevirtual 86, 3) := by decide +kernel
theorem dX5_append_40 : decode cX5_append 40 = .ok (.ireturn, 1) := by decide +kernel
theorem dX5_append_41 : decode cX5_append 41 = .ok (.aload_n 0, 1) := by decide +kernel
theorem dX5_append_42 : decode cX5_append 42 = .ok (.getfield 19, 3) := by decide +kernel
theorem dX5_append_45 : decode cX5_append 45 = .ok (.aload_n 0, 1) := by decide +kernel
theorem dX5_append_46 : decode cX5_append 46 = .ok (.getfield 103, 3) := by decide +kernel
theorem dX5_append_49 : decode cX5_append 49 = .ok (.iload_n 1, 1) := by decide +kernel
theorem dX5_append_50 : decode cX5_append 50 = .ok (.bipush 32, 2) := by decide +kernel
theorem dX5_append_52 : decode cX5_append 52 = .ok (.if_icmp .ne 8, 3) := by decide +kernel
theorem dX5_append_55 : decode cX5_append 55 = .ok (.bipush 26, 2) := by decide +kernel
theorem dX5_append_57 : decode cX5_append 57 = .ok (.goto 7, 3) := by decide +kernel
theorem dX5_append_60 : decode cX5_append 60 = .ok (.iload_n 1, 1) := by decide +kernel
theorem dX5_append_61 : decode cX5_append 61 = .ok (.bipush 97, 2) := by decide +kernel
theorem dX5_append_63 : decode cX5_append 63 = .ok (.isub, 1) := by decide +kernel
theorem dX5_append_64 : decode cX5_append 64 = .ok (.iastore, 1) := by decide +kernel
theorem dX5_append_65 : decode cX5_append 65 = .ok (.aload_n 0, 1) := by decide +kernel
theorem dX5_append_66 : decode cX5_append 66 = .ok (.dup, 1) := by decide +kernel
theorem dX5_append_67 : decode cX5_append 67 = .ok (.getfield 103, 3) := by decide +kernel
theorem dX5_append_70 : decode cX5_append 70 = .ok (.iconst 1, 1) := by decide +kernel
theorem dX5_append_71 : decode cX5_append 71 = .ok (.iadd, 1) := by decide +kernel
theorem dX5_append_72 : decode cX5_append 72 = .ok (.putfield 103, 3) := by decide +kernel
theorem dX5_append_75 : decode cX5_append 75 = .ok (.aload_n 0, 1) := by decide +kernel
theorem dX5_append_76 : decode cX5_append 76 = .ok (.aload_n 0, 1) := by decide +kernel
