theorem dX4_spill_17 : decode cX4_spill 17 = .ok (.ldc 74, 2) := by decide +kernel
theorem dX4_spill_19 : decode cX4_spill 19 = .ok (.invokespecial 76, 3) := by decide +kernel
theorem dX4_spill_22 : decode cX4_spill 22 = .ok (.athrow, 1) := by decide +kernel
theorem dX4_spill_23 : decode cX4_spill 23 = .ok (.iload_n 3, 1) := by decide +kernel
theorem dX4_spill_24 : decode cX4_spill 24 = .ok (.iconst 1, 1) := by decide +kernel
theorem dX4_spill_25 : decode cX4_spill 25 = .ok (.bipush 30, 2) := by decide +kernel
theorem dX4_spill_27 : decode cX4_spill 27 = .ok (.invokestatic 45, 3) := by decide +kernel
theorem dX4_spill_30 : decode cX4_spill 30 = .ok (.aload_n 0, 1) := by decide +kernel
theorem dX4_spill_31 : decode cX4_spill 31 = .ok (.getfield 10, 3) := by decide +kernel
theorem dX4_spill_34 : decode cX4_spill 34 = .ok (.iload_n 1, 1) := by decide +kernel
theorem dX4_spill_35 : decode cX4_spill 35 = .ok (.invokevirtual 60, 3) := by decide +kernel
theorem dX4_spill_38 : decode cX4_spill 38 = .ok (.invokevirtual 64, 3) := by decide +kernel
theorem dX4_spill_41 : decode cX4_spill 41 = .ok (.iload_n 3, 1) := by decide +kernel
theorem dX4_spill_42 : decode cX4_spill 42 = .ok (.if_icmp .ge 13, 3) := by decide +kernel
theorem dX4_spill_45 : decode cX4_spill 45 = .ok (.new 79, 3) := by decide +kernel
theorem dX4_spill_48 : decode cX4_spill 48 = .ok (.dup, 1) := by decide +kernel
theorem dX4_spill_49 : decode cX4_spill 49 = .ok (.ldc 81, 2) := by decide +kernel
theorem dX4_spill_51 : decode cX4_spill 51 = .ok (.invokespecial 83, 3) := by decide +kernel
theorem dX4_spill_54 : decode cX4_spill 54 = .ok (.athrow, 1) := by decide +kernel
theorem dX4_spill_55 : decode cX4_spill 55 = .ok (.aload_n 0, 1) := by decide +kernel
theorem dX4_spill_56 : decode cX4_spill 56 = .ok (.getfield 28, 3) := by decide +kernel
theorem dX4_spill_59 : decode cX4_spill 59 = .ok (.aload_n 0, 1) := by decide +kernel
theorem dX4_spill_60 : decode cX4_spill 60 = .ok (.getfield 10, 3) := by decide +kernel
theorem dX4_spill_63 : decode cX4_spill 63 = .ok (.invokevirtual 52, 3) := by decide +kernel
theorem dX4_spill_66 : decode cX4_spill 66 = .ok (.aload_n 0, 1) := by decide +kernel
theorem dX4_spill_67 : decode cX4_spill 67 = .ok (.getfield 10, 3) := by decide +kernel
theorem dX4_spill_70 : decode cX4_spill 70 = .ok (.iload_n 1, 1) := by decide +kernel
theorem dX4_spill_71 : decode cX4_spill 71 = .ok (.iload_n 2, 1) := by decide +kernel
theorem dX4_spill_72 : decode cX4_spill 72 = .ok (.iload_n 3, 1) := by decide +kernel
theorem dX4_spill_73 : decode cX4_spill 73 = .ok (.invokevirtual 84, 3) := by decide +kernel
theorem dX4_spill_76 : decode cX4_spill 76 = .ok (.aload_n 0, 1) := by decide +kernel
theorem dX4_spill_77 : decode cX4_spill 77 = .ok (.getfield 10, 3) := by decide +kernel
theorem dX4_spill_80 : decode cX4_spill 80 = .ok (.iload_n 1, 1) := by decide +kernel
theorem dX4_spill_81 : decode cX4_spill 81 = .ok (.invokevirtual 60, 3) := by decide +kernel
theorem dX4_spill_84 : decode cX4_spill 84 = .ok (.invokevirtual 64, 3) := by decide +kernel
theorem dX4_spill_87 : decode cX4_spill 87 = .ok (.ireturn, 1) := by decide +kernel
theorem dX4_clean_0 : decode cX4_clean 0 = .ok (.iload_n 1, 1) := by decide +kernel
theorem dX4_clean_1 : decode cX4_clean 1 = .ok (.invokestatic 42, 3) := by decide +kernel
theorem dX4_clean_4 : decode cX4_clean 4 = .ok (.aload_n 0, 1) := by decide +kernel
theorem dX4_clean_5 : decode cX4_clean 5 = .ok (.getfield 28, 3) := by decide +kernel
theorem dX4_clean_8 : decode cX4_clean 8 = .ok (.aload_n 0, 1) := by decide +kernel
theorem dX4_clean_9 : decode cX4_clean 9 = .ok (.getfield 10, 3) := by decide +kernel
theorem dX4_clean_12 : decode cX4_clean 12 = .ok (.invokevirtual 52, 3) := by decide +kernel
theorem dX4_clean_15 : decode cX4_clean 15 = .ok (.aload_n 0, 1) := by decide +kernel
theorem dX4_clean_16 : decode cX4_clean 16 = .ok (.getfield 10, 3) := by decide +kernel
theorem dX4_clean_19 : decode cX4_clean 19 = .ok (.iload_n 1, 1) := by decide +kernel
theorem dX4_clean_20 : decode cX4_clean 20 = .ok (.invokevirtual 87, 3) := by decide +kernel
theorem dX4_clean_23 : decode cX4_clean 23 = .ok (.ireturn, 1) := by decide +kernel
theorem dX4_set_0 : decode cX4_set 0 = .ok (.iload_n 1, 1) := by decide +kernel
theorem dX4_set_1 : decode cX4_set 1 = .ok (.ifCond .eq 10, 3) := by decide +kernel
theorem dX4_set_4 : decode cX4_set 4 = .ok (.iload_n 1, 1) := by decide +kernel
theorem dX4_set_5 : decode cX4_set 5 = .ok (.iconst 2, 1) := by decide +kernel
theorem dX4_set_6 : decode cX4_set 6 = .ok (.bipush 50, 2) := by decide +kernel
theorem dX4_set_8 : decode cX4_set 8 = .ok (.invokestatic 45, 3) := by decide +kernel
theorem dX4_set_11 : decode cX4_set 11 = .ok (.iload_n 2, 1) := by decide +kernel
theorem dX4_set_12 : decode cX4_set 12 = .ok (.iconst 0, 1) := by decide +kernel
theorem dX4_set_13 : decode cX4_set 13 = .ok (.bipush 99, 2) := by decide +kernel
theorem dX4_set_15 : decode cX4_set 15 = .ok (.invokestatic 45, 3) := by decide +kernel
theorem dX4_set_18 : decode cX4_set 18 = .ok (.aload_n 0, 1) := by decide +kernel
theorem dX4_set_19 : decode cX4_set 19 = .ok (.getfield 28, 3) := by decide +kernel
theorem dX4_set_22 : decode cX4_set 22 = .ok (.aload_n 0, 1) := by decide +kernel
theorem dX4_set_23 : decode cX4_set 23 = .ok (.getfield 10, 3) := by decide +kernel
theorem dX4_set_26 : decode cX4_set 26 = .ok (.invokevirtual 52, 3) := by decide +kernel
theorem dX4_set_29 : decode cX4_set 29 = .ok (.aload_n 0, 1) := by decide +kernel
theorem dX4_set_30 : decode cX4_set 30 = .ok (.getfield 10, 3) := by decide +kernel
theorem dX4_set_33 : decode cX4_set 33 = .ok (.getfield 90, 3) := by decide +kernel
theorem dX4_set_36 : decode cX4_set 36 = .ok (.istore_n 3, 1) := by decide +kernel
theorem dX4_set_37 : decode cX4_set 37 = .ok (.aload_n 0, 1) := by decide +kernel
theorem dX4_set_38 : decode cX4_set 38 = .ok (.getfield 10, 3) := by decide +kernel
theorem dX4_set_41 : decode cX4_set 41 = .ok (.iload_n 1, 1) := by decide +kernel
theorem dX4_set_42 : decode cX4_set 42 = .ok (.putfield 90, 3) := by decide +kernel
theorem dX4_set_45 : decode cX4_set 45 = .ok (.aload_n 0, 1) := by decide +kernel
theorem dX4_set_46 : decode cX4_set 46 = .ok (.getfield 10, 3) := by decide +kernel
theorem dX4_set_49 : decode cX4_set 49 = .ok (.iload_n 2, 1) := by decide +kernel
theorem dX4_set_50 : decode cX4_set 50 = .ok (.putfield 94, 3) := by decide +kernel
theorem dX4_set_53 : decode cX4_set 53 = .ok (.iload_n 3, 1) := by decide +kernel
theorem dX4_set_54 : decode cX4_set 54 = .ok (.ireturn, 1) := by decide +kernel
theorem dX4_letter_0 : decode cX4_letter 0 = .ok (.iload_n 1, 1) := by decide +kernel
theorem dX4_letter_1 : decode cX4_letter 1 = .ok (.invokestatic 42, 3) := by decide +kernel
theorem dX4_letter_4 : decode cX4_letter 4 = .ok (.iload_n 2, 1) := by decide +kernel
theorem dX4_letter_5 : decode cX4_letter 5 = .ok (.iconst 0, 1) := by decide +kernel
theorem dX4_letter_6 : decode cX4_letter 6 = .ok (.bipush 7, 2) := by decide +kernel
theorem dX4_letter_8 : decode cX4_letter 8 = .ok (.invokestatic 45, 3) := by decide +kernel
theorem dX4_letter_11 : decode cX4_letter 11 = .ok (.aload_n 0, 1) := by decide +kernel
theorem dX4_letter_12 : decode cX4_letter 12 = .ok (.iload_n 1, 1) := by decide +kernel
theorem dX4_letter_13 : decode cX4_letter 13 = .ok (.iload_n 2, 1) := by decide +kernel
theorem dX4_letter_14 : decode cX4_letter 14 = .ok (.invokevirtual 97, 3) := by decide +kernel
theorem dX4_letter_17 : decode cX4_letter 17 = .ok (.ireturn, 1) := by decide +kernel
theorem dX4_inBox_0 : decode cX4_inBox 0 = .ok (.iload_n 1, 1) := by decide +kernel
theorem dX4_inBox_1 : decode cX4_inBox 1 = .ok (.invokestatic 42, 3) := by decide +kernel
theorem dX4_inBox_4 : decode cX4_inBox 4 = .ok (.aload_n 0, 1) := by decide +kernel
theorem dX4_inBox_5 : decode cX4_inBox 5 = .ok (.getfield 10, 3) := by decide +kernel
theorem dX4_inBox_8 : decode cX4_inBox 8 = .ok (.iload_n 1, 1) := by decide +kernel
theorem dX4_inBox_9 : decode cX4_inBox 9 = .ok (.invokevirtual 60, 3) := by decide +kernel
theorem dX4_inBox_12 : decode cX4_inBox 12 = .ok (.astore_n 3, 1) := by decide +kernel
theorem dX4_inBox_13 : decode cX4_inBox 13 = .ok (.iload_n 2, 1) := by decide +kernel
theorem dX4_inBox_14 : decode cX4_inBox 14 = .ok (.aload_n 3, 1) := by decide +kernel
theorem dX4_inBox_15 : decode cX4_inBox 15 = .ok (.invokevirtual 64, 3) := by decide +kernel
theorem dX4_inBox_18 : decode cX4_inBox 18 = .ok (.invokestatic 101, 3) := by decide +kernel
theorem dX4_inBox_21 : decode cX4_inBox 21 = .ok (.aload_n 3, 1) := by decide +kernel
theorem dX4_inBox_22 : decode cX4_inBox 22 = .ok (.aload_n 3, 1) := by decide +kernel
theorem dX4_inBox_23 : decode cX4_inBox 23 = .ok (.invokevirtual 64, 3) := by decide +kernel
theorem dX4_inBox_26 : decode cX4_inBox 26 = .ok (.iconst 1, 1) := by decide +kernel
theorem dX4_inBox_27 : decode cX4_inBox 27 = .ok (.isub, 1) := by decide +kernel
theorem dX4_inBox_28 : decode cX4_inBox 28 = .ok (.iload_n 2, 1) := by decide +kernel
theorem dX4_inBox_29 : decode cX4_inBox 29 = .ok (.isub, 1) := by decide +kernel
theorem dX4_inBox_30 : decode cX4_inBox 30 = .ok (.invokevirtual 104, 3) := by decide +kernel
theorem dX4_inBox_33 : decode cX4_inBox 33 = .ok (.ireturn, 1) := by decide +kernel
theorem dX4_value_0 : decode cX4_value 0 = .ok (.iload_n 1, 1) := by decide +kernel
theorem dX4_value_1 : decode cX4_value 1 = .ok (.iconst 0, 1) := by decide +kernel
theorem dX4_value_2 : decode cX4_value 2 = .ok (.bipush 11, 2) := by decide +kernel
theorem dX4_value_4 : decode cX4_value 4 = .ok (.invokestatic 45, 3) := by decide +kernel
theorem dX4_value_7 : decode cX4_value 7 = .ok (.aload_n 0, 1) := by decide +kernel
theorem dX4_value_8 : decode cX4_value 8 = .ok (.getfield 10, 3) := by decide +kernel
theorem dX4_value_11 : decode cX4_value 11 = .ok (.iload_n 1, 1) := by decide +kernel
theorem dX4_value_12 : decode cX4_value 12 = .ok (.invokevirtual 107, 3) := by decide +kernel
theorem dX4_value_15 : decode cX4_value 15 = .ok (.ireturn, 1) := by decide +kernel
theorem dX4_setLine_0 : decode cX4_setLine 0 = .ok (.iload_n 1, 1) := by decide +kernel
theorem dX4_setLine_1 : decode cX4_setLine 1 = .ok (.invokestatic 110, 3) := by decide +kernel
theorem dX4_setLine_4 : decode cX4_setLine 4 = .ok (.aload_n 0, 1) := by decide +kernel
theorem dX4_setLine_5 : decode cX4_setLine 5 = .ok (.getfield 10, 3) := by decide +kernel
theorem dX4_setLine_8 : decode cX4_setLine 8 = .ok (.iload_n 1, 1) := by decide +kernel
theorem dX4_setLine_9 : decode cX4_setLine 9 = .ok (.invokevirtual 113, 3) := by decide +kernel
theorem dX4_setLine_12 : decode cX4_setLine 12 = .ok (.astore_n 2, 1) := by decide +kernel
theorem dX4_setLine_13 : decode cX4_setLine 13 = .ok (.aload_n 0, 1) := by decide +kernel
theorem dX4_setLine_14 : decode cX4_setLine 14 = .ok (.getfield 21, 3) := by decide +kernel
theorem dX4_setLine_17 : decode cX4_setLine 17 = .ok (.invokevirtual 64, 3) := by decide +kernel
theorem dX4_setLine_20 : decode cX4_setLine 20 = .ok (.ifCond .eq 18, 3) := by decide +kernel
theorem dX4_setLine_23 : decode cX4_setLine 23 = .ok (.aload_n 2, 1) := by decide +kernel
theorem dX4_setLine_24 : decode cX4_setLine 24 = .ok (.invokevirtual 117, 3) := by decide +kernel
theorem dX4_setLine_27 : decode cX4_setLine 27 = .ok (.iconst 5, 1) := by decide +kernel
theorem dX4_setLine_28 : decode cX4_setLine 28 = .ok (.if_icmp .ge 10, 3) := by decide +kernel
theorem dX4_setLine_31 : decode cX4_setLine 31 = .ok (.aload_n 0, 1) := by decide +kernel
theorem dX4_setLine_32 : decode cX4_setLine 32 = .ok (.invokevirtual 120, 3) := by decide +kernel
theorem dX4_setLine_35 : decode cX4_setLine 35 = .ok (.ifCond .ne 13, 3) := by decide +kernel
theorem dX4_setLine_38 : decode cX4_setLine 38 = .ok (.new 79, 3) := by decide +kernel
theorem dX4_setLine_41 : decode cX4_setLine 41 = .ok (.dup, 1) := by decide +kernel
theorem dX4_setLine_42 : decode cX4_setLine 42 = .ok (.ldc 124, 2) := by decide +kernel
theorem dX4_setLine_44 : decode cX4_setLine 44 = .ok (.invokespecial 83, 3) := by decide +kernel
theorem dX4_setLine_47 : decode cX4_setLine 47 = .ok (.athrow, 1) := by decide +kernel
theorem dX4_setLine_48 : decode cX4_setLine 48 = .ok (.aload_n 0, 1) := by decide +kernel
theorem dX4_setLine_49 : decode cX4_setLine 49 = .ok (.getfield 28, 3) := by decide +kernel
theorem dX4_setLine_52 : decode cX4_setLine 52 = .ok (.aload_n 0, 1) := by decide +kernel
theorem dX4_setLine_53 : decode cX4_setLine 53 = .ok (.getfield 10, 3) := by decide +kernel
theorem dX4_setLine_56 : decode cX4_setLine 56 = .ok (.invokevirtual 52, 3) := by decide +kernel
theorem dX4_setLine_59 : decode cX4_setLine 59 = .ok (.aload_n 0, 1) := by decide +kernel
theorem dX4_setLine_60 : decode cX4_setLine 60 = .ok (.getfield 10, 3) := by decide +kernel
theorem dX4_setLine_63 : decode cX4_setLine 63 = .ok (.aload_n 0, 1) := by decide +kernel
theorem dX4_setLine_64 : decode cX4_setLine 64 = .ok (.getfield 21, 3) := by decide +kernel
theorem dX4_setLine_67 : decode cX4_setLine 67 = .ok (.aload_n 2, 1) := by decide +kernel
theorem dX4_setLine_68 : decode cX4_setLine 68 = .ok (.invokevirtual 126, 3) := by decide +kernel
theorem dX4_setLine_71 : decode cX4_setLine 71 = .ok (.pop, 1) := by decide +kernel
theorem dX4_setLine_72 : decode cX4_setLine 72 = .ok (.aload_n 2, 1) := by decide +kernel
theorem dX4_setLine_73 : decode cX4_setLine 73 = .ok (.invokevirtual 117, 3) := by decide +kernel
theorem dX4_setLine_76 : decode cX4_setLine 76 = .ok (.iconst 1, 1) := by decide +kernel
theorem dX4_setLine_77 : decode cX4_setLine 77 = .ok (.isub, 1) := by decide +kernel
theorem dX4_setLine_78 : decode cX4_setLine 78 = .ok (.ireturn, 1) := by decide +kernel
theorem dX4_correct_0 : decode cX4_correct 0 = .ok (.iload_n 1, 1) := by decide +kernel
theorem dX4_correct_1 : decode cX4_correct 1 = .ok (.invokestatic 110, 3) := by decide +kernel
theorem dX4_correct_4 : decode cX4_correct 4 = .ok (.aload_n 0, 1) := by decide +kernel
theorem dX4_correct_5 : decode cX4_correct 5 = .ok (.getfield 28, 3) := by decide +kernel
theorem dX4_correct_8 : decode cX4_correct 8 = .ok (.aload_n 0, 1) := by decide +kernel
theorem dX4_correct_9 : decode cX4_correct 9 = .ok (.getfield 10, 3) := by decide +kernel
theorem dX4_correct_12 : decode cX4_correct 12 = .ok (.invokevirtual 52, 3) := by decide +kernel
theorem dX4_correct_15 : decode cX4_correct 15 = .ok (.aload_n 0, 1) := by decide +kernel
theorem dX4_correct_16 : decode cX4_correct 16 = .ok (.getfield 10, 3) := by decide +kernel
theorem dX4_correct_19 : decode cX4_correct 19 = .ok (.aload_n 0, 1) := by decide +kernel
theorem dX4_correct_20 : decode cX4_correct 20 = .ok (.getfield 10, 3) := by decide +kernel
theorem dX4_correct_23 : decode cX4_correct 23 = .ok (.iload_n 1, 1) := by decide +kernel
theorem dX4_correct_24 : decode cX4_correct 24 = .ok (.invokevirtual 113, 3) := by decide +kernel
theorem dX4_correct_27 : decode cX4_correct 27 = .ok (.invokevirtual 130, 3) := by decide +kernel
theorem dX4_correct_30 : decode cX4_correct 30 = .ok (.ireturn, 1) := by decide +kernel
theorem dX4_distribute_0 : decode cX4_distribute 0 = .ok (.iload_n 1, 1) := by decide +kernel
theorem dX4_distribute_1 : decode cX4_distribute 1 = .ok (.invokestatic 110, 3) := by decide +kernel
theorem dX4_distribute_4 : decode cX4_distribute 4 = .ok (.aload_n 0, 1) := by decide +kernel
theorem dX4_distribute_5 : decode cX4_distribute 5 = .ok (.getfield 28, 3) := by decide +kernel
theorem dX4_distribute_8 : decode cX4_distribute 8 = .ok (.aload_n 0, 1) := by decide +kernel
theorem dX4_distribute_9 : decode cX4_distribute 9 = .ok (.getfield 10, 3) := by decide +kernel
theorem dX4_distribute_12 : decode cX4_distribute 12 = .ok (.invokevirtual 52, 3) := by decide +kernel
theorem dX4_distribute_15 : decode cX4_distribute 15 = .ok (.aload_n 0, 1) := by decide +kernel
theorem dX4_distribute_16 : decode cX4_distribute 16 = .ok (.getfield 10, 3) := by decide +kernel
theorem dX4_distribute_19 : decode cX4_distribute 19 = .ok (.aload_n 0, 1) := by decide +kernel
theorem dX4_distribute_20 : decode cX4_distribute 20 = .ok (.getfield 10, 3) := by decide +kernel
theorem dX4_distribute_23 : decode cX4_distribute 23 = .ok (.iload_n 1, 1) := by decide +kernel
theorem dX4_distribute_24 : decode cX4_distribute 24 = .ok (.invokevirtual 113, 3) := by decide +kernel
theorem dX4_distribute_27 : decode cX4_distribute 27 = .ok (.invokevirtual 134, 3) := by decide +kernel
theorem dX4_distribute_30 : decode cX4_distribute 30 = .ok (.ireturn, 1) := by decide +kernel
theorem dX4_pie_0 : decode cX4_pie 0 = .ok (.iload_n 1, 1) := by decide +kernel
theorem dX4_pie_1 : decode cX4_pie 1 = .ok (.invokestatic 110, 3) := by decide +kernel
theorem dX4_pie_4 : decode cX4_pie 4 = .ok (.aload_n 0, 1) := by decide +kernel
theorem dX4_pie_5 : decode cX4_pie 5 = .ok (.getfield 28, 3) := by decide +kernel
theorem dX4_pie_8 : decode cX4_pie 8 = .ok (.aload_n 0, 1) := by decide +kernel
theorem dX4_pie_9 : decode cX4_pie 9 = .ok (.getfield 10, 3) := by decide +kernel
theorem dX4_pie_12 : decode cX4_pie 12 = .ok (.invokevirtual 52, 3) := by decide +kernel
theorem dX4_pie_15 : decode cX4_pie 15 = .ok (.aload_n 0, 1) := by decide +kernel
theorem dX4_pie_16 : decode cX4_pie 16 = .ok (.getfield 10, 3) := by decide +kernel
theorem dX4_pie_19 : decode cX4_pie 19 = .ok (.aload_n 0, 1) := by decide +kernel
theorem dX4_pie_20 : decode cX4_pie 20 = .ok (.getfield 10, 3) := by decide +kernel
theorem dX4_pie_23 : decode cX4_pie 23 = .ok (.iload_n 1, 1) := by decide +kernel
theorem dX4_pie_24 : decode cX4_pie 24 = .ok (.invokevirtual 113, 3) := by decide +kernel
theorem dX4_pie_27 : decode cX4_pie 27 = .ok (.invokevirtual 137, 3) := by decide +kernel
theorem dX4_pie_30 : decode cX4_pie 30 = .ok (.aload_n 0, 1) := by decide +kernel
theorem dX4_pie_31 : decode cX4_pie 31 = .ok (.getfield 10, 3) := by decide +kernel
theorem dX4_pie_34 : decode cX4_pie 34 = .ok (.getfield 141, 3) := by decide +kernel
theorem dX4_pie_37 : decode cX4_pie 37 = .ok (.invokevirtual 64, 3) := by decide +kernel
theorem dX4_pie_40 : decode cX4_pie 40 = .ok (.ireturn, 1) := by decide +kernel
theorem dX4_sortHeap_0 : decode cX4_sortHeap 0 = .ok (.iload_n 1, 1) := by decide +kernel
theorem dX4_sortHeap_1 : decode cX4_sortHeap 1 = .ok (.iconst 1, 1) := by decide +kernel
theorem dX4_sortHeap_2 : decode cX4_sortHeap 2 = .ok (.bipush 99, 2) := by decide +kernel
theorem dX4_sortHeap_4 : decode cX4_sortHeap 4 = .ok (.invokestatic 45, 3) := by decide +kernel
theorem dX4_sortHeap_7 : decode cX4_sortHeap 7 = .ok (.aload_n 0, 1) := by decide +kernel
theorem dX4_sortHeap_8 : decode cX4_sortHeap 8 = .ok (.getfield 28, 3) := by decide +kernel
theorem dX4_sortHeap_11 : decode cX4_sortHeap 11 = .ok (.aload_n 0, 1) := by decide +kernel
theorem dX4_sortHeap_12 : decode cX4_sortHeap 12 = .ok (.getfield 10, 3) := by decide +kernel
theorem dX4_sortHeap_15 : decode cX4_sortHeap 15 = .ok (.invokevirtual 52, 3) := by decide +kernel
theorem dX4_sortHeap_18 : decode cX4_sortHeap 18 = .ok (.aload_n 0, 1) := by decide +kernel
theorem dX4_sortHeap_19 : decode cX4_sortHeap 19 = .ok (.getfield 10, 3) := by decide +kernel
theorem dX4_sortHeap_22 : decode cX4_sortHeap 22 = .ok (.iload_n 1, 1) := by decide +kernel
theorem dX4_sortHeap_23 : decode cX4_sortHeap 23 = .ok (.invokevirtual 144, 3) := by decide +kernel
theorem dX4_sortHeap_26 : decode cX4_sortHeap 26 = .ok (.ireturn, 1) := by decide +kernel
theorem dX4_forme_0 : decode cX4_forme 0 = .ok (.iload_n 1, 1) := by decide +kernel
theorem dX4_forme_1 : decode cX4_forme 1 = .ok (.invokestatic 110, 3) := by decide +kernel
theorem dX4_forme_4 : decode cX4_forme 4 = .ok (.iload_n 2, 1) := by decide +kernel
theorem dX4_forme_5 : decode cX4_forme 5 = .ok (.iconst 0, 1) := by decide +kernel
theorem dX4_forme_6 : decode cX4_forme 6 = .ok (.iconst 4, 1) := by decide +kernel
theorem dX4_forme_7 : decode cX4_forme 7 = .ok (.invokestatic 45, 3) := by decide +kernel
theorem dX4_forme_10 : decode cX4_forme 10 = .ok (.aload_n 0, 1) := by decide +kernel
theorem dX4_forme_11 : decode cX4_forme 11 = .ok (.iload_n 1, 1) := by decide +kernel
theorem dX4_forme_12 : decode cX4_forme 12 = .ok (.iload_n 2, 1) := by decide +kernel
theorem dX4_forme_13 : decode cX4_forme 13 = .ok (.invokevirtual 147, 3) := by decide +kernel
theorem dX4_forme_16 : decode cX4_forme 16 = .ok (.ireturn, 1) := by decide +kernel
theorem dX4_places_0 : decode cX4_places 0 = .ok (.iload_n 1, 1) := by decide +kernel
theorem dX4_places_1 : decode cX4_places 1 = .ok (.invokestatic 110, 3) := by decide +kernel
theorem dX4_places_4 : decode cX4_places 4 = .ok (.aload_n 0, 1) := by decide +kernel
theorem dX4_places_5 : decode cX4_places 5 = .ok (.getfield 10, 3) := by decide +kernel
theorem dX4_places_8 : decode cX4_places 8 = .ok (.iload_n 1, 1) := by decide +kernel
theorem dX4_places_9 : decode cX4_places 9 = .ok (.invokevirtual 113, 3) := by decide +kernel
theorem dX4_places_12 : decode cX4_places 12 = .ok (.astore_n 3, 1) := by decide +kernel
theorem dX4_places_13 : decode cX4_places 13 = .ok (.iload_n 2, 1) := by decide +kernel
theorem dX4_places_14 : decode cX4_places 14 = .ok (.aload_n 3, 1) := by decide +kernel
theorem dX4_places_15 : decode cX4_places 15 = .ok (.invokevirtual 117, 3) := by decide +kernel
theorem dX4_places_18 : decode cX4_places 18 = .ok (.invokestatic 101, 3) := by decide +kernel
theorem dX4_places_21 : decode cX4_places 21 = .ok (.aload_n 3, 1) := by decide +kernel
theorem dX4_places_22 : decode cX4_places 22 = .ok (.iload_n 2, 1) := by decide +kernel
theorem dX4_places_23 : decode cX4_places 23 = .ok (.invokevirtual 150, 3) := by decide +kernel
theorem dX4_places_26 : decode cX4_places 26 = .ok (.ireturn, 1) := by decide +kernel
theorem dX4_place_0 : decode cX4_place 0 = .ok (.iload_n 1, 1) := by decide +kernel
theorem dX4_place_1 : decode cX4_place 1 = .ok (.invokestatic 110, 3) := by decide +kernel
theorem dX4_place_4 : decode cX4_place 4 = .ok (.aload_n 0, 1) := by decide +kernel
theorem dX4_place_5 : decode cX4_place 5 = .ok (.getfield 10, 3) := by decide +kernel
theorem dX4_place_8 : decode cX4_place 8 = .ok (.iload_n 1, 1) := by decide +kernel
theorem dX4_place_9 : decode cX4_place 9 = .ok (.invokevirtual 113, 3) := by decide +kernel
theorem dX4_place_12 : decode cX4_place 12 = .ok (.astore 5, 2) := by decide +kernel
theorem dX4_place_14 : decode cX4_place 14 = .ok (.iload_n 2, 1) := by decide +kernel
theorem dX4_place_15 : decode cX4_place 15 = .ok (.aload 5, 2) := by decide +kernel
theorem dX4_place_17 : decode cX4_place 17 = .ok (.invokevirtual 117, 3) := by decide +kernel
theorem dX4_place_20 : decode cX4_place 20 = .ok (.invokestatic 101, 3) := by decide +kernel
theorem dX4_place_23 : decode cX4_place 23 = .ok (.iload_n 3, 1) := by decide +kernel
theorem dX4_place_24 : decode cX4_place 24 = .ok (.aload 5, 2) := by decide +kernel
theorem dX4_place_26 : decode cX4_place 26 = .ok (.iload_n 2, 1) := by decide +kernel
theorem dX4_place_27 : decode cX4_place 27 = .ok (.invokevirtual 150, 3) := by decide +kernel
theorem dX4_place_30 : decode cX4_place 30 = .ok (.invokestatic 101, 3) := by decide +kernel
theorem dX4_place_33 : decode cX4_place 33 = .ok (.iload 4, 2) := by decide +kernel
theorem dX4_place_35 : decode cX4_place 35 = .ok (.iconst 0, 1) := by decide +kernel
theorem dX4_place_36 : decode cX4_place 36 = .ok (.iconst 3, 1) := by decide +kernel
theorem dX4_place_37 : decode cX4_place 37 = .ok (.invokestatic 45, 3) := by decide +kernel
theorem dX4_place_40 : decode cX4_place 40 = .ok (.aload 5, 2) := by decide +kernel
theorem dX4_place_42 : decode cX4_place 42 = .ok (.aload 5, 2) := by decide +kernel
theorem dX4_place_44 : decode cX4_place 44 = .ok (.iload_n 2, 1) := by decide +kernel
theorem dX4_place_45 : decode cX4_place 45 = .ok (.invokevirtual 153, 3) := by decide +kernel
theorem dX4_place_48 : decode cX4_place 48 = .ok (.iload_n 3, 1) := by decide +kernel
theorem dX4_place_49 : decode cX4_place 49 = .ok (.iadd, 1) := by decide +kernel
theorem dX4_place_50 : decode cX4_place 50 = .ok (.iload 4, 2) := by decide +kernel
theorem dX4_place_52 : decode cX4_place 52 = .ok (.invokevirtual 156, 3) := by decide +kernel
theorem dX4_place_55 : decode cX4_place 55 = .ok (.ireturn, 1) := by decide +kernel
theorem dX4_proof_0 : decode cX4_proof 0 = .ok (.iload_n 1, 1) := by decide +kernel
theorem dX4_proof_1 : decode cX4_proof 1 = .ok (.invokestatic 110, 3) := by decide +kernel
theorem dX4_proof_4 : decode cX4_proof 4 = .ok (.iload_n 2, 1) := by decide +kernel
theorem dX4_proof_5 : decode cX4_proof 5 = .ok (.ifCond .ge 13, 3) := by decide +kernel
theorem dX4_proof_8 : decode cX4_proof 8 = .ok (.new 159, 3) := by decide +kernel
theorem dX4_proof_11 : decode cX4_proof 11 = .ok (.dup, 1) := by decide +kernel
theorem dX4_proof_12 : decode cX4_proof 12 = .ok (.ldc 161, 2) := by decide +kernel
theorem dX4_proof_14 : decode cX4_proof 14 = .ok (.invokespecial 163, 3) := by decide +kernel
theorem dX4_proof_17 : decode cX4_proof 17 = .ok (.athrow, 1) := by decide +kernel
theorem dX4_proof_18 : decode cX4_proof 18 = .ok (.aload_n 0, 1) := by decide +kernel
theorem dX4_proof_19 : decode cX4_proof 19 = .ok (.getfield 10, 3) := by decide +kernel
theorem dX4_proof_22 : decode cX4_proof 22 = .ok (.iload_n 1, 1) := by decide +kernel
theorem dX4_proof_23 : decode cX4_proof 23 = .ok (.invokevirtual 113, 3) := by decide +kernel
theorem dX4_proof_26 : decode cX4_proof 26 = .ok (.iload_n 2, 1) := by decide +kernel
theorem dX4_proof_27 : decode cX4_proof 27 = .ok (.invokevirtual 164, 3) := by decide +kernel
theorem dX4_proof_30 : decode cX4_proof 30 = .ok (.ireturn, 1) := by decide +kernel
theorem dX4_inHeap_0 : decode cX4_inHeap 0 = .ok (.iload_n 1, 1) := by decide +kernel
theorem dX4_inHeap_1 : decode cX4_inHeap 1 = .ok (.aload_n 0, 1) := by decide +kernel
theorem dX4_inHeap_2 : decode cX4_inHeap 2 = .ok (.getfield 10, 3) := by decide +kernel
theorem dX4_inHeap_5 : decode cX4_inHeap 5 = .ok (.getfield 141, 3) := by decide +kernel
theorem dX4_inHeap_8 : decode cX4_inHeap 8 = .ok (.invokevirtual 64, 3) := by decide +kernel
theorem dX4_inHeap_11 : decode cX4_inHeap 11 = .ok (.invokestatic 101, 3) := by decide +kernel
theorem dX4_inHeap_14 : decode cX4_inHeap 14 = .ok (.aload_n 0, 1) := by decide +kernel
theorem dX4_inHeap_15 : decode cX4_inHeap 15 = .ok (.getfield 10, 3) := by decide +kernel
theorem dX4_inHeap_18 : decode cX4_inHeap 18 = .ok (.getfield 141, 3) := by decide +kernel
theorem dX4_inHeap_21 : decode cX4_inHeap 21 = .ok (.iload_n 1, 1) := by decide +kernel
theorem dX4_inHeap_22 : decode cX4_inHeap 22 = .ok (.invokevirtual 104, 3) := by decide +kernel
theorem dX4_inHeap_25 : decode cX4_inHeap 25 = .ok (.ireturn, 1) := by decide +kernel
theorem dX4_errorsIfSet_0 : decode cX4_errorsIfSet 0 = .ok (.aload_n 0, 1) := by decide +kernel
theorem dX4_errorsIfSet_1 : decode cX4_errorsIfSet 1 = .ok (.invokevirtual 120, 3) := by decide +kernel
theorem dX4_errorsIfSet_4 : decode cX4_errorsIfSet 4 = .ok (.ifCond .eq 13, 3) := by decide +kernel
theorem dX4_errorsIfSet_7 : decode cX4_errorsIfSet 7 = .ok (.aload_n 0, 1) := by decide +kernel
theorem dX4_errorsIfSet_8 : decode cX4_errorsIfSet 8 = .ok (.getfield 38, 3) := by decide +kernel
theorem dX4_errorsIfSet_11 : decode cX4_errorsIfSet 11 = .ok (.invokevirtual 167, 3) := by decide +kernel
theorem dX4_errorsIfSet_14 : decode cX4_errorsIfSet 14 = .ok (.goto 4, 3) := by decide +kernel
theorem dX4_errorsIfSet_17 : decode cX4_errorsIfSet 17 = .ok (.iconst (-1), 1) := by decide +kernel
theorem dX4_errorsIfSet_18 : decode cX4_errorsIfSet 18 = .ok (.ireturn, 1) := by decide +kernel
theorem dX4_turnedIfSet_0 : decode cX4_turnedIfSet 0 = .ok (.aload_n 0, 1) := by decide +kernel
theorem dX4_turnedIfSet_1 : decode cX4_turnedIfSet 1 = .ok (.invokevirtual 120, 3) := by decide +kernel
theorem dX4_turnedIfSet_4 : decode cX4_turnedIfSet 4 = .ok (.ifCond .eq 13, 3) := by decide +kernel
theorem dX4_turnedIfSet_7 : decode cX4_turnedIfSet 7 = .ok (.aload_n 0, 1) := by decide +kernel
theorem dX4_turnedIfSet_8 : decode cX4_turnedIfSet 8 = .ok (.getfield 38, 3) := by decide +kernel
theorem dX4_turnedIfSet_11 : decode cX4_turnedIfSet 11 = .ok (.invokevirtual 170, 3) := by decide +kernel
theorem dX4_turnedIfSet_14 : decode cX4_turnedIfSet 14 = .ok (.goto 4, 3) := by decide +kernel
theorem dX4_turnedIfSet_17 : decode cX4_turnedIfSet 17 = .ok (.iconst (-1), 1) := by decide +kernel
theorem dX4_turnedIfSet_18 : decode cX4_turnedIfSet 18 = .ok (.ireturn, 1) := by decide +kernel
theorem dX4_copies_0 : decode cX4_copies 0 = .ok (.aload_n 0, 1) := by decide +kernel
theorem dX4_copies_1 : decode cX4_copies 1 = .ok (.getfield 21, 3) := by decide +kernel
theorem dX4_copies_4 : decode cX4_copies 4 = .ok (.invokevirtual 64, 3) := by decide +kernel
theorem dX4_copies_7 : decode cX4_copies 7 = .ok (.ifCond .ne 5, 3) := by decide +kernel
theorem dX4_copies_10 : decode cX4_copies 10 = .ok (.iconst (-1), 1) := by decide +kernel
theorem dX4_copies_11 : decode cX4_copies 11 = .ok (.ireturn, 1) := by decide +kernel
theorem dX4_copies_12 : decode cX4_copies 12 = .ok (.aload_n 0, 1) := by decide +kernel
theorem dX4_copies_13 : decode cX4_copies 13 = .ok (.getfield 32, 3) := by decide +kernel
theorem dX4_copies_16 : decode cX4_copies 16 = .ok (.aload_n 0, 1) := by decide +kernel
theorem dX4_copies_17 : decode cX4_copies 17 = .ok (.getfield 10, 3) := by decide +kernel
theorem dX4_copies_20 : decode cX4_copies 20 = .ok (.invokevirtual 173, 3) := by decide +kernel
theorem dX4_copies_23 : decode cX4_copies 23 = .ok (.iconst 0, 1) := by decide +kernel
theorem dX4_copies_24 : decode cX4_copies 24 = .ok (.istore_n 1, 1) := by decide +kernel
theorem dX4_copies_25 : decode cX4_copies 25 = .ok (.iload_n 1, 1) := by decide +kernel
theorem dX4_copies_26 : decode cX4_copies 26 = .ok (.sipush 250, 3) := by decide +kernel
theorem dX4_copies_29 : decode cX4_copies 29 = .ok (.if_icmp .ge 26, 3) := by decide +kernel
theorem dX4_copies_32 : decode cX4_copies 32 = .ok (.aload_n 0, 1) := by decide +kernel
theorem dX4_copies_33 : decode cX4_copies 33 = .ok (.invokevirtual 176, 3) := by decide +kernel
theorem dX4_copies_36 : decode cX4_copies 36 = .ok (.ifCond .eq 19, 3) := by decide +kernel
theorem dX4_copies_39 : decode cX4_copies 39 = .ok (.aload_n 0, 1) := by decide +kernel
theorem dX4_copies_40 : decode cX4_copies 40 = .ok (.getfield 38, 3) := by decide +kernel
theorem dX4_copies_43 : decode cX4_copies 43 = .ok (.invokevirtual 167, 3) := by decide +kernel
theorem dX4_copies_46 : decode cX4_copies 46 = .ok (.ifCond .ne 9, 3) := by decide +kernel
theorem dX4_copies_49 : decode cX4_copies 49 = .ok (.iinc 1 1, 3) := by decide +kernel
theorem dX4_copies_52 : decode cX4_copies 52 = .ok (.goto (-27), 3) := by decide +kernel
theorem dX4_copies_55 : decode cX4_copies 55 = .ok (.iload_n 1, 1) := by decide +kernel
theorem dX4_copies_56 : decode cX4_copies 56 = .ok (.ireturn, 1) := by decide +kernel
theorem dX4_bestToDistribute_0 : decode cX4_bestToDistribute 0 = .ok (.iconst (-1), 1) := by decide +kernel
theorem dX4_bestToDistribute_1 : decode cX4_bestToDistribute 1 = .ok (.istore_n 1, 1) := by decide +kernel
theorem dX4_bestToDistribute_2 : decode cX4_bestToDistribute 2 = .ok (.bipush 17, 2) := by decide +kernel
theorem dX4_bestToDistribute_4 : decode cX4_bestToDistribute 4 = .ok (.istore_n 2, 1) := by decide +kernel
theorem dX4_bestToDistribute_5 : decode cX4_bestToDistribute 5 = .ok (.iconst 0, 1) := by decide +kernel
theorem dX4_bestToDistribute_6 : decode cX4_bestToDistribute 6 = .ok (.istore_n 3, 1) := by decide +kernel
theorem dX4_bestToDistribute_7 : decode cX4_bestToDistribute 7 = .ok (.iload_n 3, 1) := by decide +kernel
theorem dX4_bestToDistribute_8 : decode cX4_bestToDistribute 8 = .ok (.iconst 3, 1) := by decide +kernel
theorem dX4_bestToDistribute_9 : decode cX4_bestToDistribute 9 = .ok (.if_icmp .ge 64, 3) := by decide +kernel
theorem dX4_bestToDistribute_12 : decode cX4_bestToDistribute 12 = .ok (.aload_n 0, 1) := by decide +kernel
theorem dX4_bestToDistribute_13 : decode cX4_bestToDistribute 13 = .ok (.getfield 32, 3) := by decide +kernel
theorem dX4_bestToDistribute_16 : decode cX4_bestToDistribute 16 = .ok (.aload_n 0, 1) := by decide +kernel
theorem dX4_bestToDistribute_17 : decode cX4_bestToDistribute 17 = .ok (.getfield 10, 3) := by decide +kernel
theorem dX4_bestToDistribute_20 : decode cX4_bestToDistribute 20 = .ok (.invokevirtual 173, 3) := by decide +kernel
theorem dX4_bestToDistribute_23 : decode cX4_bestToDistribute 23 = .ok (.aload_n 0, 1) := by decide +kernel
theorem dX4_bestToDistribute_24 : decode cX4_bestToDistribute 24 = .ok (.getfield 32, 3) := by decide +kernel
theorem dX4_bestToDistribute_27 : decode cX4_bestToDistribute 27 = .ok (.aload_n 0, 1) := by decide +kernel
theorem dX4_bestToDistribute_28 : decode cX4_bestToDistribute 28 = .ok (.getfield 32, 3) := by decide +kernel
theorem dX4_bestToDistribute_31 : decode cX4_bestToDistribute 31 = .ok (.iload_n 3, 1) := by decide +kernel
theorem dX4_bestToDistribute_32 : decode cX4_bestToDistribute 32 = .ok (.invokevirtual 113, 3) := by decide +kernel
theorem dX4_bestToDistribute_35 : decode cX4_bestToDistribute 35 = .ok (.invokevirtual 134, 3) := by decide +kernel
theorem dX4_bestToDistribute_38 : decode cX4_bestToDistribute 38 = .ok (.pop, 1) := by decide +kernel
theorem dX4_bestToDistribute_39 : decode cX4_bestToDistribute 39 = .ok (.aload_n 0, 1) := by decide +kernel
theorem dX4_bestToDistribute_40 : decode cX4_bestToDistribute 40 = .ok (.invokevirtual 176, 3) := by decide +kernel
theorem dX4_bestToDistribute_43 : decode cX4_bestToDistribute 43 = .ok (.ifCond .eq 24, 3) := by decide +kernel
theorem dX4_bestToDistribute_46 : decode cX4_bestToDistribute 46 = .ok (.aload_n 0, 1) := by decide +kernel
theorem dX4_bestToDistribute_47 : decode cX4_bestToDistribute 47 = .ok (.getfield 38, 3) := by decide +kernel
theorem dX4_bestToDistribute_50 : decode cX4_bestToDistribute 50 = .ok (.invokevirtual 167, 3) := by decide +kernel
theorem dX4_bestToDistribute_53 : decode cX4_bestToDistribute 53 = .ok (.iload_n 2, 1) := by decide +kernel
theorem dX4_bestToDistribute_54 : decode cX4_bestToDistribute 54 = .ok (.if_icmp .ge 13, 3) := by decide +kernel
theorem dX4_bestToDistribute_57 : decode cX4_bestToDistribute 57 = .ok (.iload_n 3, 1) := by decide +kernel
theorem dX4_bestToDistribute_58 : decode cX4_bestToDistribute 58 = .ok (.istore_n 1, 1) := by decide +kernel
theorem dX4_bestToDistribute_59 : decode cX4_bestToDistribute 59 = .ok (.aload_n 0, 1) := by decide +kernel
theorem dX4_bestToDistribute_60 : decode cX4_bestToDistribute 60 = .ok (.getfield 38, 3) := by decide +kernel
theorem dX4_bestToDistribute_63 : decode cX4_bestToDistribute 63 = .ok (.invokevirtual 167, 3) := by decide +kernel
theorem dX4_bestToDistribute_66 : decode cX4_bestToDistribute 66 = .ok (.istore_n 2, 1) := by decide +kernel
theorem dX4_bestToDistribute_67 : decode cX4_bestToDistribute 67 = .ok (.iinc 3 1, 3) := by decide +kernel
theorem dX4_bestToDistribute_70 : decode cX4_bestToDistribute 70 = .ok (.goto (-63), 3) := by decide +kernel
theorem dX4_bestToDistribute_73 : decode cX4_bestToDistribute 73 = .ok (.iload_n 1, 1) := by decide +kernel
theorem dX4_bestToDistribute_74 : decode cX4_bestToDistribute 74 = .ok (.ireturn, 1) := by decide +kernel
theorem dX4_order_0 : decode cX4_order 0 = .ok (.aload_n 0, 1) := by decide +kernel
theorem dX4_order_1 : decode cX4_order 1 = .ok (.getfield 10, 3) := by decide +kernel
theorem dX4_order_4 : decode cX4_order 4 = .ok (.invokevirtual 179, 3) := by decide +kernel
theorem dX4_order_7 : decode cX4_order 7 = .ok (.istore_n 1, 1) := by decide +kernel
theorem dX4_order_8 : decode cX4_order 8 = .ok (.iload_n 1, 1) := by decide +kernel
theorem dX4_order_9 : decode cX4_order 9 = .ok (.ifCond .ne 5, 3) := by decide +kernel
theorem dX4_order_12 : decode cX4_order 12 = .ok (.dconst 1, 1) := by decide +kernel
theorem dX4_order_13 : decode cX4_order 13 = .ok (.dreturn, 1) := by decide +kernel
theorem dX4_order_14 : decode cX4_order 14 = .ok (.iload_n 1, 1) := by decide +kernel
theorem dX4_order_15 : decode cX4_order 15 = .ok (.aload_n 0, 1) := by decide +kernel
theorem dX4_order_16 : decode cX4_order 16 = .ok (.getfield 10, 3) := by decide +kernel
theorem dX4_order_19 : decode cX4_order 19 = .ok (.invokevirtual 182, 3) := by decide +kernel
theorem dX4_order_22 : decode cX4_order 22 = .ok (.isub, 1) := by decide +kernel
theorem dX4_order_23 : decode cX4_order 23 = .ok (.i2d, 1) := by decide +kernel
theorem dX4_order_24 : decode cX4_order 24 = .ok (.iload_n 1, 1) := by decide +kernel
theorem dX4_order_25 : decode cX4_order 25 = .ok (.i2d, 1) := by decide +kernel
theorem dX4_order_26 : decode cX4_order 26 = .ok (.ddiv, 1) := by decide +kernel
theorem dX4_order_27 : decode cX4_order 27 = .ok (.dreturn, 1) := by decide +kernel
theorem dX4_append_0 : decode cX4_append 0 = .ok (.iload_n 1, 1) := by decide +kernel
theorem dX4_append_1 : decode cX4_append 1 = .ok (.bipush 32, 2) := by decide +kernel
theorem dX4_append_3 : decode cX4_append 3 = .ok (.if_icmp .eq 25, 3) := by decide +kernel
theorem dX4_append_6 : decode cX4_append 6 = .ok (.iload_n 1, 1) := by decide +kernel
theorem dX4_append_7 : decode cX4_append 7 = .ok (.bipush 97, 2) := by decide +kernel
theorem dX4_append_9 : decode cX4_append 9 = .ok (.if_icmp .lt 9, 3) := by decide +kernel
theorem dX4_append_12 : decode cX4_append 12 = .ok (.iload_n 1, 1) := by decide +kernel
theorem dX4_append_13 : decode cX4_append 13 = .ok (.bipush 122, 2) := by decide +kernel
theorem dX4_append_15 : decode cX4_append 15 = .ok (.if_icmp .le 13, 3) := by decide +kernel
theorem dX4_append_18 : decode cX4_append 18 = .ok (.new 72, 3) := by decide +kernel
theorem dX4_append_21 : decode cX4_append 21 = .ok (.dup, 1) := by decide +kernel
theorem dX4_append_22 : decode cX4_append 22 = .ok (.ldc 185, 2) := by decide +kernel
theorem dX4_append_24 : decode cX4_append 24 = .ok (.invokespecial 76, 3) := by decide +kernel
theorem dX4_append_27 : decode cX4_append 27 = .ok (.athrow, 1) := by decide +kernel
theorem dX4_append_28 : decode cX4_append 28 = .ok (.aload_n 0, 1) := by decide +kernel
theorem dX4_append_29 : decode cX4_append 29 = .ok (.getfield 21, 3) := by decide +kernel
theorem dX4_append_32 : decode cX4_append 32 = .ok (.invokevirtual 64, 3) := by decide +kernel
theorem dX4_append_35 : decode cX4_append 35 = .ok (.bipush 16, 2) := by decide +kernel
theorem dX4_append_37 : decode cX4_append 37 = .ok (.if_icmp .lt 13, 3) := by decide +kernel
theorem dX4_append_40 : decode cX4_append 40 = .ok (.new 79, 3) := by decide +kernel
theorem dX4_append_43 : decode cX4_append 43 = .ok (.dup, 1) := by decide +kernel
theorem dX4_append_44 : decode cX4_append 44 = .ok (.ldc 187, 2) := by decide +kernel
theorem dX4_append_46 : decode cX4_append 46 = .ok (.invokespecial 83, 3) := by decide +kernel
theorem dX4_append_49 : decode cX4_append 49 = .ok (.athrow, 1) := by decide +kernel
theorem dX4_append_50 : decode cX4_append 50 = .ok (.aload_n 0, 1) := by decide +kernel
theorem dX4_append_51 : decode cX4_append 51 = .ok (.getfield 21, 3) := by decide +kernel
theorem dX4_append_54 : decode cX4_append 54 = .ok (.iload_n 1, 1) := by decide +kernel
theorem dX4_append_55 : decode cX4_append 55 = .ok (.bipush 32, 2) := by decide +kernel
theorem dX4_append_57 : decode cX4_append 57 = .ok (.if_icmp .ne 8, 3) := by decide +kernel
theorem dX4_append_60 : decode cX4_append 60 = .ok (.bipush 26, 2) := by decide +kernel
theorem dX4_append_62 : decode cX4_append 62 = .ok (.goto 7, 3) := by decide +kernel
theorem dX4_append_65 : decode cX4_append 65 = .ok (.iload_n 1, 1) := by decide +kernel
theorem dX4_append_66 : decode cX4_append 66 = .ok (.bipush 97, 2) := by decide +kernel
theorem dX4_append_68 : decode cX4_append 68 = .ok (.isub, 1) := by decide +kernel
theorem dX4_append_69 : decode cX4_append 69 = .ok (.invokevirtual 189, 3) := by decide +kernel
theorem dX4_append_72 : decode cX4_append 72 = .ok (.aload_n 0, 1) := by decide +kernel
theorem dX4_append_73 : decode cX4_append 73 = .ok (.getfield 21, 3) := by decide +kernel
theorem dX4_append_76 : decode cX4_append 76 = .ok (.invokevirtual 64, 3) := by decide +kernel
theorem dX4_append_79 : decode cX4_append 79 = .ok (.ireturn, 1) := by decide +kernel
theorem dX4_clearText_0 : decode cX4_clearText 0 = .ok (.aload_n 0, 1) := by decide +kernel
theorem dX4_clearText_1 : decode cX4_clearText 1 = .ok (.getfield 21, 3) := by decide +kernel
theorem dX4_clearText_4 : decode cX4_clearText 4 = .ok (.invokevirtual 64, 3) := by decide +kernel
theorem dX4_clearText_7 : decode cX4_clearText 7 = .ok (.istore_n 1, 1) := by decide +kernel
theorem dX4_clearText_8 : decode cX4_clearText 8 = .ok (.aload_n 0, 1) := by decide +kernel
theorem dX4_clearText_9 : decode cX4_clearText 9 = .ok (.getfield 21, 3) := by decide +kernel
theorem dX4_clearText_12 : decode cX4_clearText 12 = .ok (.invokevirtual 192, 3) := by decide +kernel
theorem dX4_clearText_15 : decode cX4_clearText 15 = .ok (.iload_n 1, 1) := by decide +kernel
theorem dX4_clearText_16 : decode cX4_clearText 16 = .ok (.ireturn, 1) := by decide +kernel
theorem dX4_undo_0 : decode cX4_undo 0 = .ok (.aload_n 0, 1) := by decide +kernel
theorem dX4_undo_1 : decode cX4_undo 1 = .ok (.getfield 28, 3) := by decide +kernel
theorem dX4_undo_4 : decode cX4_undo 4 = .ok (.invokevirtual 195, 3) := by decide +kernel
theorem dX4_undo_7 : decode cX4_undo 7 = .ok (.ifCond .ne 13, 3) := by decide +kernel
theorem dX4_undo_10 : decode cX4_undo 10 = .ok (.new 79, 3) := by decide +kernel
theorem dX4_undo_13 : decode cX4_undo 13 = .ok (.dup, 1) := by decide +kernel
theorem dX4_undo_14 : decode cX4_undo 14 = .ok (.ldc 196, 2) := by decide +kernel
theorem dX4_undo_16 : decode cX4_undo 16 = .ok (.invokespecial 83, 3) := by decide +kernel
theorem dX4_undo_19 : decode cX4_undo 19 = .ok (.athrow, 1) := by decide +kernel
theorem dX4_undo_20 : decode cX4_undo 20 = .ok (.aload_n 0, 1) := by decide +kernel
theorem dX4_undo_21 : decode cX4_undo 21 = .ok (.getfield 28, 3) := by decide +kernel
theorem dX4_undo_24 : decode cX4_undo 24 = .ok (.aload_n 0, 1) := by decide +kernel
theorem dX4_undo_25 : decode cX4_undo 25 = .ok (.getfield 10, 3) := by decide +kernel
theorem dX4_undo_28 : decode cX4_undo 28 = .ok (.invokevirtual 198, 3) := by decide +kernel
theorem dX4_undo_31 : decode cX4_undo 31 = .ok (.aload_n 0, 1) := by decide +kernel
theorem dX4_undo_32 : decode cX4_undo 32 = .ok (.getfield 28, 3) := by decide +kernel
theorem dX4_undo_35 : decode cX4_undo 35 = .ok (.invokevirtual 195, 3) := by decide +kernel
theorem dX4_undo_38 : decode cX4_undo 38 = .ok (.ireturn, 1) := by decide +kernel
theorem dX4_digest_0 : decode cX4_digest 0 = .ok (.ldc2_w 201, 3) := by decide +kernel
theorem dX4_digest_3 : decode cX4_digest 3 = .ok (.aload_n 0, 1) := by decide +kernel
theorem dX4_digest_4 : decode cX4_digest 4 = .ok (.getfield 21, 3) := by decide +kernel
theorem dX4_digest_7 : decode cX4_digest 7 = .ok (.invokevirtual 64, 3) := by decide +kernel
theorem dX4_digest_10 : decode cX4_digest 10 = .ok (.i2l, 1) := by decide +kernel
theorem dX4_digest_11 : decode cX4_digest 11 = .ok (.invokestatic 203, 3) := by decide +kernel
theorem dX4_digest_14 : decode cX4_digest 14 = .ok (.lstore_n 1, 1) := by decide +kernel
theorem dX4_digest_15 : decode cX4_digest 15 = .ok (.aload_n 0, 1) := by decide +kernel
theorem dX4_digest_16 : decode cX4_digest 16 = .ok (.getfield 21, 3) := by decide +kernel
theorem dX4_digest_19 : decode cX4_digest 19 = .ok (.lload_n 1, 1) := by decide +kernel
theorem dX4_digest_20 : decode cX4_digest 20 = .ok (.invokevirtual 207, 3) := by decide +kernel
theorem dX4_digest_23 : decode cX4_digest 23 = .ok (.lstore_n 1, 1) := by decide +kernel
theorem dX4_digest_24 : decode cX4_digest 24 = .ok (.iconst 0, 1) := by decide +kernel
theorem dX4_digest_25 : decode cX4_digest 25 = .ok (.istore_n 3, 1) := by decide +kernel
theorem dX4_digest_26 : decode cX4_digest 26 = .ok (.iload_n 3, 1) := by decide +kernel
theorem dX4_digest_27 : decode cX4_digest 27 = .ok (.bipush 11, 2) := by decide +kernel
theorem dX4_digest_29 : decode cX4_digest 29 = .ok (.if_icmp .gt 23, 3) := by decide +kernel
theorem dX4_digest_32 : decode cX4_digest 32 = .ok (.lload_n 1, 1) := by decide +kernel
theorem dX4_digest_33 : decode cX4_digest 33 = .ok (.aload_n 0, 1) := by decide +kernel
theorem dX4_digest_34 : decode cX4_digest 34 = .ok (.getfield 10, 3) := by decide +kernel
theorem dX4_digest_37 : decode cX4_digest 37 = .ok (.iload_n 3, 1) := by decide +kernel
theorem dX4_digest_38 : decode cX4_digest 38 = .ok (.invokevirtual 107, 3) := by decide +kernel
theorem dX4_digest_41 : decode cX4_digest 41 = .ok (.i2l, 1) := by decide +kernel
theorem dX4_digest_42 : decode cX4_digest 42 = .ok (.invokestatic 203, 3) := by decide +kernel
theorem dX4_digest_45 : decode cX4_digest 45 = .ok (.lstore_n 1, 1) := by decide +kernel
theorem dX4_digest_46 : decode cX4_digest 46 = .ok (.iinc 3 1, 3) := by decide +kernel
theorem dX4_digest_49 : decode cX4_digest 49 = .ok (.goto (-23), 3) := by decide +kernel
theorem dX4_digest_52 : decode cX4_digest 52 = .ok (.iconst 0, 1) := by decide +kernel
theorem dX4_digest_53 : decode cX4_digest 53 = .ok (.istore_n 3, 1) := by decide +kernel
theorem dX4_digest_54 : decode cX4_digest 54 = .ok (.iload_n 3, 1) := by decide +kernel
theorem dX4_digest_55 : decode cX4_digest 55 = .ok (.bipush 27, 2) := by decide +kernel
theorem dX4_digest_57 : decode cX4_digest 57 = .ok (.if_icmp .ge 51, 3) := by decide +kernel
theorem dX4_digest_60 : decode cX4_digest 60 = .ok (.iconst 0, 1) := by decide +kernel
theorem dX4_digest_61 : decode cX4_digest 61 = .ok (.istore 4, 2) := by decide +kernel
theorem dX4_digest_63 : decode cX4_digest 63 = .ok (.iload 4, 2) := by decide +kernel
theorem dX4_digest_65 : decode cX4_digest 65 = .ok (.bipush 7, 2) := by decide +kernel
theorem dX4_digest_67 : decode cX4_digest 67 = .ok (.if_icmp .gt 22, 3) := by decide +kernel
theorem dX4_digest_70 : decode cX4_digest 70 = .ok (.lload_n 1, 1) := by decide +kernel
theorem dX4_digest_71 : decode cX4_digest 71 = .ok (.aload_n 0, 1) := by decide +kernel
theorem dX4_digest_72 : decode cX4_digest 72 = .ok (.iload_n 3, 1) := by decide +kernel
theorem dX4_digest_73 : decode cX4_digest 73 = .ok (.iload 4, 2) := by decide +kernel
theorem dX4_digest_75 : decode cX4_digest 75 = .ok (.invokevirtual 97, 3) := by decide +kernel
theorem dX4_digest_78 : decode cX4_digest 78 = .ok (.i2l, 1) := by decide +kernel
theorem dX4_digest_79 : decode cX4_digest 79 = .ok (.invokestatic 203, 3) := by decide +kernel
theorem dX4_digest_82 : decode cX4_digest 82 = .ok (.lstore_n 1, 1) := by decide +kernel
theorem dX4_digest_83 : decode cX4_digest 83 = .ok (.iinc 4 1, 3) := by decide +kernel
theorem dX4_digest_86 : decode cX4_digest 86 = .ok (.goto (-23), 3) := by decide +kernel
theorem dX4_digest_89 : decode cX4_digest 89 = .ok (.aload_n 0, 1) := by decide +kernel
theorem dX4_digest_90 : decode cX4_digest 90 = .ok (.getfield 10, 3) := by decide +kernel
theorem dX4_digest_93 : decode cX4_digest 93 = .ok (.iload_n 3, 1) := by decide +kernel
theorem dX4_digest_94 : decode cX4_digest 94 = .ok (.invokevirtual 60, 3) := by decide +kernel
theorem dX4_digest_97 : decode cX4_digest 97 = .ok (.lload_n 1, 1) := by decide +kernel
theorem dX4_digest_98 : decode cX4_digest 98 = .ok (.invokevirtual 207, 3) := by decide +kernel
theorem dX4_digest_101 : decode cX4_digest 101 = .ok (.lstore_n 1, 1) := by decide +kernel
theorem dX4_digest_102 : decode cX4_digest 102 = .ok (.iinc 3 1, 3) := by decide +kernel
theorem dX4_digest_105 : decode cX4_digest 105 = .ok (.goto (-51), 3) := by decide +kernel
theorem dX4_digest_108 : decode cX4_digest 108 = .ok (.iconst 0, 1) := by decide +kernel
theorem dX4_digest_109 : decode cX4_digest 109 = .ok (.istore_n 3, 1) := by decide +kernel
theorem dX4_digest_110 : decode cX4_digest 110 = .ok (.iload_n 3, 1) := by decide +kernel
theorem dX4_digest_111 : decode cX4_digest 111 = .ok (.iconst 3, 1) := by decide +kernel
theorem dX4_digest_112 : decode cX4_digest 112 = .ok (.if_icmp .ge 50, 3) := by decide +kernel
theorem dX4_digest_115 : decode cX4_digest 115 = .ok (.iconst 0, 1) := by decide +kernel
theorem dX4_digest_116 : decode cX4_digest 116 = .ok (.istore 4, 2) := by decide +kernel
theorem dX4_digest_118 : decode cX4_digest 118 = .ok (.iload 4, 2) := by decide +kernel
theorem dX4_digest_120 : decode cX4_digest 120 = .ok (.iconst 4, 1) := by decide +kernel
theorem dX4_digest_121 : decode cX4_digest 121 = .ok (.if_icmp .gt 22, 3) := by decide +kernel
theorem dX4_digest_124 : decode cX4_digest 124 = .ok (.lload_n 1, 1) := by decide +kernel
theorem dX4_digest_125 : decode cX4_digest 125 = .ok (.aload_n 0, 1) := by decide +kernel
theorem dX4_digest_126 : decode cX4_digest 126 = .ok (.iload_n 3, 1) := by decide +kernel
theorem dX4_digest_127 : decode cX4_digest 127 = .ok (.iload 4, 2) := by decide +kernel
theorem dX4_digest_129 : decode cX4_digest 129 = .ok (.invokevirtual 147, 3) := by decide +kernel
theorem dX4_digest_132 : decode cX4_digest 132 = .ok (.i2l, 1) := by decide +kernel
theorem dX4_digest_133 : decode cX4_digest 133 = .ok (.invokestatic 203, 3) := by decide +kernel
theorem dX4_digest_136 : decode cX4_digest 136 = .ok (.lstore_n 1, 1) := by decide +kernel
theorem dX4_digest_137 : decode cX4_digest 137 = .ok (.iinc 4 1, 3) := by decide +kernel
theorem dX4_digest_140 : decode cX4_digest 140 = .ok (.goto (-22), 3) := by decide +kernel
theorem dX4_digest_143 : decode cX4_digest 143 = .ok (.aload_n 0, 1) := by decide +kernel
theorem dX4_digest_144 : decode cX4_digest 144 = .ok (.getfield 10, 3) := by decide +kernel
theorem dX4_digest_147 : decode cX4_digest 147 = .ok (.iload_n 3, 1) := by decide +kernel
theorem dX4_digest_148 : decode cX4_digest 148 = .ok (.invokevirtual 113, 3) := by decide +kernel
theorem dX4_digest_151 : decode cX4_digest 151 = .ok (.lload_n 1, 1) := by decide +kernel
theorem dX4_digest_152 : decode cX4_digest 152 = .ok (.invokevirtual 211, 3) := by decide +kernel
theorem dX4_digest_155 : decode cX4_digest 155 = .ok (.lstore_n 1, 1) := by decide +kernel
theorem dX4_digest_156 : decode cX4_digest 156 = .ok (.iinc 3 1, 3) := by decide +kernel
theorem dX4_digest_159 : decode cX4_digest 159 = .ok (.goto (-49), 3) := by decide +kernel
theorem dX4_digest_162 : decode cX4_digest 162 = .ok (.aload_n 0, 1) := by decide +kernel
theorem dX4_digest_163 : decode cX4_digest 163 = .ok (.getfield 10, 3) := by decide +kernel
theorem dX4_digest_166 : decode cX4_digest 166 = .ok (.getfield 141, 3) := by decide +kernel
theorem dX4_digest_169 : decode cX4_digest 169 = .ok (.lload_n 1, 1) := by decide +kernel
theorem dX4_digest_170 : decode cX4_digest 170 = .ok (.invokevirtual 207, 3) := by decide +kernel
theorem dX4_digest_173 : decode cX4_digest 173 = .ok (.lstore_n 1, 1) := by decide +kernel
theorem dX4_digest_174 : decode cX4_digest 174 = .ok (.lload_n 1, 1) := by decide +kernel
theorem dX4_digest_175 : decode cX4_digest 175 = .ok (.aload_n 0, 1) := by decide +kernel
theorem dX4_digest_176 : decode cX4_digest 176 = .ok (.getfield 28, 3) := by decide +kernel
theorem dX4_digest_179 : decode cX4_digest 179 = .ok (.invokevirtual 195, 3) := by decide +kernel
theorem dX4_digest_182 : decode cX4_digest 182 = .ok (.i2l, 1) := by decide +kernel
theorem dX4_digest_183 : decode cX4_digest 183 = .ok (.invokestatic 203, 3) := by decide +kernel
theorem dX4_digest_186 : decode cX4_digest 186 = .ok (.lreturn, 1) := by decide +kernel
theorem dX4_aboutLetter_0 : decode cX4_aboutLetter 0 = .ok (.aload_n 0, 1) := by decide +kernel
theorem dX4_aboutLetter_1 : decode cX4_aboutLetter 1 = .ok (.getfield 10, 3) := by decide +kernel
theorem dX4_aboutLetter_4 : decode cX4_aboutLetter 4 = .ok (.iload_n 1, 1) := by decide +kernel
theorem dX4_aboutLetter_5 : decode cX4_aboutLetter 5 = .ok (.invokevirtual 60, 3) := by decide +kernel
theorem dX4_aboutLetter_8 : decode cX4_aboutLetter 8 = .ok (.astore_n 3, 1) := by decide +kernel
theorem dX4_aboutLetter_9 : decode cX4_aboutLetter 9 = .ok (.iload_n 2, 1) := by decide +kernel
theorem dX4_aboutLetter_10 : decode cX4_aboutLetter 10 = .ok (.tableswitch 104 0 6 #[42, 47, 58, 67, 76, 88, 93], 42) := by decide +kernel
theorem dX4_aboutLetter_52 : decode cX4_aboutLetter 52 = .ok (.aload_n 3, 1) := by decide +kernel
theorem dX4_aboutLetter_53 : decode cX4_aboutLetter 53 = .ok (.invokevirtual 64, 3) := by decide +kernel
theorem dX4_aboutLetter_56 : decode cX4_aboutLetter 56 = .ok (.ireturn, 1) := by decide +kernel
theorem dX4_aboutLetter_57 : decode cX4_aboutLetter 57 = .ok (.aload_n 3, 1) := by decide +kernel
theorem dX4_aboutLetter_58 : decode cX4_aboutLetter 58 = .ok (.invokevirtual 64, 3) := by decide +kernel
theorem dX4_aboutLetter_61 : decode cX4_aboutLetter 61 = .ok (.aload_n 3, 1) := by decide +kernel
theorem dX4_aboutLetter_62 : decode cX4_aboutLetter 62 = .ok (.iload_n 1, 1) := by decide +kernel
theorem dX4_aboutLetter_63 : decode cX4_aboutLetter 63 = .ok (.invokevirtual 212, 3) := by decide +kernel
theorem dX4_aboutLetter_66 : decode cX4_aboutLetter 66 = .ok (.isub, 1) := by decide +kernel
theorem dX4_aboutLetter_67 : decode cX4_aboutLetter 67 = .ok (.ireturn, 1) := by decide +kernel
theorem dX4_aboutLetter_68 : decode cX4_aboutLetter 68 = .ok (.aload_n 0, 1) := by decide +kernel
theorem dX4_aboutLetter_69 : decode cX4_aboutLetter 69 = .ok (.getfield 10, 3) := by decide +kernel
theorem dX4_aboutLetter_72 : decode cX4_aboutLetter 72 = .ok (.iload_n 1, 1) := by decide +kernel
theorem dX4_aboutLetter_73 : decode cX4_aboutLetter 73 = .ok (.invokevirtual 215, 3) := by decide +kernel
theorem dX4_aboutLetter_76 : decode cX4_aboutLetter 76 = .ok (.ireturn, 1) := by decide +kernel
theorem dX4_aboutLetter_77 : decode cX4_aboutLetter 77 = .ok (.aload_n 0, 1) := by decide +kernel
theorem dX4_aboutLetter_78 : decode cX4_aboutLetter 78 = .ok (.getfield 10, 3) := by decide +kernel
theorem dX4_aboutLetter_81 : decode cX4_aboutLetter 81 = .ok (.iload_n 1, 1) := by decide +kernel
theorem dX4_aboutLetter_82 : decode cX4_aboutLetter 82 = .ok (.invokevirtual 218, 3) := by decide +kernel
theorem dX4_aboutLetter_85 : decode cX4_aboutLetter 85 = .ok (.ireturn, 1) := by decide +kernel
theorem dX4_aboutLetter_86 : decode cX4_aboutLetter 86 = .ok (.aload_n 0, 1) := by decide +kernel
theorem dX4_aboutLetter_87 : decode cX4_aboutLetter 87 = .ok (.getfield 10, 3) := by decide +kernel
theorem dX4_aboutLetter_90 : decode cX4_aboutLetter 90 = .ok (.getfield 141, 3) := by decide +kernel
theorem dX4_aboutLetter_93 : decode cX4_aboutLetter 93 = .ok (.iload_n 1, 1) := by decide +kernel
theorem dX4_aboutLetter_94 : decode cX4_aboutLetter 94 = .ok (.invokevirtual 212, 3) := by decide +kernel
theorem dX4_aboutLetter_97 : decode cX4_aboutLetter 97 = .ok (.ireturn, 1) := by decide +kernel
theorem dX4_aboutLetter_98 : decode cX4_aboutLetter 98 = .ok (.iload_n 1, 1) := by decide +kernel
theorem dX4_aboutLetter_99 : decode cX4_aboutLetter 99 = .ok (.invokestatic 221, 3) := by decide +kernel
theorem dX4_aboutLetter_102 : decode cX4_aboutLetter 102 = .ok (.ireturn, 1) := by decide +kernel
theorem dX4_aboutLetter_103 : decode cX4_aboutLetter 103 = .ok (.aload_n 3, 1) := by decide +kernel
theorem dX4_aboutLetter_104 : decode cX4_aboutLetter 104 = .ok (.aload_n 3, 1) := by decide +kernel
theorem dX4_aboutLetter_105 : decode cX4_aboutLetter 105 = .ok (.invokevirtual 64, 3) := by decide +kernel
theorem dX4_aboutLetter_108 : decode cX4_aboutLetter 108 = .ok (.iconst 1, 1) := by decide +kernel
theorem dX4_aboutLetter_109 : decode cX4_aboutLetter 109 = .ok (.isub, 1) := by decide +kernel
theorem dX4_aboutLetter_110 : decode cX4_aboutLetter 110 = .ok (.invokevirtual 104, 3) := by decide +kernel
theorem dX4_aboutLetter_113 : decode cX4_aboutLetter 113 = .ok (.ireturn, 1) := by decide +kernel
theorem dX4_aboutLetter_114 : decode cX4_aboutLetter 114 = .ok (.aload_n 0, 1) := by decide +kernel
theorem dX4_aboutLetter_115 : decode cX4_aboutLetter 115 = .ok (.iload_n 1, 1) := by decide +kernel
theorem dX4_aboutLetter_116 : decode cX4_aboutLetter 116 = .ok (.invokevirtual 68, 3) := by decide +kernel
theorem dX4_aboutLetter_119 : decode cX4_aboutLetter 119 = .ok (.ireturn, 1) := by decide +kernel
theorem dX4_aboutForme_0 : decode cX4_aboutForme 0 = .ok (.aload_n 0, 1) := by decide +kernel
theorem dX4_aboutForme_1 : decode cX4_aboutForme 1 = .ok (.getfield 10, 3) := by decide +kernel
theorem dX4_aboutForme_4 : decode cX4_aboutForme 4 = .ok (.iload_n 1, 1) := by decide +kernel
theorem dX4_aboutForme_5 : decode cX4_aboutForme 5 = .ok (.invokevirtual 113, 3) := by decide +kernel
theorem dX4_aboutForme_8 : decode cX4_aboutForme 8 = .ok (.astore_n 3, 1) := by decide +kernel
theorem dX4_aboutForme_9 : decode cX4_aboutForme 9 = .ok (.iload_n 2, 1) := by decide +kernel
theorem dX4_aboutForme_10 : decode cX4_aboutForme 10 = .ok (.tableswitch 50 0 3 #[30, 35, 40, 45], 30) := by decide +kernel
theorem dX4_aboutForme_40 : decode cX4_aboutForme 40 = .ok (.aload_n 3, 1) := by decide +kernel
theorem dX4_aboutForme_41 : decode cX4_aboutForme 41 = .ok (.invokevirtual 117, 3) := by decide +kernel
theorem dX4_aboutForme_44 : decode cX4_aboutForme 44 = .ok (.ireturn, 1) := by decide +kernel
theorem dX4_aboutForme_45 : decode cX4_aboutForme 45 = .ok (.aload_n 3, 1) := by decide +kernel
theorem dX4_aboutForme_46 : decode cX4_aboutForme 46 = .ok (.invokevirtual 224, 3) := by decide +kernel
theorem dX4_aboutForme_49 : decode cX4_aboutForme 49 = .ok (.ireturn, 1) := by decide +kernel
theorem dX4_aboutForme_50 : decode cX4_aboutForme 50 = .ok (.aload_n 3, 1) := by decide +kernel
theorem dX4_aboutForme_51 : decode cX4_aboutForme 51 = .ok (.invokevirtual 167, 3) := by decide +kernel
theorem dX4_aboutForme_54 : decode cX4_aboutForme 54 = .ok (.ireturn, 1) := by decide +kernel
theorem dX4_aboutForme_55 : decode cX4_aboutForme 55 = .ok (.aload_n 3, 1) := by decide +kernel
theorem dX4_aboutForme_56 : decode cX4_aboutForme 56 = .ok (.invokevirtual 170, 3) := by decide +kernel
theorem dX4_aboutForme_59 : decode cX4_aboutForme 59 = .ok (.ireturn, 1) := by decide +kernel
theorem dX4_aboutForme_60 : decode cX4_aboutForme 60 = .ok (.aload_n 0, 1) := by decide +kernel
theorem dX4_aboutForme_61 : decode cX4_aboutForme 61 = .ok (.getfield 32, 3) := by decide +kernel
theorem dX4_aboutForme_64 : decode cX4_aboutForme 64 = .ok (.aload_n 0, 1) := by decide +kernel
theorem dX4_aboutForme_65 : decode cX4_aboutForme 65 = .ok (.getfield 10, 3) := by decide +kernel
theorem dX4_aboutForme_68 : decode cX4_aboutForme 68 = .ok (.invokevirtual 173, 3) := by decide +kernel
theorem dX4_aboutForme_71 : decode cX4_aboutForme 71 = .ok (.aload_n 0, 1) := by decide +kernel
theorem dX4_aboutForme_72 : decode cX4_aboutForme 72 = .ok (.getfield 32, 3) := by decide +kernel
theorem dX4_aboutForme_75 : decode cX4_aboutForme 75 = .ok (.aload_n 0, 1) := by decide +kernel
theorem dX4_aboutForme_76 : decode cX4_aboutForme 76 = .ok (.getfield 32, 3) := by decide +kernel
theorem dX4_aboutForme_79 : decode cX4_aboutForme 79 = .ok (.iload_n 1, 1) := by decide +kernel
theorem dX4_aboutForme_80 : decode cX4_aboutForme 80 = .ok (.invokevirtual 113, 3) := by decide +kernel
theorem dX4_aboutForme_83 : decode cX4_aboutForme 83 = .ok (.invokevirtual 130, 3) := by decide +kernel
theorem dX4_aboutForme_86 : decode cX4_aboutForme 86 = .ok (.ireturn, 1) := by decide +kernel
theorem dX4_lackingOf_0 : decode cX4_lackingOf 0 = .ok (.iconst 0, 1) := by decide +kernel
theorem dX4_lackingOf_1 : decode cX4_lackingOf 1 = .ok (.aload_n 0, 1) := by decide +kernel
theorem dX4_lackingOf_2 : decode cX4_lackingOf 2 = .ok (.getfield 21, 3) := by decide +kernel
theorem dX4_lackingOf_5 : decode cX4_lackingOf 5 = .ok (.iload_n 1, 1) := by decide +kernel
theorem dX4_lackingOf_6 : decode cX4_lackingOf 6 = .ok (.invokevirtual 212, 3) := by decide +kernel
theorem dX4_lackingOf_9 : decode cX4_lackingOf 9 = .ok (.aload_n 0, 1) := by decide +kernel
theorem dX4_lackingOf_10 : decode cX4_lackingOf 10 = .ok (.getfield 10, 3) := by decide +kernel
theorem dX4_lackingOf_13 : decode cX4_lackingOf 13 = .ok (.iload_n 1, 1) := by decide +kernel
theorem dX4_lackingOf_14 : decode cX4_lackingOf 14 = .ok (.invokevirtual 60, 3) := by decide +kernel
theorem dX4_lackingOf_17 : decode cX4_lackingOf 17 = .ok (.iload_n 1, 1) := by decide +kernel
theorem dX4_lackingOf_18 : decode cX4_lackingOf 18 = .ok (.invokevirtual 212, 3) := by decide +kernel
theorem dX4_lackingOf_21 : decode cX4_lackingOf 21 = .ok (.isub, 1) := by decide +kernel
theorem dX4_lackingOf_22 : decode cX4_lackingOf 22 = .ok (.invokestatic 225, 3) := by decide +kernel
theorem dX4_lackingOf_25 : decode cX4_lackingOf 25 = .ok (.ireturn, 1) := by decide +kernel
theorem dX4_settingGoes_0 : decode cX4_settingGoes 0 = .ok (.aload_n 0, 1) := by decide +kernel
theorem dX4_settingGoes_1 : decode cX4_settingGoes 1 = .ok (.getfield 32, 3) := by decide +kernel
theorem dX4_settingGoes_4 : decode cX4_settingGoes 4 = .ok (.aload_n 0, 1) := by decide +kernel
theorem dX4_settingGoes_5 : decode cX4_settingGoes 5 = .ok (.getfield 10, 3) := by decide +kernel
theorem dX4_settingGoes_8 : decode cX4_settingGoes 8 = .ok (.invokevirtual 173, 3) := by decide +kernel
theorem dX4_settingGoes_11 : decode cX4_settingGoes 11 = .ok (.aload_n 0, 1) := by decide +kernel
theorem dX4_settingGoes_12 : decode cX4_settingGoes 12 = .ok (.invokevirtual 176, 3) := by decide +kernel
theorem dX4_settingGoes_15 : decode cX4_settingGoes 15 = .ok (.ireturn, 1) := by decide +kernel
theorem dX4_trialGoes_0 : decode cX4_trialGoes 0 = .ok (.aload_n 0, 1) := by decide +kernel
theorem dX4_trialGoes_1 : decode cX4_trialGoes 1 = .ok (.getfield 38, 3) := by decide +kernel
theorem dX4_trialGoes_4 : decode cX4_trialGoes 4 = .ok (.invokevirtual 230, 3) := by decide +kernel
theorem dX4_trialGoes_7 : decode cX4_trialGoes 7 = .ok (.aload_n 0, 1) := by decide +kernel
theorem dX4_trialGoes_8 : decode cX4_trialGoes 8 = .ok (.getfield 21, 3) := by decide +kernel
theorem dX4_trialGoes_11 : decode cX4_trialGoes 11 = .ok (.invokevirtual 64, 3) := by decide +kernel
theorem dX4_trialGoes_14 : decode cX4_trialGoes 14 = .ok (.ifCond .le 25, 3) := by decide +kernel
theorem dX4_trialGoes_17 : decode cX4_trialGoes 17 = .ok (.aload_n 0, 1) := by decide +kernel
theorem dX4_trialGoes_18 : decode cX4_trialGoes 18 = .ok (.getfield 32, 3) := by decide +kernel
theorem dX4_trialGoes_21 : decode cX4_trialGoes 21 = .ok (.aload_n 0, 1) := by decide +kernel
theorem dX4_trialGoes_22 : decode cX4_trialGoes 22 = .ok (.getfield 21, 3) := by decide +kernel
theorem dX4_trialGoes_25 : decode cX4_trialGoes 25 = .ok (.aload_n 0, 1) := by decide +kernel
theorem dX4_trialGoes_26 : decode cX4_trialGoes 26 = .ok (.getfield 38, 3) := by decide +kernel
theorem dX4_trialGoes_29 : decode cX4_trialGoes 29 = .ok (.invokevirtual 126, 3) := by decide +kernel
theorem dX4_trialGoes_32 : decode cX4_trialGoes 32 = .ok (.ifCond .eq 7, 3) := by decide +kernel
theorem dX4_trialGoes_35 : decode cX4_trialGoes 35 = .ok (.iconst 1, 1) := by decide +kernel
theorem dX4_trialGoes_36 : decode cX4_trialGoes 36 = .ok (.goto 4, 3) := by decide +kernel
theorem dX4_trialGoes_39 : decode cX4_trialGoes 39 = .ok (.iconst 0, 1) := by decide +kernel
theorem dX4_trialGoes_40 : decode cX4_trialGoes 40 = .ok (.ireturn, 1) := by decide +kernel
theorem dX4_requireLetter_0 : decode cX4_requireLetter 0 = .ok (.iload_n 0, 1) := by decide +kernel
theorem dX4_requireLetter_1 : decode cX4_requireLetter 1 = .ok (.bipush 27, 2) := by decide +kernel
theorem dX4_requireLetter_3 : decode cX4_requireLetter 3 = .ok (.invokestatic 101, 3) := by decide +kernel
theorem dX4_requireLetter_6 : decode cX4_requireLetter 6 = .ok (.return_, 1) := by decide +kernel
theorem dX4_requireForme_0 : decode cX4_requireForme 0 = .ok (.iload_n 0, 1) := by decide +kernel
theorem dX4_requireForme_1 : decode cX4_requireForme 1 = .ok (.iconst 3, 1) := by decide +kernel
theorem dX4_requireForme_2 : decode cX4_requireForme 2 = .ok (.invokestatic 101, 3) := by decide +kernel
theorem dX4_requireForme_5 : decode cX4_requireForme 5 = .ok (.return_, 1) := by decide +kernel
theorem dX4_requireIndex_0 : decode cX4_requireIndex 0 = .ok (.iload_n 0, 1) := by decide +kernel
theorem dX4_requireIndex_1 : decode cX4_requireIndex 1 = .ok (.ifCond .lt 8, 3) := by decide +kernel
theorem dX4_requireIndex_4 : decode cX4_requireIndex 4 = .ok (.iload_n 0, 1) := by decide +kernel
theorem dX4_requireIndex_5 : decode cX4_requireIndex 5 = .ok (.iload_n 1, 1) := by decide +kernel
theorem dX4_requireIndex_6 : decode cX4_requireIndex 6 = .ok (.if_icmp .lt 13, 3) := by decide +kernel
theorem dX4_requireIndex_9 : decode cX4_requireIndex 9 = .ok (.new 159, 3) := by decide +kernel
theorem dX4_requireIndex_12 : decode cX4_requireIndex 12 = .ok (.dup, 1) := by decide +kernel
theorem dX4_requireIndex_13 : decode cX4_requireIndex 13 = .ok (.ldc 231, 2) := by decide +kernel
theorem dX4_requireIndex_15 : decode cX4_requireIndex 15 = .ok (.invokespecial 163, 3) := by decide +kernel
theorem dX4_requireIndex_18 : decode cX4_requireIndex 18 = .ok (.athrow, 1) := by decide +kernel
theorem dX4_requireIndex_19 : decode cX4_requireIndex 19 = .ok (.return_, 1) := by decide +kernel
theorem dX4_requireRange_0 : decode cX4_requireRange 0 = .ok (.iload_n 0, 1) := by decide +kernel
theorem dX4_requireRange_1 : decode cX4_requireRange 1 = .ok (.iload_n 1, 1) := by decide +kernel
theorem dX4_requireRange_2 : decode cX4_requireRange 2 = .ok (.if_icmp .lt 8, 3) := by decide +kernel
theorem dX4_requireRange_5 : decode cX4_requireRange 5 = .ok (.iload_n 0, 1) := by decide +kernel
theorem dX4_requireRange_6 : decode cX4_requireRange 6 = .ok (.iload_n 2, 1) := by decide +kernel
theorem dX4_requireRange_7 : decode cX4_requireRange 7 = .ok (.if_icmp .le 13, 3) := by decide +kernel
theorem dX4_requireRange_10 : decode cX4_requireRange 10 = .ok (.new 72, 3) := by decide +kernel
theorem dX4_requireRange_13 : decode cX4_requireRange 13 = .ok (.dup, 1) := by decide +kernel
theorem dX4_requireRange_14 : decode cX4_requireRange 14 = .ok (.ldc 233, 2) := by decide +kernel
theorem dX4_requireRange_16 : decode cX4_requireRange 16 = .ok (.invokespecial 76, 3) := by decide +kernel
theorem dX4_requireRange_19 : decode cX4_requireRange 19 = .ok (.athrow, 1) := by decide +kernel
theorem dX4_requireRange_20 : decode cX4_requireRange 20 = .ok (.return_, 1) := by decide +kernel
theorem dX4_requireRoomFor_0 : decode cX4_requireRoomFor 0 = .ok (.aload_n 0, 1) := by decide +kernel
theorem dX4_requireRoomFor_1 : decode cX4_requireRoomFor 1 = .ok (.getfield 10, 3) := by decide +kernel
theorem dX4_requireRoomFor_4 : decode cX4_requireRoomFor 4 = .ok (.invokevirtual 235, 3) := by decide +kernel
theorem dX4_requireRoomFor_7 : decode cX4_requireRoomFor 7 = .ok (.iload_n 1, 1) := by decide +kernel
theorem dX4_requireRoomFor_8 : decode cX4_requireRoomFor 8 = .ok (.iadd, 1) := by decide +kernel
theorem dX4_requireRoomFor_9 : decode cX4_requireRoomFor 9 = .ok (.sipush 250, 3) := by decide +kernel
theorem dX4_requireRoomFor_12 : decode cX4_requireRoomFor 12 = .ok (.if_icmp .le 13, 3) := by decide +kernel
theorem dX4_requireRoomFor_15 : decode cX4_requireRoomFor 15 = .ok (.new 79, 3) := by decide +kernel
theorem dX4_requireRoomFor_18 : decode cX4_requireRoomFor 18 = .ok (.dup, 1) := by decide +kernel
theorem dX4_requireRoomFor_19 : decode cX4_requireRoomFor 19 = .ok (.ldc 238, 2) := by decide +kernel
theorem dX4_requireRoomFor_21 : decode cX4_requireRoomFor 21 = .ok (.invokespecial 83, 3) := by decide +kernel
theorem dX4_requireRoomFor_24 : decode cX4_requireRoomFor 24 = .ok (.athrow, 1) := by decide +kernel
theorem dX4_requireRoomFor_25 : decode cX4_requireRoomFor 25 = .ok (.return_, 1) := by decide +kernel
theorem dX4_widthOf_0 : decode cX4_widthOf 0 = .ok (.iload_n 0, 1) := by decide +kernel
theorem dX4_widthOf_1 : decode cX4_widthOf 1 = .ok (.ifCond .lt 19, 3) := by decide +kernel
theorem dX4_widthOf_4 : decode cX4_widthOf 4 = .ok (.iload_n 0, 1) := by decide +kernel
theorem dX4_widthOf_5 : decode cX4_widthOf 5 = .ok (.getstatic 240, 3) := by decide +kernel
theorem dX4_widthOf_8 : decode cX4_widthOf 8 = .ok (.arraylength, 1) := by decide +kernel
theorem dX4_widthOf_9 : decode cX4_widthOf 9 = .ok (.if_icmp .ge 11, 3) := by decide +kernel
theorem dX4_widthOf_12 : decode cX4_widthOf 12 = .ok (.getstatic 240, 3) := by decide +kernel
theorem dX4_widthOf_15 : decode cX4_widthOf 15 = .ok (.iload_n 0, 1) := by decide +kernel
theorem dX4_widthOf_16 : decode cX4_widthOf 16 = .ok (.iaload, 1) := by decide +kernel
theorem dX4_widthOf_17 : decode cX4_widthOf 17 = .ok (.goto 4, 3) := by decide +kernel
theorem dX4_widthOf_20 : decode cX4_widthOf 20 = .ok (.iconst (-1), 1) := by decide +kernel
theorem dX4_widthOf_21 : decode cX4_widthOf 21 = .ok (.ireturn, 1) := by decide +kernel
theorem dX4_mixed_0 : decode cX4_mixed 0 = .ok (.ldc2_w 244, 3) := by decide +kernel
theorem dX4_mixed_3 : decode cX4_mixed 3 = .ok (.lload_n 0, 1) := by decide +kernel
theorem dX4_mixed_4 : decode cX4_mixed 4 = .ok (.lmul, 1) := by decide +kernel
theorem dX4_mixed_5 : decode cX4_mixed 5 = .ok (.lload_n 2, 1) := by decide +kernel
theorem dX4_mixed_6 : decode cX4_mixed 6 = .ok (.ladd, 1) := by decide +kernel
theorem dX4_mixed_7 : decode cX4_mixed 7 = .ok (.lreturn, 1) := by decide +kernel
theorem dX5_init_0 : decode cX5_init 0 = .ok (.aload_n 0, 1) := by decide +kernel
theorem dX5_init_1 : decode cX5_init 1 = .ok (.invokespecial 1, 3) := by decide +kernel
theorem dX5_init_4 : decode cX5_init 4 = .ok (.aload_n 0, 1) := by decide +kernel
theorem dX5_init_5 : decode cX5_init 5 = .ok (.sipush 1542, 3) := by decide +kernel
theorem dX5_init_8 : decode cX5_init 8 = .ok (.newarray .int, 2) := by decide +kernel
theorem dX5_init_10 : decode cX5_init 10 = .ok (.putfield 7, 3) := by decide +kernel
theorem dX5_init_13 : decode cX5_init 13 = .ok (.aload_n 0, 1) := by decide +kernel
theorem dX5_init_14 : decode cX5_init 14 = .ok (.sipush 6168, 3) := by decide +kernel
theorem dX5_init_17 : decode cX5_init 17 = .ok (.newarray .int, 2) := by decide +kernel
theorem dX5_init_19 : decode cX5_init 19 = .ok (.putfield 13, 3) := by decide +kernel
theorem dX5_init_22 : decode cX5_init 22 = .ok (.aload_n 0, 1) := by decide +kernel
theorem dX5_init_23 : decode cX5_init 23 = .ok (.sipush 1542, 3) := by decide +kernel
theorem dX5_init_26 : decode cX5_init 26 = .ok (.newarray .int, 2) := by decide +kernel
theorem dX5_init_28 : decode cX5_init 28 = .ok (.putfield 16, 3) := by decide +kernel
theorem dX5_init_31 : decode cX5_init 31 = .ok (.aload_n 0, 1) := by decide +kernel
theorem dX5_init_32 : decode cX5_init 32 = .ok (.bipush 16, 2) := by decide +kernel
theorem dX5_init_34 : decode cX5_init 34 = .ok (.newarray .int, 2) := by decide +kernel
theorem dX5_init_36 : decode cX5_init 36 = .ok (.putfield 19, 3) := by decide +kernel
theorem dX5_init_39 : decode cX5_init 39 = .ok (.aload_n 0, 1) := by decide +kernel
theorem dX5_init_40 : decode cX5_init 40 = .ok (.sipush 250, 3) := by decide +kernel
theorem dX5_init_43 : decode cX5_init 43 = .ok (.newarray .int, 2) := by decide +kernel
theorem dX5_init_45 : decode cX5_init 45 = .ok (.putfield 22, 3) := by decide +kernel
theorem dX5_init_48 : decode cX5_init 48 = .ok (.aload_n 0, 1) := by decide +kernel
theorem dX5_init_49 : decode cX5_init 49 = .ok (.bipush 16, 2) := by decide +kernel
theorem dX5_init_51 : decode cX5_init 51 = .ok (.newarray .int, 2) := by decide +kernel
theorem dX5_init_53 : decode cX5_init 53 = .ok (.putfield 25, 3) := by decide +kernel
theorem dX5_init_56 : decode cX5_init 56 = .ok (.aload_n 0, 1) := by decide +kernel
theorem dX5_init_57 : decode cX5_init 57 = .ok (.bipush 16, 2) := by decide +kernel
theorem dX5_init_59 : decode cX5_init 59 = .ok (.newarray .int, 2) := by decide +kernel
theorem dX5_init_61 : decode cX5_init 61 = .ok (.putfield 28, 3) := by decide +kernel
theorem dX5_init_64 : decode cX5_init 64 = .ok (.iconst 0, 1) := by decide +kernel
theorem dX5_init_65 : decode cX5_init 65 = .ok (.istore_n 1, 1) := by decide +kernel
theorem dX5_init_66 : decode cX5_init 66 = .ok (.iload_n 1, 1) := by decide +kernel
theorem dX5_init_67 : decode cX5_init 67 = .ok (.sipush 250, 3) := by decide +kernel
theorem dX5_init_70 : decode cX5_init 70 = .ok (.if_icmp .ge 18, 3) := by decide +kernel
theorem dX5_init_73 : decode cX5_init 73 = .ok (.aload_n 0, 1) := by decide +kernel
theorem dX5_init_74 : decode cX5_init 74 = .ok (.getfield 7, 3) := by decide +kernel
theorem dX5_init_77 : decode cX5_init 77 = .ok (.iconst 0, 1) := by decide +kernel
theorem dX5_init_78 : decode cX5_init 78 = .ok (.iload_n 1, 1) := by decide +kernel
theorem dX5_init_79 : decode cX5_init 79 = .ok (.iadd, 1) := by decide +kernel
theorem dX5_init_80 : decode cX5_init 80 = .ok (.iconst (-1), 1) := by decide +kernel
theorem dX5_init_81 : decode cX5_init 81 = .ok (.iastore, 1) := by decide +kernel
theorem dX5_init_82 : decode cX5_init 82 = .ok (.iinc 1 1, 3) := by decide +kernel
theorem dX5_init_85 : decode cX5_init 85 = .ok (.goto (-19), 3) := by decide +kernel
theorem dX5_init_88 : decode cX5_init 88 = .ok (.iconst 0, 1) := by decide +kernel
theorem dX5_init_89 : decode cX5_init 89 = .ok (.istore_n 1, 1) := by decide +kernel
theorem dX5_init_90 : decode cX5_init 90 = .ok (.iload_n 1, 1) := by decide +kernel
theorem dX5_init_91 : decode cX5_init 91 = .ok (.bipush 27, 2) := by decide +kernel
theorem dX5_init_93 : decode cX5_init 93 = .ok (.if_icmp .ge 20, 3) := by decide +kernel
theorem dX5_init_96 : decode cX5_init 96 = .ok (.aload_n 0, 1) := by decide +kernel
theorem dX5_init_97 : decode cX5_init 97 = .ok (.getfield 7, 3) := by decide +kernel
theorem dX5_init_100 : decode cX5_init 100 = .ok (.sipush 500, 3) := by decide +kernel
theorem dX5_init_103 : decode cX5_init 103 = .ok (.iload_n 1, 1) := by decide +kernel
theorem dX5_init_104 : decode cX5_init 104 = .ok (.iadd, 1) := by decide +kernel
theorem dX5_init_105 : decode cX5_init 105 = .ok (.iconst (-1), 1) := by decide +kernel
theorem dX5_init_106 : decode cX5_init 106 = .ok (.iastore, 1) := by decide +kernel
theorem dX5_init_107 : decode cX5_init 107 = .ok (.iinc 1 1, 3) := by decide +kernel
theorem dX5_init_110 : decode cX5_init 110 = .ok (.goto (-20), 3) := by decide +kernel
theorem dX5_init_113 : decode cX5_init 113 = .ok (.aload_n 0, 1) := by decide +kernel
theorem dX5_init_114 : decode cX5_init 114 = .ok (.getfield 7, 3) := by decide +kernel
theorem dX5_init_117 : decode cX5_init 117 = .ok (.sipush 1517, 3) := by decide +kernel
theorem dX5_init_120 : decode cX5_init 120 = .ok (.iconst 3, 1) := by decide +kernel
theorem dX5_init_121 : decode cX5_init 121 = .ok (.iastore, 1) := by decide +kernel
theorem dX5_init_122 : decode cX5_init 122 = .ok (.return_, 1) := by decide +kernel
theorem dX5_thrown_0 : decode cX5_thrown 0 = .ok (.aload_n 0, 1) := by decide +kernel
theorem dX5_thrown_1 : decode cX5_thrown 1 = .ok (.getfield 31, 3) := by decide +kernel
theorem dX5_thrown_4 : decode cX5_thrown 4 = .ok (.ireturn, 1) := by decide +kernel
theorem dX5_in_0 : decode cX5_in 0 = .ok (.lload_n 0, 1) := by decide +kernel
theorem dX5_in_1 : decode cX5_in 1 = .ok (.lload_n 2, 1) := by decide +kernel
theorem dX5_in_2 : decode cX5_in 2 = .ok (.lcmp, 1) := by decide +kernel
theorem dX5_in_3 : decode cX5_in 3 = .ok (.ifCond .lt 14, 3) := by decide +kernel
theorem dX5_in_6 : decode cX5_in 6 = .ok (.lload_n 0, 1) := by decide +kernel
theorem dX5_in_7 : decode cX5_in 7 = .ok (.lload 4, 2) := by decide +kernel
theorem dX5_in_9 : decode cX5_in 9 = .ok (.lcmp, 1) := by decide +kernel
theorem dX5_in_10 : decode cX5_in 10 = .ok (.ifCond .gt 7, 3) := by decide +kernel
theorem dX5_in_13 : decode cX5_in 13 = .ok (.iconst 1, 1) := by decide +kernel
theorem dX5_in_14 : decode cX5_in 14 = .ok (.goto 4, 3) := by decide +kernel
theorem dX5_in_17 : decode cX5_in 17 = .ok (.iconst 0, 1) := by decide +kernel
theorem dX5_in_18 : decode cX5_in 18 = .ok (.ireturn, 1) := by decide +kernel
theorem dX5_fine_0 : decode cX5_fine 0 = .ok (.aload_n 0, 1) := by decide +kernel
theorem dX5_fine_1 : decode cX5_fine 1 = .ok (.iconst 0, 1) := by decide +kernel
theorem dX5_fine_2 : decode cX5_fine 2 = .ok (.putfield 31, 3) := by decide +kernel
theorem dX5_fine_5 : decode cX5_fine 5 = .ok (.iload_n 1, 1) := by decide +kernel
theorem dX5_fine_6 : decode cX5_fine 6 = .ok (.ireturn, 1) := by decide +kernel
theorem dX5_throwing_0 : decode cX5_throwing 0 = .ok (.aload_n 0, 1) := by decide +kernel
theorem dX5_throwing_1 : decode cX5_throwing 1 = .ok (.iload_n 1, 1) := by decide +kernel
theorem dX5_throwing_2 : decode cX5_throwing 2 = .ok (.putfield 31, 3) := by decide +kernel
theorem dX5_throwing_5 : decode cX5_throwing 5 = .ok (.iconst 0, 1) := by decide +kernel
theorem dX5_throwing_6 : decode cX5_throwing 6 = .ok (.ireturn, 1) := by decide +kernel
theorem dX5_save_0 : decode cX5_save 0 = .ok (.aload_n 0, 1) := by decide +kernel
theorem dX5_save_1 : decode cX5_save 1 = .ok (.getfield 35, 3) := by decide +kernel
theorem dX5_save_4 : decode cX5_save 4 = .ok (.iconst 4, 1) := by decide +kernel
theorem dX5_save_5 : decode cX5_save 5 = .ok (.if_icmp .ne 44, 3) := by decide +kernel
theorem dX5_save_8 : decode cX5_save 8 = .ok (.iconst 0, 1) := by decide +kernel
theorem dX5_save_9 : decode cX5_save 9 = .ok (.istore_n 1, 1) := by decide +kernel
theorem dX5_save_10 : decode cX5_save 10 = .ok (.iload_n 1, 1) := by decide +kernel
theorem dX5_save_11 : decode cX5_save 11 = .ok (.sipush 4626, 3) := by decide +kernel
theorem dX5_save_14 : decode cX5_save 14 = .ok (.if_icmp .ge 25, 3) := by decide +kernel
theorem dX5_save_17 : decode cX5_save 17 = .ok (.aload_n 0, 1) := by decide +kernel
theorem dX5_save_18 : decode cX5_save 18 = .ok (.getfield 13, 3) := by decide +kernel
theorem dX5_save_21 : decode cX5_save 21 = .ok (.iload_n 1, 1) := by decide +kernel
theorem dX5_save_22 : decode cX5_save 22 = .ok (.aload_n 0, 1) := by decide +kernel
theorem dX5_save_23 : decode cX5_save 23 = .ok (.getfield 13, 3) := by decide +kernel
theorem dX5_save_26 : decode cX5_save 26 = .ok (.iload_n 1, 1) := by decide +kernel
theorem dX5_save_27 : decode cX5_save 27 = .ok (.sipush 1542, 3) := by decide +kernel
theorem dX5_save_30 : decode cX5_save 30 = .ok (.iadd, 1) := by decide +kernel
theorem dX5_save_31 : decode cX5_save 31 = .ok (.iaload, 1) := by decide +kernel
theorem dX5_save_32 : decode cX5_save 32 = .ok (.iastore, 1) := by decide +kernel
theorem dX5_save_33 : decode cX5_save 33 = .ok (.iinc 1 1, 3) := by decide +kernel
theorem dX5_save_36 : decode cX5_save 36 = .ok (.goto (-26), 3) := by decide +kernel
theorem dX5_save_39 : decode cX5_save 39 = .ok (.aload_n 0, 1) := by decide +kernel
theorem dX5_save_40 : decode cX5_save 40 = .ok (.dup, 1) := by decide +kernel
theorem dX5_save_41 : decode cX5_save 41 = .ok (.getfield 35, 3) := by decide +kernel
theorem dX5_save_44 : decode cX5_save 44 = .ok (.iconst 1, 1) := by decide +kernel
theorem dX5_save_45 : decode cX5_save 45 = .ok (.isub, 1) := by decide +kernel
theorem dX5_save_46 : decode cX5_save 46 = .ok (.putfield 35, 3) := by decide +kernel
theorem dX5_save_49 : decode cX5_save 49 = .ok (.iconst 0, 1) := by decide +kernel
theorem dX5_save_50 : decode cX5_save 50 = .ok (.istore_n 1, 1) := by decide +kernel
theorem dX5_save_51 : decode cX5_save 51 = .ok (.iload_n 1, 1) := by decide +kernel
theorem dX5_save_52 : decode cX5_save 52 = .ok (.sipush 1542, 3) := by decide +kernel
theorem dX5_save_55 : decode cX5_save 55 = .ok (.if_icmp .ge 30, 3) := by decide +kernel
theorem dX5_save_58 : decode cX5_save 58 = .ok (.aload_n 0, 1) := by decide +kernel
theorem dX5_save_59 : decode cX5_save 59 = .ok (.getfield 13, 3) := by decide +kernel
theorem dX5_save_62 : decode cX5_save 62 = .ok (.sipush 1542, 3) := by decide +kernel
theorem dX5_save_65 : decode cX5_save 65 = .ok (.aload_n 0, 1) := by decide +kernel
theorem dX5_save_66 : decode cX5_save 66 = .ok (.getfield 35, 3) := by decide +kernel
theorem dX5_save_69 : decode cX5_save 69 = .ok (.imul, 1) := by decide +kernel
theorem dX5_save_70 : decode cX5_save 70 = .ok (.iload_n 1, 1) := by decide +kernel
theorem dX5_save_71 : decode cX5_save 71 = .ok (.iadd, 1) := by decide +kernel
theorem dX5_save_72 : decode cX5_save 72 = .ok (.aload_n 0, 1) := by decide +kernel
theorem dX5_save_73 : decode cX5_save 73 = .ok (.getfield 7, 3) := by decide +kernel
theorem dX5_save_76 : decode cX5_save 76 = .ok (.iload_n 1, 1) := by decide +kernel
theorem dX5_save_77 : decode cX5_save 77 = .ok (.iaload, 1) := by decide +kernel
theorem dX5_save_78 : decode cX5_save 78 = .ok (.iastore, 1) := by decide +kernel
theorem dX5_save_79 : decode cX5_save 79 = .ok (.iinc 1 1, 3) := by decide +kernel
theorem dX5_save_82 : decode cX5_save 82 = .ok (.goto (-31), 3) := by decide +kernel
theorem dX5_save_85 : decode cX5_save 85 = .ok (.aload_n 0, 1) := by decide +kernel
theorem dX5_save_86 : decode cX5_save 86 = .ok (.dup, 1) := by decide +kernel
theorem dX5_save_87 : decode cX5_save 87 = .ok (.getfield 35, 3) := by decide +kernel
theorem dX5_save_90 : decode cX5_save 90 = .ok (.iconst 1, 1) := by decide +kernel
theorem dX5_save_91 : decode cX5_save 91 = .ok (.iadd, 1) := by decide +kernel
theorem dX5_save_92 : decode cX5_save 92 = .ok (.putfield 35, 3) := by decide +kernel
theorem dX5_save_95 : decode cX5_save 95 = .ok (.return_, 1) := by decide +kernel
theorem dX5_laysAside_0 : decode cX5_laysAside 0 = .ok (.iconst 0, 1) := by decide +kernel
theorem dX5_laysAside_1 : decode cX5_laysAside 1 = .ok (.istore_n 1, 1) := by decide +kernel
theorem dX5_laysAside_2 : decode cX5_laysAside 2 = .ok (.iload_n 1, 1) := by decide +kernel
theorem dX5_laysAside_3 : decode cX5_laysAside 3 = .ok (.sipush 1542, 3) := by decide +kernel
theorem dX5_laysAside_6 : decode cX5_laysAside 6 = .ok (.if_icmp .ge 21, 3) := by decide +kernel
theorem dX5_laysAside_9 : decode cX5_laysAside 9 = .ok (.aload_n 0, 1) := by decide +kernel
theorem dX5_laysAside_10 : decode cX5_laysAside 10 = .ok (.getfield 16, 3) := by decide +kernel
theorem dX5_laysAside_13 : decode cX5_laysAside 13 = .ok (.iload_n 1, 1) := by decide +kernel
theorem dX5_laysAside_14 : decode cX5_laysAside 14 = .ok (.aload_n 0, 1) := by decide +kernel
theorem dX5_laysAside_15 : decode cX5_laysAside 15 = .ok (.getfield 7, 3) := by decide +kernel
theorem dX5_laysAside_18 : decode cX5_laysAside 18 = .ok (.iload_n 1, 1) := by decide +kernel
theorem dX5_laysAside_19 : decode cX5_laysAside 19 = .ok (.iaload, 1) := by decide +kernel
theorem dX5_laysAside_20 : decode cX5_laysAside 20 = .ok (.iastore, 1) := by decide +kernel
theorem dX5_laysAside_21 : decode cX5_laysAside 21 = .ok (.iinc 1 1, 3) := by decide +kernel
theorem dX5_laysAside_24 : decode cX5_laysAside 24 = .ok (.goto (-22), 3) := by decide +kernel
theorem dX5_laysAside_27 : decode cX5_laysAside 27 = .ok (.return_, 1) := by decide +kernel
theorem dX5_takesBack_0 : decode cX5_takesBack 0 = .ok (.iconst 0, 1) := by decide +kernel
theorem dX5_takesBack_1 : decode cX5_takesBack 1 = .ok (.istore_n 1, 1) := by decide +kernel
theorem dX5_takesBack_2 : decode cX5_takesBack 2 = .ok (.iload_n 1, 1) := by decide +kernel
theorem dX5_takesBack_3 : decode cX5_takesBack 3 = .ok (.sipush 1542, 3) := by decide +kernel
theorem dX5_takesBack_6 : decode cX5_takesBack 6 = .ok (.if_icmp .ge 21, 3) := by decide +kernel
theorem dX5_takesBack_9 : decode cX5_takesBack 9 = .ok (.aload_n 0, 1) := by decide +kernel
theorem dX5_takesBack_10 : decode cX5_takesBack 10 = .ok (.getfield 7, 3) := by decide +kernel
theorem dX5_takesBack_13 : decode cX5_takesBack 13 = .ok (.iload_n 1, 1) := by decide +kernel
theorem dX5_takesBack_14 : decode cX5_takesBack 14 = .ok (.aload_n 0, 1) := by decide +kernel
theorem dX5_takesBack_15 : decode cX5_takesBack 15 = .ok (.getfield 16, 3) := by decide +kernel
theorem dX5_takesBack_18 : decode cX5_takesBack 18 = .ok (.iload_n 1, 1) := by decide +kernel
theorem dX5_takesBack_19 : decode cX5_takesBack 19 = .ok (.iaload, 1) := by decide +kernel
theorem dX5_takesBack_20 : decode cX5_takesBack 20 = .ok (.iastore, 1) := by decide +kernel
theorem dX5_takesBack_21 : decode cX5_takesBack 21 = .ok (.iinc 1 1, 3) := by decide +kernel
theorem dX5_takesBack_24 : decode cX5_takesBack 24 = .ok (.goto (-22), 3) := by decide +kernel
theorem dX5_takesBack_27 : decode cX5_takesBack 27 = .ok (.return_, 1) := by decide +kernel
theorem dX5_isLetter_0 : decode cX5_isLetter 0 = .ok (.iload_n 0, 1) := by decide +kernel
theorem dX5_isLetter_1 : decode cX5_isLetter 1 = .ok (.i2l, 1) := by decide +kernel
theorem dX5_isLetter_2 : decode cX5_isLetter 2 = .ok (.lconst 0, 1) := by decide +kernel
theorem dX5_isLetter_3 : decode cX5_isLetter 3 = .ok (.ldc2_w 38, 3) := by decide +kernel
theorem dX5_isLetter_6 : decode cX5_isLetter 6 = .ok (.invokestatic 40, 3) := by decide +kernel
theorem dX5_isLetter_9 : decode cX5_isLetter 9 = .ok (.ireturn, 1) := by decide +kernel
theorem dX5_isForme_0 : decode cX5_isForme 0 = .ok (.iload_n 0, 1) := by decide +kernel
theorem dX5_isForme_1 : decode cX5_isForme 1 = .ok (.i2l, 1) := by decide +kernel
theorem dX5_isForme_2 : decode cX5_isForme 2 = .ok (.lconst 0, 1) := by decide +kernel
theorem dX5_isForme_3 : decode cX5_isForme 3 = .ok (.ldc2_w 44, 3) := by decide +kernel
theorem dX5_isForme_6 : decode cX5_isForme 6 = .ok (.invokestatic 40, 3) := by decide +kernel
theorem dX5_isForme_9 : decode cX5_isForme 9 = .ok (.ireturn, 1) := by decide +kernel
theorem dX5_widthOf_0 : decode cX5_widthOf 0 = .ok (.bipush 97, 2) := by decide +kernel
theorem dX5_widthOf_2 : decode cX5_widthOf 2 = .ok (.iload_n 0, 1) := by decide +kernel
theorem dX5_widthOf_3 : decode cX5_widthOf 3 = .ok (.iadd, 1) := by decide +kernel
theorem dX5_widthOf_4 : decode cX5_widthOf 4 = .ok (.istore_n 1, 1) := by decide +kernel
theorem dX5_widthOf_5 : decode cX5_widthOf 5 = .ok (.iload_n 0, 1) := by decide +kernel
theorem dX5_widthOf_6 : decode cX5_widthOf 6 = .ok (.bipush 26, 2) := by decide +kernel
theorem dX5_widthOf_8 : decode cX5_widthOf 8 = .ok (.if_icmp .ne 5, 3) := by decide +kernel
theorem dX5_widthOf_11 : decode cX5_widthOf 11 = .ok (.iconst 3, 1) := by decide +kernel
theorem dX5_widthOf_12 : decode cX5_widthOf 12 = .ok (.ireturn, 1) := by decide +kernel
theorem dX5_widthOf_13 : decode cX5_widthOf 13 = .ok (.iload_n 1, 1) := by decide +kernel
theorem dX5_widthOf_14 : decode cX5_widthOf 14 = .ok (.bipush 102, 2) := by decide +kernel
theorem dX5_widthOf_16 : decode cX5_widthOf 16 = .ok (.if_icmp .eq 27, 3) := by decide +kernel
theorem dX5_widthOf_19 : decode cX5_widthOf 19 = .ok (.iload_n 1, 1) := by decide +kernel
theorem dX5_widthOf_20 : decode cX5_widthOf 20 = .ok (.bipush 105, 2) := by decide +kernel
theorem dX5_widthOf_22 : decode cX5_widthOf 22 = .ok (.if_icmp .eq 21, 3) := by decide +kernel
theorem dX5_widthOf_25 : decode cX5_widthOf 25 = .ok (.iload_n 1, 1) := by decide +kernel
theorem dX5_widthOf_26 : decode cX5_widthOf 26 = .ok (.bipush 106, 2) := by decide +kernel
theorem dX5_widthOf_28 : decode cX5_widthOf 28 = .ok (.if_icmp .eq 15, 3) := by decide +kernel
theorem dX5_widthOf_31 : decode cX5_widthOf 31 = .ok (.iload_n 1, 1) := by decide +kernel
theorem dX5_widthOf_32 : decode cX5_widthOf 32 = .ok (.bipush 108, 2) := by decide +kernel
theorem dX5_widthOf_34 : decode cX5_widthOf 34 = .ok (.if_icmp .eq 9, 3) := by decide +kernel
theorem dX5_widthOf_37 : decode cX5_widthOf 37 = .ok (.iload_n 1, 1) := by decide +kernel
theorem dX5_widthOf_38 : decode cX5_widthOf 38 = .ok (.bipush 116, 2) := by decide +kernel
theorem dX5_widthOf_40 : decode cX5_widthOf 40 = .ok (.if_icmp .ne 7, 3) := by decide +kernel
theorem dX5_widthOf_43 : decode cX5_widthOf 43 = .ok (.iconst 0, 1) := by decide +kernel
theorem dX5_widthOf_44 : decode cX5_widthOf 44 = .ok (.goto 20, 3) := by decide +kernel
theorem dX5_widthOf_47 : decode cX5_widthOf 47 = .ok (.iload_n 1, 1) := by decide +kernel
theorem dX5_widthOf_48 : decode cX5_widthOf 48 = .ok (.bipush 109, 2) := by decide +kernel
theorem dX5_widthOf_50 : decode cX5_widthOf 50 = .ok (.if_icmp .eq 9, 3) := by decide +kernel
theorem dX5_widthOf_53 : decode cX5_widthOf 53 = .ok (.iload_n 1, 1) := by decide +kernel
theorem dX5_widthOf_54 : decode cX5_widthOf 54 = .ok (.bipush 119, 2) := by decide +kernel
theorem dX5_widthOf_56 : decode cX5_widthOf 56 = .ok (.if_icmp .ne 7, 3) := by decide +kernel
theorem dX5_widthOf_59 : decode cX5_widthOf 59 = .ok (.iconst 2, 1) := by decide +kernel
theorem dX5_widthOf_60 : decode cX5_widthOf 60 = .ok (.goto 4, 3) := by decide +kernel
theorem dX5_widthOf_63 : decode cX5_widthOf 63 = .ok (.iconst 1, 1) := by decide +kernel
theorem dX5_widthOf_64 : decode cX5_widthOf 64 = .ok (.ireturn, 1) := by decide +kernel
theorem dX5_puts_0 : decode cX5_puts 0 = .ok (.iconst 0, 1) := by decide +kernel
theorem dX5_puts_1 : decode cX5_puts 1 = .ok (.istore_n 3, 1) := by decide +kernel
theorem dX5_puts_2 : decode cX5_puts 2 = .ok (.aload_n 0, 1) := by decide +kernel
theorem dX5_puts_3 : decode cX5_puts 3 = .ok (.getfield 7, 3) := by decide +kernel
theorem dX5_puts_6 : decode cX5_puts 6 = .ok (.iconst 0, 1) := by decide +kernel
theorem dX5_puts_7 : decode cX5_puts 7 = .ok (.iload_n 3, 1) := by decide +kernel
theorem dX5_puts_8 : decode cX5_puts 8 = .ok (.iadd, 1) := by decide +kernel
theorem dX5_puts_9 : decode cX5_puts 9 = .ok (.iaload, 1) := by decide +kernel
theorem dX5_puts_10 : decode cX5_puts 10 = .ok (.iconst (-1), 1) := by decide +kernel
theorem dX5_puts_11 : decode cX5_puts 11 = .ok (.if_icmp .eq 9, 3) := by decide +kernel
theorem dX5_puts_14 : decode cX5_puts 14 = .ok (.iinc 3 1, 3) := by decide +kernel
theorem dX5_puts_17 : decode cX5_puts 17 = .ok (.goto (-15), 3) := by decide +kernel
theorem dX5_puts_20 : decode cX5_puts 20 = .ok (.aload_n 0, 1) := by decide +kernel
theorem dX5_puts_21 : decode cX5_puts 21 = .ok (.getfield 7, 3) := by decide +kernel
theorem dX5_puts_24 : decode cX5_puts 24 = .ok (.iconst 0, 1) := by decide +kernel
theorem dX5_puts_25 : decode cX5_puts 25 = .ok (.iload_n 3, 1) := by decide +kernel
theorem dX5_puts_26 : decode cX5_puts 26 = .ok (.iadd, 1) := by decide +kernel
theorem dX5_puts_27 : decode cX5_puts 27 = .ok (.iload_n 2, 1) := by decide +kernel
theorem dX5_puts_28 : decode cX5_puts 28 = .ok (.iastore, 1) := by decide +kernel
theorem dX5_puts_29 : decode cX5_puts 29 = .ok (.aload_n 0, 1) := by decide +kernel
theorem dX5_puts_30 : decode cX5_puts 30 = .ok (.getfield 7, 3) := by decide +kernel
theorem dX5_puts_33 : decode cX5_puts 33 = .ok (.sipush 250, 3) := by decide +kernel
theorem dX5_puts_36 : decode cX5_puts 36 = .ok (.iload_n 3, 1) := by decide +kernel
theorem dX5_puts_37 : decode cX5_puts 37 = .ok (.iadd, 1) := by decide +kernel
theorem dX5_puts_38 : decode cX5_puts 38 = .ok (.aload_n 0, 1) := by decide +kernel
theorem dX5_puts_39 : decode cX5_puts 39 = .ok (.getfield 7, 3) := by decide +kernel
theorem dX5_puts_42 : decode cX5_puts 42 = .ok (.sipush 500, 3) := by decide +kernel
theorem dX5_puts_45 : decode cX5_puts 45 = .ok (.iload_n 1, 1) := by decide +kernel
theorem dX5_puts_46 : decode cX5_puts 46 = .ok (.iadd, 1) := by decide +kernel
theorem dX5_puts_47 : decode cX5_puts 47 = .ok (.iaload, 1) := by decide +kernel
theorem dX5_puts_48 : decode cX5_puts 48 = .ok (.iastore, 1) := by decide +kernel
theorem dX5_puts_49 : decode cX5_puts 49 = .ok (.aload_n 0, 1) := by decide +kernel
theorem dX5_puts_50 : decode cX5_puts 50 = .ok (.getfield 7, 3) := by decide +kernel
theorem dX5_puts_53 : decode cX5_puts 53 = .ok (.sipush 500, 3) := by decide +kernel
theorem dX5_puts_56 : decode cX5_puts 56 = .ok (.iload_n 1, 1) := by decide +kernel
theorem dX5_puts_57 : decode cX5_puts 57 = .ok (.iadd, 1) := by decide +kernel
theorem dX5_puts_58 : decode cX5_puts 58 = .ok (.iload_n 3, 1) := by decide +kernel
theorem dX5_puts_59 : decode cX5_puts 59 = .ok (.iastore, 1) := by decide +kernel
theorem dX5_puts_60 : decode cX5_puts 60 = .ok (.return_, 1) := by decide +kernel
theorem dX5_takes_0 : decode cX5_takes 0 = .ok (.aload_n 0, 1) := by decide +kernel
theorem dX5_takes_1 : decode cX5_takes 1 = .ok (.getfield 7, 3) := by decide +kernel
theorem dX5_takes_4 : decode cX5_takes 4 = .ok (.sipush 500, 3) := by decide +kernel
theorem dX5_takes_7 : decode cX5_takes 7 = .ok (.iload_n 1, 1) := by decide +kernel
theorem dX5_takes_8 : decode cX5_takes 8 = .ok (.iadd, 1) := by decide +kernel
theorem dX5_takes_9 : decode cX5_takes 9 = .ok (.iaload, 1) := by decide +kernel
theorem dX5_takes_10 : decode cX5_takes 10 = .ok (.istore_n 2, 1) := by decide +kernel
theorem dX5_takes_11 : decode cX5_takes 11 = .ok (.aload_n 0, 1) := by decide +kernel
theorem dX5_takes_12 : decode cX5_takes 12 = .ok (.getfield 7, 3) := by decide +kernel
theorem dX5_takes_15 : decode cX5_takes 15 = .ok (.iconst 0, 1) := by decide +kernel
theorem dX5_takes_16 : decode cX5_takes 16 = .ok (.iload_n 2, 1) := by decide +kernel
theorem dX5_takes_17 : decode cX5_takes 17 = .ok (.iadd, 1) := by decide +kernel
theorem dX5_takes_18 : decode cX5_takes 18 = .ok (.iaload, 1) := by decide +kernel
theorem dX5_takes_19 : decode cX5_takes 19 = .ok (.istore_n 3, 1) := by decide +kernel
theorem dX5_takes_20 : decode cX5_takes 20 = .ok (.aload_n 0, 1) := by decide +kernel
theorem dX5_takes_21 : decode cX5_takes 21 = .ok (.getfield 7, 3) := by decide +kernel
theorem dX5_takes_24 : decode cX5_takes 24 = .ok (.sipush 500, 3) := by decide +kernel
theorem dX5_takes_27 : decode cX5_takes 27 = .ok (.iload_n 1, 1) := by decide +kernel
theorem dX5_takes_28 : decode cX5_takes 28 = .ok (.iadd, 1) := by decide +kernel
theorem dX5_takes_29 : decode cX5_takes 29 = .ok (.aload_n 0, 1) := by decide +kernel
theorem dX5_takes_30 : decode cX5_takes 30 = .ok (.getfield 7, 3) := by decide +kernel
theorem dX5_takes_33 : decode cX5_takes 33 = .ok (.sipush 250, 3) := by decide +kernel
theorem dX5_takes_36 : decode cX5_takes 36 = .ok (.iload_n 2, 1) := by decide +kernel
theorem dX5_takes_37 : decode cX5_takes 37 = .ok (.iadd, 1) := by decide +kernel
theorem dX5_takes_38 : decode cX5_takes 38 = .ok (.iaload, 1) := by decide +kernel
theorem dX5_takes_39 : decode cX5_takes 39 = .ok (.iastore, 1) := by decide +kernel
theorem dX5_takes_40 : decode cX5_takes 40 = .ok (.aload_n 0, 1) := by decide +kernel
theorem dX5_takes_41 : decode cX5_takes 41 = .ok (.getfield 7, 3) := by decide +kernel
theorem dX5_takes_44 : decode cX5_takes 44 = .ok (.iconst 0, 1) := by decide +kernel
theorem dX5_takes_45 : decode cX5_takes 45 = .ok (.iload_n 2, 1) := by decide +kernel
theorem dX5_takes_46 : decode cX5_takes 46 = .ok (.iadd, 1) := by decide +kernel
theorem dX5_takes_47 : decode cX5_takes 47 = .ok (.iconst (-1), 1) := by decide +kernel
theorem dX5_takes_48 : decode cX5_takes 48 = .ok (.iastore, 1) := by decide +kernel
theorem dX5_takes_49 : decode cX5_takes 49 = .ok (.aload_n 0, 1) := by decide +kernel
theorem dX5_takes_50 : decode cX5_takes 50 = .ok (.getfield 7, 3) := by decide +kernel
theorem dX5_takes_53 : decode cX5_takes 53 = .ok (.sipush 250, 3) := by decide +kernel
theorem dX5_takes_56 : decode cX5_takes 56 = .ok (.iload_n 2, 1) := by decide +kernel
theorem dX5_takes_57 : decode cX5_takes 57 = .ok (.iadd, 1) := by decide +kernel
theorem dX5_takes_58 : decode cX5_takes 58 = .ok (.iconst 0, 1) := by decide +kernel
theorem dX5_takes_59 : decode cX5_takes 59 = .ok (.iastore, 1) := by decide +kernel
theorem dX5_takes_60 : decode cX5_takes 60 = .ok (.iload_n 3, 1) := by decide +kernel
theorem dX5_takes_61 : decode cX5_takes 61 = .ok (.ireturn, 1) := by decide +kernel
theorem dX5_countIn_0 : decode cX5_countIn 0 = .ok (.iconst 0, 1) := by decide +kernel
theorem dX5_countIn_1 : decode cX5_countIn 1 = .ok (.istore_n 3, 1) := by decide +kernel
theorem dX5_countIn_2 : decode cX5_countIn 2 = .ok (.aload_n 0, 1) := by decide +kernel
theorem dX5_countIn_3 : decode cX5_countIn 3 = .ok (.getfield 7, 3) := by decide +kernel
theorem dX5_countIn_6 : decode cX5_countIn 6 = .ok (.sipush 500, 3) := by decide +kernel
theorem dX5_countIn_9 : decode cX5_countIn 9 = .ok (.iload_n 1, 1) := by decide +kernel
theorem dX5_countIn_10 : decode cX5_countIn 10 = .ok (.iadd, 1) := by decide +kernel
theorem dX5_countIn_11 : decode cX5_countIn 11 = .ok (.iaload, 1) := by decide +kernel
theorem dX5_countIn_12 : decode cX5_countIn 12 = .ok (.istore 4, 2) := by decide +kernel
theorem dX5_countIn_14 : decode cX5_countIn 14 = .ok (.iload 4, 2) := by decide +kernel
theorem dX5_countIn_16 : decode cX5_countIn 16 = .ok (.iconst (-1), 1) := by decide +kernel
theorem dX5_countIn_17 : decode cX5_countIn 17 = .ok (.if_icmp .eq 45, 3) := by decide +kernel
theorem dX5_countIn_20 : decode cX5_countIn 20 = .ok (.iload_n 3, 1) := by decide +kernel
theorem dX5_countIn_21 : decode cX5_countIn 21 = .ok (.iload_n 2, 1) := by decide +kernel
theorem dX5_countIn_22 : decode cX5_countIn 22 = .ok (.iconst (-1), 1) := by decide +kernel
theorem dX5_countIn_23 : decode cX5_countIn 23 = .ok (.if_icmp .eq 16, 3) := by decide +kernel
theorem dX5_countIn_26 : decode cX5_countIn 26 = .ok (.aload_n 0, 1) := by decide +kernel
theorem dX5_countIn_27 : decode cX5_countIn 27 = .ok (.getfield 7, 3) := by decide +kernel
theorem dX5_countIn_30 : decode cX5_countIn 30 = .ok (.iconst 0, 1) := by decide +kernel
theorem dX5_countIn_31 : decode cX5_countIn 31 = .ok (.iload 4, 2) := by decide +kernel
theorem dX5_countIn_33 : decode cX5_countIn 33 = .ok (.iadd, 1) := by decide +kernel
theorem dX5_countIn_34 : decode cX5_countIn 34 = .ok (.iaload, 1) := by decide +kernel
theorem dX5_countIn_35 : decode cX5_countIn 35 = .ok (.iload_n 2, 1) := by decide +kernel
theorem dX5_countIn_36 : decode cX5_countIn 36 = .ok (.if_icmp .ne 7, 3) := by decide +kernel
theorem dX5_countIn_39 : decode cX5_countIn 39 = .ok (.iconst 1, 1) := by decide +kernel
theorem dX5_countIn_40 : decode cX5_countIn 40 = .ok (.goto 4, 3) := by decide +kernel
theorem dX5_countIn_43 : decode cX5_countIn 43 = .ok (.iconst 0, 1) := by decide +kernel
theorem dX5_countIn_44 : decode cX5_countIn 44 = .ok (.iadd, 1) := by decide +kernel
theorem dX5_countIn_45 : decode cX5_countIn 45 = .ok (.istore_n 3, 1) := by decide +kernel
theorem dX5_countIn_46 : decode cX5_countIn 46 = .ok (.aload_n 0, 1) := by decide +kernel
theorem dX5_countIn_47 : decode cX5_countIn 47 = .ok (.getfield 7, 3) := by decide +kernel
theorem dX5_countIn_50 : decode cX5_countIn 50 = .ok (.sipush 250, 3) := by decide +kernel
theorem dX5_countIn_53 : decode cX5_countIn 53 = .ok (.iload 4, 2) := by decide +kernel
theorem dX5_countIn_55 : decode cX5_countIn 55 = .ok (.iadd, 1) := by decide +kernel
theorem dX5_countIn_56 : decode cX5_countIn 56 = .ok (.iaload, 1) := by decide +kernel
theorem dX5_countIn_57 : decode cX5_countIn 57 = .ok (.istore 4, 2) := by decide +kernel
theorem dX5_countIn_59 : decode cX5_countIn 59 = .ok (.goto (-45), 3) := by decide +kernel
theorem dX5_countIn_62 : decode cX5_countIn 62 = .ok (.iload_n 3, 1) := by decide +kernel
theorem dX5_countIn_63 : decode cX5_countIn 63 = .ok (.ireturn, 1) := by decide +kernel
theorem dX5_foulIn_0 : decode cX5_foulIn 0 = .ok (.aload_n 0, 1) := by decide +kernel
theorem dX5_foulIn_1 : decode cX5_foulIn 1 = .ok (.iload_n 1, 1) := by decide +kernel
theorem dX5_foulIn_2 : decode cX5_foulIn 2 = .ok (.iconst (-1), 1) := by decide +kernel
theorem dX5_foulIn_3 : decode cX5_foulIn 3 = .ok (.invokevirtual 46, 3) := by decide +kernel
theorem dX5_foulIn_6 : decode cX5_foulIn 6 = .ok (.aload_n 0, 1) := by decide +kernel
theorem dX5_foulIn_7 : decode cX5_foulIn 7 = .ok (.iload_n 1, 1) := by decide +kernel
theorem dX5_foulIn_8 : decode cX5_foulIn 8 = .ok (.iload_n 1, 1) := by decide +kernel
theorem dX5_foulIn_9 : decode cX5_foulIn 9 = .ok (.invokevirtual 46, 3) := by decide +kernel
theorem dX5_foulIn_12 : decode cX5_foulIn 12 = .ok (.isub, 1) := by decide +kernel
theorem dX5_foulIn_13 : decode cX5_foulIn 13 = .ok (.ireturn, 1) := by decide +kernel
theorem dX5_inBoxes_0 : decode cX5_inBoxes 0 = .ok (.iconst 0, 1) := by decide +kernel
theorem dX5_inBoxes_1 : decode cX5_inBoxes 1 = .ok (.istore_n 1, 1) := by decide +kernel
theorem dX5_inBoxes_2 : decode cX5_inBoxes 2 = .ok (.iconst 0, 1) := by decide +kernel
theorem dX5_inBoxes_3 : decode cX5_inBoxes 3 = .ok (.istore_n 2, 1) := by decide +kernel
theorem dX5_inBoxes_4 : decode cX5_inBoxes 4 = .ok (.iload_n 2, 1) := by decide +kernel
theorem dX5_inBoxes_5 : decode cX5_inBoxes 5 = .ok (.sipush 250, 3) := by decide +kernel
theorem dX5_inBoxes_8 : decode cX5_inBoxes 8 = .ok (.if_icmp .ge 29, 3) := by decide +kernel
theorem dX5_inBoxes_11 : decode cX5_inBoxes 11 = .ok (.iload_n 1, 1) := by decide +kernel
theorem dX5_inBoxes_12 : decode cX5_inBoxes 12 = .ok (.aload_n 0, 1) := by decide +kernel
theorem dX5_inBoxes_13 : decode cX5_inBoxes 13 = .ok (.getfield 7, 3) := by decide +kernel
theorem dX5_inBoxes_16 : decode cX5_inBoxes 16 = .ok (.iconst 0, 1) := by decide +kernel
theorem dX5_inBoxes_17 : decode cX5_inBoxes 17 = .ok (.iload_n 2, 1) := by decide +kernel
theorem dX5_inBoxes_18 : decode cX5_inBoxes 18 = .ok (.iadd, 1) := by decide +kernel
theorem dX5_inBoxes_19 : decode cX5_inBoxes 19 = .ok (.iaload, 1) := by decide +kernel
theorem dX5_inBoxes_20 : decode cX5_inBoxes 20 = .ok (.iconst (-1), 1) := by decide +kernel
theorem dX5_inBoxes_21 : decode cX5_inBoxes 21 = .ok (.if_icmp .ne 7, 3) := by decide +kernel
theorem dX5_inBoxes_24 : decode cX5_inBoxes 24 = .ok (.iconst 0, 1) := by decide +kernel
theorem dX5_inBoxes_25 : decode cX5_inBoxes 25 = .ok (.goto 4, 3) := by decide +kernel
theorem dX5_inBoxes_28 : decode cX5_inBoxes 28 = .ok (.iconst 1, 1) := by decide +kernel
theorem dX5_inBoxes_29 : decode cX5_inBoxes 29 = .ok (.iadd, 1) := by decide +kernel
theorem dX5_inBoxes_30 : decode cX5_inBoxes 30 = .ok (.istore_n 1, 1) := by decide +kernel
theorem dX5_inBoxes_31 : decode cX5_inBoxes 31 = .ok (.iinc 2 1, 3) := by decide +kernel
theorem dX5_inBoxes_34 : decode cX5_inBoxes 34 = .ok (.goto (-30), 3) := by decide +kernel
theorem dX5_inBoxes_37 : decode cX5_inBoxes 37 = .ok (.iload_n 1, 1) := by decide +kernel
theorem dX5_inBoxes_38 : decode cX5_inBoxes 38 = .ok (.ireturn, 1) := by decide +kernel
theorem dX5_takesOwn_0 : decode cX5_takesOwn 0 = .ok (.iconst (-1), 1) := by decide +kernel
theorem dX5_takesOwn_1 : decode cX5_takesOwn 1 = .ok (.istore_n 2, 1) := by decide +kernel
theorem dX5_takesOwn_2 : decode cX5_takesOwn 2 = .ok (.aload_n 0, 1) := by decide +kernel
theorem dX5_takesOwn_3 : decode cX5_takesOwn 3 = .ok (.getfield 7, 3) := by decide +kernel
theorem dX5_takesOwn_6 : decode cX5_takesOwn 6 = .ok (.sipush 500, 3) := by decide +kernel
theorem dX5_takesOwn_9 : decode cX5_takesOwn 9 = .ok (.iload_n 1, 1) := by decide +kernel
theorem dX5_takesOwn_10 : decode cX5_takesOwn 10 = .ok (.iadd, 1) := by decide +kernel
theorem dX5_takesOwn_11 : decode cX5_takesOwn 11 = .ok (.iaload, 1) := by decide +kernel
theorem dX5_takesOwn_12 : decode cX5_takesOwn 12 = .ok (.istore_n 3, 1) := by decide +kernel
theorem dX5_takesOwn_13 : decode cX5_takesOwn 13 = .ok (.iload_n 3, 1) := by decide +kernel
theorem dX5_takesOwn_14 : decode cX5_takesOwn 14 = .ok (.iconst (-1), 1) := by decide +kernel
theorem dX5_takesOwn_15 : decode cX5_takesOwn 15 = .ok (.if_icmp .eq 31, 3) := by decide +kernel
theorem dX5_takesOwn_18 : decode cX5_takesOwn 18 = .ok (.aload_n 0, 1) := by decide +kernel
theorem dX5_takesOwn_19 : decode cX5_takesOwn 19 = .ok (.getfield 7, 3) := by decide +kernel
theorem dX5_takesOwn_22 : decode cX5_takesOwn 22 = .ok (.iconst 0, 1) := by decide +kernel
theorem dX5_takesOwn_23 : decode cX5_takesOwn 23 = .ok (.iload_n 3, 1) := by decide +kernel
theorem dX5_takesOwn_24 : decode cX5_takesOwn 24 = .ok (.iadd, 1) := by decide +kernel
theorem dX5_takesOwn_25 : decode cX5_takesOwn 25 = .ok (.iaload, 1) := by decide +kernel
theorem dX5_takesOwn_26 : decode cX5_takesOwn 26 = .ok (.iload_n 1, 1) := by decide +kernel
theorem dX5_takesOwn_27 : decode cX5_takesOwn 27 = .ok (.if_icmp .eq 19, 3) := by decide +kernel
theorem dX5_takesOwn_30 : decode cX5_takesOwn 30 = .ok (.iload_n 3, 1) := by decide +kernel
theorem dX5_takesOwn_31 : decode cX5_takesOwn 31 = .ok (.istore_n 2, 1) := by decide +kernel
theorem dX5_takesOwn_32 : decode cX5_takesOwn 32 = .ok (.aload_n 0, 1) := by decide +kernel
theorem dX5_takesOwn_33 : decode cX5_takesOwn 33 = .ok (.getfield 7, 3) := by decide +kernel
theorem dX5_takesOwn_36 : decode cX5_takesOwn 36 = .ok (.sipush 250, 3) := by decide +kernel
theorem dX5_takesOwn_39 : decode cX5_takesOwn 39 = .ok (.iload_n 3, 1) := by decide +kernel
theorem dX5_takesOwn_40 : decode cX5_takesOwn 40 = .ok (.iadd, 1) := by decide +kernel
theorem dX5_takesOwn_41 : decode cX5_takesOwn 41 = .ok (.iaload, 1) := by decide +kernel
theorem dX5_takesOwn_42 : decode cX5_takesOwn 42 = .ok (.istore_n 3, 1) := by decide +kernel
theorem dX5_takesOwn_43 : decode cX5_takesOwn 43 = .ok (.goto (-30), 3) := by decide +kernel
theorem dX5_takesOwn_46 : decode cX5_takesOwn 46 = .ok (.iload_n 3, 1) := by decide +kernel
theorem dX5_takesOwn_47 : decode cX5_takesOwn 47 = .ok (.iconst (-1), 1) := by decide +kernel
theorem dX5_takesOwn_48 : decode cX5_takesOwn 48 = .ok (.if_icmp .ne 5, 3) := by decide +kernel
theorem dX5_takesOwn_51 : decode cX5_takesOwn 51 = .ok (.iconst 0, 1) := by decide +kernel
theorem dX5_takesOwn_52 : decode cX5_takesOwn 52 = .ok (.ireturn, 1) := by decide +kernel
theorem dX5_takesOwn_53 : decode cX5_takesOwn 53 = .ok (.iload_n 2, 1) := by decide +kernel
theorem dX5_takesOwn_54 : decode cX5_takesOwn 54 = .ok (.iconst (-1), 1) := by decide +kernel
theorem dX5_takesOwn_55 : decode cX5_takesOwn 55 = .ok (.if_icmp .ne 26, 3) := by decide +kernel
theorem dX5_takesOwn_58 : decode cX5_takesOwn 58 = .ok (.aload_n 0, 1) := by decide +kernel
theorem dX5_takesOwn_59 : decode cX5_takesOwn 59 = .ok (.getfield 7, 3) := by decide +kernel
theorem dX5_takesOwn_62 : decode cX5_takesOwn 62 = .ok (.sipush 500, 3) := by decide +kernel
theorem dX5_takesOwn_65 : decode cX5_takesOwn 65 = .ok (.iload_n 1, 1) := by decide +kernel
theorem dX5_takesOwn_66 : decode cX5_takesOwn 66 = .ok (.iadd, 1) := by decide +kernel
theorem dX5_takesOwn_67 : decode cX5_takesOwn 67 = .ok (.aload_n 0, 1) := by decide +kernel
theorem dX5_takesOwn_68 : decode cX5_takesOwn 68 = .ok (.getfield 7, 3) := by decide +kernel
theorem dX5_takesOwn_71 : decode cX5_takesOwn 71 = .ok (.sipush 250, 3) := by decide +kernel
theorem dX5_takesOwn_74 : decode cX5_takesOwn 74 = .ok (.iload_n 3, 1) := by decide +kernel
theorem dX5_takesOwn_75 : decode cX5_takesOwn 75 = .ok (.iadd, 1) := by decide +kernel
theorem dX5_takesOwn_76 : decode cX5_takesOwn 76 = .ok (.iaload, 1) := by decide +kernel
theorem dX5_takesOwn_77 : decode cX5_takesOwn 77 = .ok (.iastore, 1) := by decide +kernel
theorem dX5_takesOwn_78 : decode cX5_takesOwn 78 = .ok (.goto 23, 3) := by decide +kernel
theorem dX5_takesOwn_81 : decode cX5_takesOwn 81 = .ok (.aload_n 0, 1) := by decide +kernel
theorem dX5_takesOwn_82 : decode cX5_takesOwn 82 = .ok (.getfield 7, 3) := by decide +kernel
theorem dX5_takesOwn_85 : decode cX5_takesOwn 85 = .ok (.sipush 250, 3) := by decide +kernel
theorem dX5_takesOwn_88 : decode cX5_takesOwn 88 = .ok (.iload_n 2, 1) := by decide +kernel
theorem dX5_takesOwn_89 : decode cX5_takesOwn 89 = .ok (.iadd, 1) := by decide +kernel
theorem dX5_takesOwn_90 : decode cX5_takesOwn 90 = .ok (.aload_n 0, 1) := by decide +kernel
theorem dX5_takesOwn_91 : decode cX5_takesOwn 91 = .ok (.getfield 7, 3) := by decide +kernel
theorem dX5_takesOwn_94 : decode cX5_takesOwn 94 = .ok (.sipush 250, 3) := by decide +kernel
theorem dX5_takesOwn_97 : decode cX5_takesOwn 97 = .ok (.iload_n 3, 1) := by decide +kernel
theorem dX5_takesOwn_98 : decode cX5_takesOwn 98 = .ok (.iadd, 1) := by decide +kernel
theorem dX5_takesOwn_99 : decode cX5_takesOwn 99 = .ok (.iaload, 1) := by decide +kernel
theorem dX5_takesOwn_100 : decode cX5_takesOwn 100 = .ok (.iastore, 1) := by decide +kernel
theorem dX5_takesOwn_101 : decode cX5_takesOwn 101 = .ok (.aload_n 0, 1) := by decide +kernel
theorem dX5_takesOwn_102 : decode cX5_takesOwn 102 = .ok (.getfield 7, 3) := by decide +kernel
theorem dX5_takesOwn_105 : decode cX5_takesOwn 105 = .ok (.iconst 0, 1) := by decide +kernel
theorem dX5_takesOwn_106 : decode cX5_takesOwn 106 = .ok (.iload_n 3, 1) := by decide +kernel
theorem dX5_takesOwn_107 : decode cX5_takesOwn 107 = .ok (.iadd, 1) := by decide +kernel
theorem dX5_takesOwn_108 : decode cX5_takesOwn 108 = .ok (.iconst (-1), 1) := by decide +kernel
theorem dX5_takesOwn_109 : decode cX5_takesOwn 109 = .ok (.iastore, 1) := by decide +kernel
theorem dX5_takesOwn_110 : decode cX5_takesOwn 110 = .ok (.aload_n 0, 1) := by decide +kernel
theorem dX5_takesOwn_111 : decode cX5_takesOwn 111 = .ok (.getfield 7, 3) := by decide +kernel
theorem dX5_takesOwn_114 : decode cX5_takesOwn 114 = .ok (.sipush 250, 3) := by decide +kernel
theorem dX5_takesOwn_117 : decode cX5_takesOwn 117 = .ok (.iload_n 3, 1) := by decide +kernel
theorem dX5_takesOwn_118 : decode cX5_takesOwn 118 = .ok (.iadd, 1) := by decide +kernel
theorem dX5_takesOwn_119 : decode cX5_takesOwn 119 = .ok (.iconst 0, 1) := by decide +kernel
theorem dX5_takesOwn_120 : decode cX5_takesOwn 120 = .ok (.iastore, 1) := by decide +kernel
theorem dX5_takesOwn_121 : decode cX5_takesOwn 121 = .ok (.iconst 1, 1) := by decide +kernel
theorem dX5_takesOwn_122 : decode cX5_takesOwn 122 = .ok (.ireturn, 1) := by decide +kernel
theorem dX5_empties_0 : decode cX5_empties 0 = .ok (.aload_n 0, 1) := by decide +kernel
theorem dX5_empties_1 : decode cX5_empties 1 = .ok (.iload_n 1, 1) := by decide +kernel
theorem dX5_empties_2 : decode cX5_empties 2 = .ok (.iconst (-1), 1) := by decide +kernel
theorem dX5_empties_3 : decode cX5_empties 3 = .ok (.invokevirtual 46, 3) := by decide +kernel
theorem dX5_empties_6 : decode cX5_empties 6 = .ok (.istore_n 2, 1) := by decide +kernel
theorem dX5_empties_7 : decode cX5_empties 7 = .ok (.iload_n 2, 1) := by decide +kernel
theorem dX5_empties_8 : decode cX5_empties 8 = .ok (.iconst 1, 1) := by decide +kernel
theorem dX5_empties_9 : decode cX5_empties 9 = .ok (.isub, 1) := by decide +kernel
theorem dX5_empties_10 : decode cX5_empties 10 = .ok (.istore_n 3, 1) := by decide +kernel
theorem dX5_empties_11 : decode cX5_empties 11 = .ok (.iload_n 3, 1) := by decide +kernel
theorem dX5_empties_12 : decode cX5_empties 12 = .ok (.ifCond .lt 20, 3) := by decide +kernel
theorem dX5_empties_15 : decode cX5_empties 15 = .ok (.aload_n 0, 1) := by decide +kernel
theorem dX5_empties_16 : decode cX5_empties 16 = .ok (.getfield 22, 3) := by decide +kernel
theorem dX5_empties_19 : decode cX5_empties 19 = .ok (.iload_n 3, 1) := by decide +kernel
theorem dX5_empties_20 : decode cX5_empties 20 = .ok (.aload_n 0, 1) := by decide +kernel
theorem dX5_empties_21 : decode cX5_empties 21 = .ok (.iload_n 1, 1) := by decide +kernel
theorem dX5_empties_22 : decode cX5_empties 22 = .ok (.invokevirtual 50, 3) := by decide +kernel
theorem dX5_empties_25 : decode cX5_empties 25 = .ok (.iastore, 1) := by decide +kernel
theorem dX5_empties_26 : decode cX5_empties 26 = .ok (.iinc 3 (-1), 3) := by decide +kernel
theorem dX5_empties_29 : decode cX5_empties 29 = .ok (.goto (-18), 3) := by decide +kernel
theorem dX5_empties_32 : decode cX5_empties 32 = .ok (.iload_n 2, 1) := by decide +kernel
theorem dX5_empties_33 : decode cX5_empties 33 = .ok (.ireturn, 1) := by decide +kernel
theorem dX5_lineAt_0 : decode cX5_lineAt 0 = .ok (.sipush 527, 3) := by decide +kernel
theorem dX5_lineAt_3 : decode cX5_lineAt 3 = .ok (.bipush 49, 2) := by decide +kernel
theorem dX5_lineAt_5 : decode cX5_lineAt 5 = .ok (.iconst 5, 1) := by decide +kernel
theorem dX5_lineAt_6 : decode cX5_lineAt 6 = .ok (.iload_n 0, 1) := by decide +kernel
theorem dX5_lineAt_7 : decode cX5_lineAt 7 = .ok (.imul, 1) := by decide +kernel
theorem dX5_lineAt_8 : decode cX5_lineAt 8 = .ok (.iload_n 1, 1) := by decide +kernel
theorem dX5_lineAt_9 : decode cX5_lineAt 9 = .ok (.iadd, 1) := by decide +kernel
theorem dX5_lineAt_10 : decode cX5_lineAt 10 = .ok (.imul, 1) := by decide +kernel
theorem dX5_lineAt_11 : decode cX5_lineAt 11 = .ok (.iadd, 1) := by decide +kernel
theorem dX5_lineAt_12 : decode cX5_lineAt 12 = .ok (.ireturn, 1) := by decide +kernel
theorem dX5_places0_0 : decode cX5_places0 0 = .ok (.aload_n 0, 1) := by decide +kernel
theorem dX5_places0_1 : decode cX5_places0 1 = .ok (.getfield 7, 3) := by decide +kernel
theorem dX5_places0_4 : decode cX5_places0 4 = .ok (.iload_n 1, 1) := by decide +kernel
theorem dX5_places0_5 : decode cX5_places0 5 = .ok (.iload_n 2, 1) := by decide +kernel
theorem dX5_places0_6 : decode cX5_places0 6 = .ok (.invokestatic 54, 3) := by decide +kernel
theorem dX5_places0_9 : decode cX5_places0 9 = .ok (.iaload, 1) := by decide +kernel
theorem dX5_places0_10 : decode cX5_places0 10 = .ok (.ireturn, 1) := by decide +kernel
theorem dX5_of_0 : decode cX5_of 0 = .ok (.aload_n 0, 1) := by decide +kernel
theorem dX5_of_1 : decode cX5_of 1 = .ok (.getfield 7, 3) := by decide +kernel
theorem dX5_of_4 : decode cX5_of 4 = .ok (.iload_n 1, 1) := by decide +kernel
theorem dX5_of_5 : decode cX5_of 5 = .ok (.iload_n 2, 1) := by decide +kernel
theorem dX5_of_6 : decode cX5_of 6 = .ok (.invokestatic 54, 3) := by decide +kernel
theorem dX5_of_9 : decode cX5_of 9 = .ok (.iconst 1, 1) := by decide +kernel
theorem dX5_of_10 : decode cX5_of 10 = .ok (.iadd, 1) := by decide +kernel
theorem dX5_of_11 : decode cX5_of 11 = .ok (.iconst 3, 1) := by decide +kernel
theorem dX5_of_12 : decode cX5_of 12 = .ok (.iload_n 3, 1) := by decide +kernel
theorem dX5_of_13 : decode cX5_of 13 = .ok (.imul, 1) := by decide +kernel
theorem dX5_of_14 : decode cX5_of 14 = .ok (.iadd, 1) := by decide +kernel
theorem dX5_of_15 : decode cX5_of 15 = .ok (.iload 4, 2) := by decide +kernel
theorem dX5_of_17 : decode cX5_of 17 = .ok (.iadd, 1) := by decide +kernel
theorem dX5_of_18 : decode cX5_of 18 = .ok (.iaload, 1) := by decide +kernel
theorem dX5_of_19 : decode cX5_of 19 = .ok (.ireturn, 1) := by decide +kernel
theorem dX5_isWrong_0 : decode cX5_isWrong 0 = .ok (.aload_n 0, 1) := by decide +kernel
theorem dX5_isWrong_1 : decode cX5_isWrong 1 = .ok (.iload_n 1, 1) := by decide +kernel
theorem dX5_isWrong_2 : decode cX5_isWrong 2 = .ok (.iload_n 2, 1) := by decide +kernel
theorem dX5_isWrong_3 : decode cX5_isWrong 3 = .ok (.iload_n 3, 1) := by decide +kernel
theorem dX5_isWrong_4 : decode cX5_isWrong 4 = .ok (.iconst 2, 1) := by decide +kernel
theorem dX5_isWrong_5 : decode cX5_isWrong 5 = .ok (.invokevirtual 57, 3) := by decide +kernel
theorem dX5_isWrong_8 : decode cX5_isWrong 8 = .ok (.iconst 1, 1) := by decide +kernel
theorem dX5_isWrong_9 : decode cX5_isWrong 9 = .ok (.if_icmp .eq 22, 3) := by decide +kernel
theorem dX5_isWrong_12 : decode cX5_isWrong 12 = .ok (.aload_n 0, 1) := by decide +kernel
theorem dX5_isWrong_13 : decode cX5_isWrong 13 = .ok (.iload_n 1, 1) := by decide +kernel
theorem dX5_isWrong_14 : decode cX5_isWrong 14 = .ok (.iload_n 2, 1) := by decide +kernel
theorem dX5_isWrong_15 : decode cX5_isWrong 15 = .ok (.iload_n 3, 1) := by decide +kernel
theorem dX5_isWrong_16 : decode cX5_isWrong 16 = .ok (.iconst 0, 1) := by decide +kernel
theorem dX5_isWrong_17 : decode cX5_isWrong 17 = .ok (.invokevirtual 57, 3) := by decide +kernel
theorem dX5_isWrong_20 : decode cX5_isWrong 20 = .ok (.aload_n 0, 1) := by decide +kernel
theorem dX5_isWrong_21 : decode cX5_isWrong 21 = .ok (.iload_n 1, 1) := by decide +kernel
theorem dX5_isWrong_22 : decode cX5_isWrong 22 = .ok (.iload_n 2, 1) := by decide +kernel
theorem dX5_isWrong_23 : decode cX5_isWrong 23 = .ok (.iload_n 3, 1) := by decide +kernel
theorem dX5_isWrong_24 : decode cX5_isWrong 24 = .ok (.iconst 1, 1) := by decide +kernel
theorem dX5_isWrong_25 : decode cX5_isWrong 25 = .ok (.invokevirtual 57, 3) := by decide +kernel
theorem dX5_isWrong_28 : decode cX5_isWrong 28 = .ok (.if_icmp .eq 7, 3) := by decide +kernel
theorem dX5_isWrong_31 : decode cX5_isWrong 31 = .ok (.iconst 1, 1) := by decide +kernel
theorem dX5_isWrong_32 : decode cX5_isWrong 32 = .ok (.goto 4, 3) := by decide +kernel
theorem dX5_isWrong_35 : decode cX5_isWrong 35 = .ok (.iconst 0, 1) := by decide +kernel
theorem dX5_isWrong_36 : decode cX5_isWrong 36 = .ok (.ireturn, 1) := by decide +kernel
theorem dX5_countOf_0 : decode cX5_countOf 0 = .ok (.iconst 0, 1) := by decide +kernel
theorem dX5_countOf_1 : decode cX5_countOf 1 = .ok (.istore_n 3, 1) := by decide +kernel
theorem dX5_countOf_2 : decode cX5_countOf 2 = .ok (.iconst 0, 1) := by decide +kernel
theorem dX5_countOf_3 : decode cX5_countOf 3 = .ok (.istore 4, 2) := by decide +kernel
theorem dX5_countOf_5 : decode cX5_countOf 5 = .ok (.iload 4, 2) := by decide +kernel
theorem dX5_countOf_7 : decode cX5_countOf 7 = .ok (.aload_n 0, 1) := by decide +kernel
theorem dX5_countOf_8 : decode cX5_countOf 8 = .ok (.getfield 7, 3) := by decide +kernel
theorem dX5_countOf_11 : decode cX5_countOf 11 = .ok (.sipush 1262, 3) := by decide +kernel
theorem dX5_countOf_14 : decode cX5_countOf 14 = .ok (.iload_n 1, 1) := by decide +kernel
theorem dX5_countOf_15 : decode cX5_countOf 15 = .ok (.iadd, 1) := by decide +kernel
theorem dX5_countOf_16 : decode cX5_countOf 16 = .ok (.iaload, 1) := by decide +kernel
theorem dX5_countOf_17 : decode cX5_countOf 17 = .ok (.if_icmp .ge 113, 3) := by decide +kernel
theorem dX5_countOf_20 : decode cX5_countOf 20 = .ok (.iconst 0, 1) := by decide +kernel
theorem dX5_countOf_21 : decode cX5_countOf 21 = .ok (.istore 5, 2) := by decide +kernel
theorem dX5_countOf_23 : decode cX5_countOf 23 = .ok (.iload 5, 2) := by decide +kernel
theorem dX5_countOf_25 : decode cX5_countOf 25 = .ok (.aload_n 0, 1) := by decide +kernel
theorem dX5_countOf_26 : decode cX5_countOf 26 = .ok (.iload_n 1, 1) := by decide +kernel
theorem dX5_countOf_27 : decode cX5_countOf 27 = .ok (.iload 4, 2) := by decide +kernel
theorem dX5_countOf_29 : decode cX5_countOf 29 = .ok (.invokevirtual 61, 3) := by decide +kernel
theorem dX5_countOf_32 : decode cX5_countOf 32 = .ok (.if_icmp .ge 92, 3) := by decide +kernel
theorem dX5_countOf_35 : decode cX5_countOf 35 = .ok (.iload_n 2, 1) := by decide +kernel
theorem dX5_countOf_36 : decode cX5_countOf 36 = .ok (.ifCond .eq 62, 3) := by decide +kernel
theorem dX5_countOf_39 : decode cX5_countOf 39 = .ok (.iload_n 2, 1) := by decide +kernel
theorem dX5_countOf_40 : decode cX5_countOf 40 = .ok (.iconst 1, 1) := by decide +kernel
theorem dX5_countOf_41 : decode cX5_countOf 41 = .ok (.if_icmp .ne 15, 3) := by decide +kernel
theorem dX5_countOf_44 : decode cX5_countOf 44 = .ok (.aload_n 0, 1) := by decide +kernel
theorem dX5_countOf_45 : decode cX5_countOf 45 = .ok (.iload_n 1, 1) := by decide +kernel
theorem dX5_countOf_46 : decode cX5_countOf 46 = .ok (.iload 4, 2) := by decide +kernel
theorem dX5_countOf_48 : decode cX5_countOf 48 = .ok (.iload 5, 2) := by decide +kernel
theorem dX5_countOf_50 : decode cX5_countOf 50 = .ok (.invokevirtual 64, 3) := by decide +kernel
theorem dX5_countOf_53 : decode cX5_countOf 53 = .ok (.ifCond .ne 45, 3) := by decide +kernel
theorem dX5_countOf_56 : decode cX5_countOf 56 = .ok (.iload_n 2, 1) := by decide +kernel
theorem dX5_countOf_57 : decode cX5_countOf 57 = .ok (.iconst 2, 1) := by decide +kernel
theorem dX5_countOf_58 : decode cX5_countOf 58 = .ok (.if_icmp .ne 17, 3) := by decide +kernel
theorem dX5_countOf_61 : decode cX5_countOf 61 = .ok (.aload_n 0, 1) := by decide +kernel
theorem dX5_countOf_62 : decode cX5_countOf 62 = .ok (.iload_n 1, 1) := by decide +kernel
theorem dX5_countOf_63 : decode cX5_countOf 63 = .ok (.iload 4, 2) := by decide +kernel
theorem dX5_countOf_65 : decode cX5_countOf 65 = .ok (.iload 5, 2) := by decide +kernel
theorem dX5_countOf_67 : decode cX5_countOf 67 = .ok (.iconst 2, 1) := by decide +kernel
theorem dX5_countOf_68 : decode cX5_countOf 68 = .ok (.invokevirtual 57, 3) := by decide +kernel
theorem dX5_countOf_71 : decode cX5_countOf 71 = .ok (.iconst 1, 1) := by decide +kernel
theorem dX5_countOf_72 : decode cX5_countOf 72 = .ok (.if_icmp .eq 26, 3) := by decide +kernel
theorem dX5_countOf_75 : decode cX5_countOf 75 = .ok (.iload_n 2, 1) := by decide +kernel
theorem dX5_countOf_76 : decode cX5_countOf 76 = .ok (.bipush 10, 2) := by decide +kernel
theorem dX5_countOf_78 : decode cX5_countOf 78 = .ok (.if_icmp .lt 24, 3) := by decide +kernel
theorem dX5_countOf_81 : decode cX5_countOf 81 = .ok (.aload_n 0, 1) := by decide +kernel
theorem dX5_countOf_82 : decode cX5_countOf 82 = .ok (.iload_n 1, 1) := by decide +kernel
theorem dX5_countOf_83 : decode cX5_countOf 83 = .ok (.iload 4, 2) := by decide +kernel
theorem dX5_countOf_85 : decode cX5_countOf 85 = .ok (.iload 5, 2) := by decide +kernel
theorem dX5_countOf_87 : decode cX5_countOf 87 = .ok (.iconst 1, 1) := by decide +kernel
theorem dX5_countOf_88 : decode cX5_countOf 88 = .ok (.invokevirtual 57, 3) := by decide +kernel
theorem dX5_countOf_91 : decode cX5_countOf 91 = .ok (.iload_n 2, 1) := by decide +kernel
theorem dX5_countOf_92 : decode cX5_countOf 92 = .ok (.bipush 10, 2) := by decide +kernel
theorem dX5_countOf_94 : decode cX5_countOf 94 = .ok (.isub, 1) := by decide +kernel
theorem dX5_countOf_95 : decode cX5_countOf 95 = .ok (.if_icmp .ne 7, 3) := by decide +kernel
theorem dX5_countOf_98 : decode cX5_countOf 98 = .ok (.iconst 1, 1) := by decide +kernel
theorem dX5_countOf_99 : decode cX5_countOf 99 = .ok (.goto 4, 3) := by decide +kernel
theorem dX5_countOf_102 : decode cX5_countOf 102 = .ok (.iconst 0, 1) := by decide +kernel
theorem dX5_countOf_103 : decode cX5_countOf 103 = .ok (.istore 6, 2) := by decide +kernel
theorem dX5_countOf_105 : decode cX5_countOf 105 = .ok (.iload_n 3, 1) := by decide +kernel
theorem dX5_countOf_106 : decode cX5_countOf 106 = .ok (.iload 6, 2) := by decide +kernel
theorem dX5_countOf_108 : decode cX5_countOf 108 = .ok (.ifCond .eq 7, 3) := by decide +kernel
theorem dX5_countOf_111 : decode cX5_countOf 111 = .ok (.iconst 1, 1) := by decide +kernel
theorem dX5_countOf_112 : decode cX5_countOf 112 = .ok (.goto 4, 3) := by decide +kernel
theorem dX5_countOf_115 : decode cX5_countOf 115 = .ok (.iconst 0, 1) := by decide +kernel
theorem dX5_countOf_116 : decode cX5_countOf 116 = .ok (.iadd, 1) := by decide +kernel
theorem dX5_countOf_117 : decode cX5_countOf 117 = .ok (.istore_n 3, 1) := by decide +kernel
theorem dX5_countOf_118 : decode cX5_countOf 118 = .ok (.iinc 5 1, 3) := by decide +kernel
theorem dX5_countOf_121 : decode cX5_countOf 121 = .ok (.goto (-98), 3) := by decide +kernel
theorem dX5_countOf_124 : decode cX5_countOf 124 = .ok (.iinc 4 1, 3) := by decide +kernel
theorem dX5_countOf_127 : decode cX5_countOf 127 = .ok (.goto (-122), 3) := by decide +kernel
theorem dX5_countOf_130 : decode cX5_countOf 130 = .ok (.iload_n 3, 1) := by decide +kernel
theorem dX5_countOf_131 : decode cX5_countOf 131 = .ok (.ireturn, 1) := by decide +kernel
theorem dX5_countAll_0 : decode cX5_countAll 0 = .ok (.aload_n 0, 1) := by decide +kernel
theorem dX5_countAll_1 : decode cX5_countAll 1 = .ok (.iconst 0, 1) := by decide +kernel
theorem dX5_countAll_2 : decode cX5_countAll 2 = .ok (.iload_n 1, 1) := by decide +kernel
theorem dX5_countAll_3 : decode cX5_countAll 3 = .ok (.invokevirtual 68, 3) := by decide +kernel
theorem dX5_countAll_6 : decode cX5_countAll 6 = .ok (.aload_n 0, 1) := by decide +kernel
theorem dX5_countAll_7 : decode cX5_countAll 7 = .ok (.iconst 1, 1) := by decide +kernel
theorem dX5_countAll_8 : decode cX5_countAll 8 = .ok (.iload_n 1, 1) := by decide +kernel
theorem dX5_countAll_9 : decode cX5_countAll 9 = .ok (.invokevirtual 68, 3) := by decide +kernel
theorem dX5_countAll_12 : decode cX5_countAll 12 = .ok (.iadd, 1) := by decide +kernel
theorem dX5_countAll_13 : decode cX5_countAll 13 = .ok (.aload_n 0, 1) := by decide +kernel
theorem dX5_countAll_14 : decode cX5_countAll 14 = .ok (.iconst 2, 1) := by decide +kernel
theorem dX5_countAll_15 : decode cX5_countAll 15 = .ok (.iload_n 1, 1) := by decide +kernel
theorem dX5_countAll_16 : decode cX5_countAll 16 = .ok (.invokevirtual 68, 3) := by decide +kernel
theorem dX5_countAll_19 : decode cX5_countAll 19 = .ok (.iadd, 1) := by decide +kernel
theorem dX5_countAll_20 : decode cX5_countAll 20 = .ok (.ireturn, 1) := by decide +kernel
theorem dX5_sorts_0 : decode cX5_sorts 0 = .ok (.aload_n 0, 1) := by decide +kernel
theorem dX5_sorts_1 : decode cX5_sorts 1 = .ok (.invokevirtual 71, 3) := by decide +kernel
theorem dX5_sorts_4 : decode cX5_sorts 4 = .ok (.aload_n 0, 1) := by decide +kernel
theorem dX5_sorts_5 : decode cX5_sorts 5 = .ok (.iconst 0, 1) := by decide +kernel
theorem dX5_sorts_6 : decode cX5_sorts 6 = .ok (.invokevirtual 75, 3) := by decide +kernel
theorem dX5_sorts_9 : decode cX5_sorts 9 = .ok (.iadd, 1) := by decide +kernel
theorem dX5_sorts_10 : decode cX5_sorts 10 = .ok (.aload_n 0, 1) := by decide +kernel
theorem dX5_sorts_11 : decode cX5_sorts 11 = .ok (.getfield 7, 3) := by decide +kernel
theorem dX5_sorts_14 : decode cX5_sorts 14 = .ok (.sipush 1265, 3) := by decide +kernel
theorem dX5_sorts_17 : decode cX5_sorts 17 = .ok (.iaload, 1) := by decide +kernel
theorem dX5_sorts_18 : decode cX5_sorts 18 = .ok (.iadd, 1) := by decide +kernel
theorem dX5_sorts_19 : decode cX5_sorts 19 = .ok (.ireturn, 1) := by decide +kernel
theorem dX5_loosens_0 : decode cX5_loosens 0 = .ok (.iconst 0, 1) := by decide +kernel
theorem dX5_loosens_1 : decode cX5_loosens 1 = .ok (.istore_n 2, 1) := by decide +kernel
theorem dX5_loosens_2 : decode cX5_loosens 2 = .ok (.iload_n 2, 1) := by decide +kernel
theorem dX5_loosens_3 : decode cX5_loosens 3 = .ok (.sipush 245, 3) := by decide +kernel
theorem dX5_loosens_6 : decode cX5_loosens 6 = .ok (.if_icmp .ge 22, 3) := by decide +kernel
theorem dX5_loosens_9 : decode cX5_loosens 9 = .ok (.aload_n 0, 1) := by decide +kernel
theorem dX5_loosens_10 : decode cX5_loosens 10 = .ok (.getfield 7, 3) := by decide +kernel
theorem dX5_loosens_13 : decode cX5_loosens 13 = .ok (.iload_n 1, 1) := by decide +kernel
theorem dX5_loosens_14 : decode cX5_loosens 14 = .ok (.iconst 0, 1) := by decide +kernel
theorem dX5_loosens_15 : decode cX5_loosens 15 = .ok (.invokestatic 54, 3) := by decide +kernel
theorem dX5_loosens_18 : decode cX5_loosens 18 = .ok (.iload_n 2, 1) := by decide +kernel
theorem dX5_loosens_19 : decode cX5_loosens 19 = .ok (.iadd, 1) := by decide +kernel
theorem dX5_loosens_20 : decode cX5_loosens 20 = .ok (.iconst 0, 1) := by decide +kernel
theorem dX5_loosens_21 : decode cX5_loosens 21 = .ok (.iastore, 1) := by decide +kernel
theorem dX5_loosens_22 : decode cX5_loosens 22 = .ok (.iinc 2 1, 3) := by decide +kernel
theorem dX5_loosens_25 : decode cX5_loosens 25 = .ok (.goto (-23), 3) := by decide +kernel
theorem dX5_loosens_28 : decode cX5_loosens 28 = .ok (.aload_n 0, 1) := by decide +kernel
theorem dX5_loosens_29 : decode cX5_loosens 29 = .ok (.getfield 7, 3) := by decide +kernel
theorem dX5_loosens_32 : decode cX5_loosens 32 = .ok (.sipush 1262, 3) := by decide +kernel
theorem dX5_loosens_35 : decode cX5_loosens 35 = .ok (.iload_n 1, 1) := by decide +kernel
theorem dX5_loosens_36 : decode cX5_loosens 36 = .ok (.iadd, 1) := by decide +kernel
theorem dX5_loosens_37 : decode cX5_loosens 37 = .ok (.iconst 0, 1) := by decide +kernel
theorem dX5_loosens_38 : decode cX5_loosens 38 = .ok (.iastore, 1) := by decide +kernel
theorem dX5_loosens_39 : decode cX5_loosens 39 = .ok (.return_, 1) := by decide +kernel
theorem dX5_buys_0 : decode cX5_buys 0 = .ok (.iconst 0, 1) := by decide +kernel
theorem dX5_buys_1 : decode cX5_buys 1 = .ok (.istore_n 3, 1) := by decide +kernel
theorem dX5_buys_2 : decode cX5_buys 2 = .ok (.iload_n 3, 1) := by decide +kernel
theorem dX5_buys_3 : decode cX5_buys 3 = .ok (.iload_n 2, 1) := by decide +kernel
theorem dX5_buys_4 : decode cX5_buys 4 = .ok (.if_icmp .ge 15, 3) := by decide +kernel
theorem dX5_buys_7 : decode cX5_buys 7 = .ok (.aload_n 0, 1) := by decide +kernel
theorem dX5_buys_8 : decode cX5_buys 8 = .ok (.iload_n 1, 1) := by decide +kernel
theorem dX5_buys_9 : decode cX5_buys 9 = .ok (.iload_n 1, 1) := by decide +kernel
theorem dX5_buys_10 : decode cX5_buys 10 = .ok (.invokevirtual 78, 3) := by decide +kernel
theorem dX5_buys_13 : decode cX5_buys 13 = .ok (.iinc 3 1, 3) := by decide +kernel
theorem dX5_buys_16 : decode cX5_buys 16 = .ok (.goto (-14), 3) := by decide +kernel
theorem dX5_buys_19 : decode cX5_buys 19 = .ok (.aload_n 0, 1) := by decide +kernel
theorem dX5_buys_20 : decode cX5_buys 20 = .ok (.getfield 7, 3) := by decide +kernel
theorem dX5_buys_23 : decode cX5_buys 23 = .ok (.sipush 1518, 3) := by decide +kernel
theorem dX5_buys_26 : decode cX5_buys 26 = .ok (.dup2, 1) := by decide +kernel
theorem dX5_buys_27 : decode cX5_buys 27 = .ok (.iaload, 1) := by decide +kernel
theorem dX5_buys_28 : decode cX5_buys 28 = .ok (.iload_n 2, 1) := by decide +kernel
theorem dX5_buys_29 : decode cX5_buys 29 = .ok (.aload_n 0, 1) := by decide +kernel
theorem dX5_buys_30 : decode cX5_buys 30 = .ok (.getfield 7, 3) := by decide +kernel
theorem dX5_buys_33 : decode cX5_buys 33 = .ok (.sipush 1517, 3) := by decide +kernel
theorem dX5_buys_36 : decode cX5_buys 36 = .ok (.iaload, 1) := by decide +kernel
theorem dX5_buys_37 : decode cX5_buys 37 = .ok (.imul, 1) := by decide +kernel
theorem dX5_buys_38 : decode cX5_buys 38 = .ok (.iadd, 1) := by decide +kernel
theorem dX5_buys_39 : decode cX5_buys 39 = .ok (.iastore, 1) := by decide +kernel
theorem dX5_buys_40 : decode cX5_buys 40 = .ok (.return_, 1) := by decide +kernel
theorem dX5_buy_0 : decode cX5_buy 0 = .ok (.iload_n 1, 1) := by decide +kernel
theorem dX5_buy_1 : decode cX5_buy 1 = .ok (.invokestatic 82, 3) := by decide +kernel
theorem dX5_buy_4 : decode cX5_buy 4 = .ok (.ifCond .ne 9, 3) := by decide +kernel
theorem dX5_buy_7 : decode cX5_buy 7 = .ok (.aload_n 0, 1) := by decide +kernel
theorem dX5_buy_8 : decode cX5_buy 8 = .ok (.iconst 1, 1) := by decide +kernel
theorem dX5_buy_9 : decode cX5_buy 9 = .ok (.invokevirtual 86, 3) := by decide +kernel
theorem dX5_buy_12 : decode cX5_buy 12 = .ok (.ireturn, 1) := by decide +kernel
theorem dX5_buy_13 : decode cX5_buy 13 = .ok (.iload_n 2, 1) := by decide +kernel
theorem dX5_buy_14 : decode cX5_buy 14 = .ok (.i2l, 1) := by decide +kernel
theorem dX5_buy_15 : decode cX5_buy 15 = .ok (.lconst 1, 1) := by decide +kernel
theorem dX5_buy_16 : decode cX5_buy 16 = .ok (.ldc2_w 89, 3) := by decide +kernel
theorem dX5_buy_19 : decode cX5_buy 19 = .ok (.invokestatic 40, 3) := by decide +kernel
theorem dX5_buy_22 : decode cX5_buy 22 = .ok (.ifCond .ne 9, 3) := by decide +kernel
theorem dX5_buy_25 : decode cX5_buy 25 = .ok (.aload_n 0, 1) := by decide +kernel
theorem dX5_buy_26 : decode cX5_buy 26 = .ok (.iconst 2, 1) := by decide +kernel
theorem dX5_buy_27 : decode cX5_buy 27 = .ok (.invokevirtual 86, 3) := by decide +kernel
theorem dX5_buy_30 : decode cX5_buy 30 = .ok (.ireturn, 1) := by decide +kernel
theorem dX5_buy_31 : decode cX5_buy 31 = .ok (.aload_n 0, 1) := by decide +kernel
theorem dX5_buy_32 : decode cX5_buy 32 = .ok (.invokevirtual 91, 3) := by decide +kernel
theorem dX5_buy_35 : decode cX5_buy 35 = .ok (.iload_n 2, 1) := by decide +kernel
theorem dX5_buy_36 : decode cX5_buy 36 = .ok (.iadd, 1) := by decide +kernel
theorem dX5_buy_37 : decode cX5_buy 37 = .ok (.sipush 250, 3) := by decide +kernel
theorem dX5_buy_40 : decode cX5_buy 40 = .ok (.if_icmp .le 9, 3) := by decide +kernel
theorem dX5_buy_43 : decode cX5_buy 43 = .ok (.aload_n 0, 1) := by decide +kernel
theorem dX5_buy_44 : decode cX5_buy 44 = .ok (.iconst 3, 1) := by decide +kernel
theorem dX5_buy_45 : decode cX5_buy 45 = .ok (.invokevirtual 86, 3) := by decide +kernel
theorem dX5_buy_48 : decode cX5_buy 48 = .ok (.ireturn, 1) := by decide +kernel
theorem dX5_buy_49 : decode cX5_buy 49 = .ok (.aload_n 0, 1) := by decide +kernel
theorem dX5_buy_50 : decode cX5_buy 50 = .ok (.invokevirtual 94, 3) := by decide +kernel
theorem dX5_buy_53 : decode cX5_buy 53 = .ok (.aload_n 0, 1) := by decide +kernel
theorem dX5_buy_54 : decode cX5_buy 54 = .ok (.iload_n 1, 1) := by decide +kernel
theorem dX5_buy_55 : decode cX5_buy 55 = .ok (.iload_n 2, 1) := by decide +kernel
theorem dX5_buy_56 : decode cX5_buy 56 = .ok (.invokevirtual 97, 3) := by decide +kernel
theorem dX5_buy_59 : decode cX5_buy 59 = .ok (.aload_n 0, 1) := by decide +kernel
theorem dX5_buy_60 : decode cX5_buy 60 = .ok (.aload_n 0, 1) := by decide +kernel
theorem dX5_buy_61 : decode cX5_buy 61 = .ok (.iload_n 1, 1) := by decide +kernel
theorem dX5_buy_62 : decode cX5_buy 62 = .ok (.iconst (-1), 1) := by decide +kernel
theorem dX5_buy_63 : decode cX5_buy 63 = .ok (.invokevirtual 46, 3) := by decide +kernel
theorem dX5_buy_66 : decode cX5_buy 66 = .ok (.invokevirtual 100, 3) := by decide +kernel
theorem dX5_buy_69 : decode cX5_buy 69 = .ok (.ireturn, 1) := by decide +kernel
theorem dX5_lacking_0 : decode cX5_lacking 0 = .ok (.iconst 0, 1) := by decide +kernel
theorem dX5_lacking_1 : decode cX5_lacking 1 = .ok (.istore_n 2, 1) := by decide +kernel
theorem dX5_lacking_2 : decode cX5_lacking 2 = .ok (.iconst 0, 1) := by decide +kernel
theorem dX5_lacking_3 : decode cX5_lacking 3 = .ok (.istore_n 3, 1) := by decide +kernel
theorem dX5_lacking_4 : decode cX5_lacking 4 = .ok (.iload_n 3, 1) := by decide +kernel
theorem dX5_lacking_5 : decode cX5_lacking 5 = .ok (.aload_n 0, 1) := by decide +kernel
theorem dX5_lacking_6 : decode cX5_lacking 6 = .ok (.getfield 103, 3) := by decide +kernel
theorem dX5_lacking_9 : decode cX5_lacking 9 = .ok (.if_icmp .ge 27, 3) := by decide +kernel
theorem dX5_lacking_12 : decode cX5_lacking 12 = .ok (.iload_n 2, 1) := by decide +kernel
theorem dX5_lacking_13 : decode cX5_lacking 13 = .ok (.aload_n 0, 1) := by decide +kernel
theorem dX5_lacking_14 : decode cX5_lacking 14 = .ok (.getfield 19, 3) := by decide +kernel
theorem dX5_lacking_17 : decode cX5_lacking 17 = .ok (.iload_n 3, 1) := by decide +kernel
theorem dX5_lacking_18 : decode cX5_lacking 18 = .ok (.iaload, 1) := by decide +kernel
theorem dX5_lacking_19 : decode cX5_lacking 19 = .ok (.iload_n 1, 1) := by decide +kernel
theorem dX5_lacking_20 : decode cX5_lacking 20 = .ok (.if_icmp .ne 7, 3) := by decide +kernel
theorem dX5_lacking_23 : decode cX5_lacking 23 = .ok (.iconst 1, 1) := by decide +kernel
theorem dX5_lacking_24 : decode cX5_lacking 24 = .ok (.goto 4, 3) := by decide +kernel
theorem dX5_lacking_27 : decode cX5_lacking 27 = .ok (.iconst 0, 1) := by decide +kernel
theorem dX5_lacking_28 : decode cX5_lacking 28 = .ok (.iadd, 1) := by decide +kernel
theorem dX5_lacking_29 : decode cX5_lacking 29 = .ok (.istore_n 2, 1) := by decide +kernel
theorem dX5_lacking_30 : decode cX5_lacking 30 = .ok (.iinc 3 1, 3) := by decide +kernel
theorem dX5_lacking_33 : decode cX5_lacking 33 = .ok (.goto (-29), 3) := by decide +kernel
theorem dX5_lacking_36 : decode cX5_lacking 36 = .ok (.aload_n 0, 1) := by decide +kernel
theorem dX5_lacking_37 : decode cX5_lacking 37 = .ok (.iload_n 1, 1) := by decide +kernel
theorem dX5_lacking_38 : decode cX5_lacking 38 = .ok (.iload_n 1, 1) := by decide +kernel
theorem dX5_lacking_39 : decode cX5_lacking 39 = .ok (.invokevirtual 46, 3) := by decide +kernel
theorem dX5_lacking_42 : decode cX5_lacking 42 = .ok (.istore_n 3, 1) := by decide +kernel
theorem dX5_lacking_43 : decode cX5_lacking 43 = .ok (.iload_n 2, 1) := by decide +kernel
theorem dX5_lacking_44 : decode cX5_lacking 44 = .ok (.iload_n 3, 1) := by decide +kernel
theorem dX5_lacking_45 : decode cX5_lacking 45 = .ok (.if_icmp .le 9, 3) := by decide +kernel
theorem dX5_lacking_48 : decode cX5_lacking 48 = .ok (.iload_n 2, 1) := by decide +kernel
theorem dX5_lacking_49 : decode cX5_lacking 49 = .ok (.iload_n 3, 1) := by decide +kernel
theorem dX5_lacking_50 : decode cX5_lacking 50 = .ok (.isub, 1) := by decide +kernel
theorem dX5_lacking_51 : decode cX5_lacking 51 = .ok (.goto 4, 3) := by decide +kernel
theorem dX5_lacking_54 : decode cX5_lacking 54 = .ok (.iconst 0, 1) := by decide +kernel
