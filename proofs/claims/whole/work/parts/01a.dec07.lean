/-! decode rows -/
theorem dX12_notes_0 : decode cX12_notes 0 = .ok (.aload_n 0, 1) := by decide +kernel
theorem dX12_notes_1 : decode cX12_notes 1 = .ok (.getfield 13, 3) := by decide +kernel
theorem dX12_notes_4 : decode cX12_notes 4 = .ok (.bipush 26, 2) := by decide +kernel
theorem dX12_notes_6 : decode cX12_notes 6 = .ok (.iaload, 1) := by decide +kernel
theorem dX12_notes_7 : decode cX12_notes 7 = .ok (.bipush 10, 2) := by decide +kernel
theorem dX12_notes_9 : decode cX12_notes 9 = .ok (.if_icmp .ne 46, 3) := by decide +kernel
theorem dX12_notes_12 : decode cX12_notes 12 = .ok (.iconst 0, 1) := by decide +kernel
theorem dX12_notes_13 : decode cX12_notes 13 = .ok (.istore_n 1, 1) := by decide +kernel
theorem dX12_notes_14 : decode cX12_notes 14 = .ok (.iload_n 1, 1) := by decide +kernel
theorem dX12_notes_15 : decode cX12_notes 15 = .ok (.bipush 99, 2) := by decide +kernel
theorem dX12_notes_17 : decode cX12_notes 17 = .ok (.if_icmp .ge 27, 3) := by decide +kernel
theorem dX12_notes_20 : decode cX12_notes 20 = .ok (.aload_n 0, 1) := by decide +kernel
theorem dX12_notes_21 : decode cX12_notes 21 = .ok (.getfield 13, 3) := by decide +kernel
theorem dX12_notes_24 : decode cX12_notes 24 = .ok (.bipush 27, 2) := by decide +kernel
theorem dX12_notes_26 : decode cX12_notes 26 = .ok (.iload_n 1, 1) := by decide +kernel
theorem dX12_notes_27 : decode cX12_notes 27 = .ok (.iadd, 1) := by decide +kernel
theorem dX12_notes_28 : decode cX12_notes 28 = .ok (.aload_n 0, 1) := by decide +kernel
theorem dX12_notes_29 : decode cX12_notes 29 = .ok (.getfield 13, 3) := by decide +kernel
theorem dX12_notes_32 : decode cX12_notes 32 = .ok (.bipush 38, 2) := by decide +kernel
theorem dX12_notes_34 : decode cX12_notes 34 = .ok (.iload_n 1, 1) := by decide +kernel
theorem dX12_notes_35 : decode cX12_notes 35 = .ok (.iadd, 1) := by decide +kernel
theorem dX12_notes_36 : decode cX12_notes 36 = .ok (.iaload, 1) := by decide +kernel
theorem dX12_notes_37 : decode cX12_notes 37 = .ok (.iastore, 1) := by decide +kernel
theorem dX12_notes_38 : decode cX12_notes 38 = .ok (.iinc 1 1, 3) := by decide +kernel
theorem dX12_notes_41 : decode cX12_notes 41 = .ok (.goto (-27), 3) := by decide +kernel
theorem dX12_notes_44 : decode cX12_notes 44 = .ok (.aload_n 0, 1) := by decide +kernel
theorem dX12_notes_45 : decode cX12_notes 45 = .ok (.getfield 13, 3) := by decide +kernel
theorem dX12_notes_48 : decode cX12_notes 48 = .ok (.bipush 26, 2) := by decide +kernel
theorem dX12_notes_50 : decode cX12_notes 50 = .ok (.dup2, 1) := by decide +kernel
theorem dX12_notes_51 : decode cX12_notes 51 = .ok (.iaload, 1) := by decide +kernel
theorem dX12_notes_52 : decode cX12_notes 52 = .ok (.iconst 1, 1) := by decide +kernel
theorem dX12_notes_53 : decode cX12_notes 53 = .ok (.isub, 1) := by decide +kernel
theorem dX12_notes_54 : decode cX12_notes 54 = .ok (.iastore, 1) := by decide +kernel
theorem dX12_notes_55 : decode cX12_notes 55 = .ok (.iconst 0, 1) := by decide +kernel
theorem dX12_notes_56 : decode cX12_notes 56 = .ok (.istore_n 1, 1) := by decide +kernel
theorem dX12_notes_57 : decode cX12_notes 57 = .ok (.iload_n 1, 1) := by decide +kernel
theorem dX12_notes_58 : decode cX12_notes 58 = .ok (.bipush 11, 2) := by decide +kernel
theorem dX12_notes_60 : decode cX12_notes 60 = .ok (.if_icmp .ge 35, 3) := by decide +kernel
theorem dX12_notes_63 : decode cX12_notes 63 = .ok (.aload_n 0, 1) := by decide +kernel
theorem dX12_notes_64 : decode cX12_notes 64 = .ok (.getfield 13, 3) := by decide +kernel
theorem dX12_notes_67 : decode cX12_notes 67 = .ok (.bipush 27, 2) := by decide +kernel
theorem dX12_notes_69 : decode cX12_notes 69 = .ok (.bipush 11, 2) := by decide +kernel
theorem dX12_notes_71 : decode cX12_notes 71 = .ok (.aload_n 0, 1) := by decide +kernel
theorem dX12_notes_72 : decode cX12_notes 72 = .ok (.getfield 13, 3) := by decide +kernel
theorem dX12_notes_75 : decode cX12_notes 75 = .ok (.bipush 26, 2) := by decide +kernel
theorem dX12_notes_77 : decode cX12_notes 77 = .ok (.iaload, 1) := by decide +kernel
theorem dX12_notes_78 : decode cX12_notes 78 = .ok (.imul, 1) := by decide +kernel
theorem dX12_notes_79 : decode cX12_notes 79 = .ok (.iadd, 1) := by decide +kernel
theorem dX12_notes_80 : decode cX12_notes 80 = .ok (.iload_n 1, 1) := by decide +kernel
theorem dX12_notes_81 : decode cX12_notes 81 = .ok (.iadd, 1) := by decide +kernel
theorem dX12_notes_82 : decode cX12_notes 82 = .ok (.aload_n 0, 1) := by decide +kernel
theorem dX12_notes_83 : decode cX12_notes 83 = .ok (.getfield 45, 3) := by decide +kernel
theorem dX12_notes_86 : decode cX12_notes 86 = .ok (.iload_n 1, 1) := by decide +kernel
theorem dX12_notes_87 : decode cX12_notes 87 = .ok (.iaload, 1) := by decide +kernel
theorem dX12_notes_88 : decode cX12_notes 88 = .ok (.iastore, 1) := by decide +kernel
theorem dX12_notes_89 : decode cX12_notes 89 = .ok (.iinc 1 1, 3) := by decide +kernel
theorem dX12_notes_92 : decode cX12_notes 92 = .ok (.goto (-35), 3) := by decide +kernel
theorem dX12_notes_95 : decode cX12_notes 95 = .ok (.aload_n 0, 1) := by decide +kernel
theorem dX12_notes_96 : decode cX12_notes 96 = .ok (.getfield 13, 3) := by decide +kernel
theorem dX12_notes_99 : decode cX12_notes 99 = .ok (.bipush 26, 2) := by decide +kernel
theorem dX12_notes_101 : decode cX12_notes 101 = .ok (.dup2, 1) := by decide +kernel
theorem dX12_notes_102 : decode cX12_notes 102 = .ok (.iaload, 1) := by decide +kernel
theorem dX12_notes_103 : decode cX12_notes 103 = .ok (.iconst 1, 1) := by decide +kernel
theorem dX12_notes_104 : decode cX12_notes 104 = .ok (.iadd, 1) := by decide +kernel
theorem dX12_notes_105 : decode cX12_notes 105 = .ok (.iastore, 1) := by decide +kernel
theorem dX12_notes_106 : decode cX12_notes 106 = .ok (.return_, 1) := by decide +kernel
theorem dX12_goesYear_0 : decode cX12_goesYear 0 = .ok (.aload_n 0, 1) := by decide +kernel
theorem dX12_goesYear_1 : decode cX12_goesYear 1 = .ok (.aload_n 0, 1) := by decide +kernel
theorem dX12_goesYear_2 : decode cX12_goesYear 2 = .ok (.invokevirtual 282, 3) := by decide +kernel
theorem dX12_goesYear_5 : decode cX12_goesYear 5 = .ok (.aload_n 0, 1) := by decide +kernel
theorem dX12_goesYear_6 : decode cX12_goesYear 6 = .ok (.getfield 13, 3) := by decide +kernel
theorem dX12_goesYear_9 : decode cX12_goesYear 9 = .ok (.bipush 23, 2) := by decide +kernel
theorem dX12_goesYear_11 : decode cX12_goesYear 11 = .ok (.iaload, 1) := by decide +kernel
theorem dX12_goesYear_12 : decode cX12_goesYear 12 = .ok (.iload_n 1, 1) := by decide +kernel
theorem dX12_goesYear_13 : decode cX12_goesYear 13 = .ok (.invokevirtual 294, 3) := by decide +kernel
theorem dX12_goesYear_16 : decode cX12_goesYear 16 = .ok (.istore_n 2, 1) := by decide +kernel
theorem dX12_goesYear_17 : decode cX12_goesYear 17 = .ok (.iconst 0, 1) := by decide +kernel
theorem dX12_goesYear_18 : decode cX12_goesYear 18 = .ok (.istore_n 3, 1) := by decide +kernel
theorem dX12_goesYear_19 : decode cX12_goesYear 19 = .ok (.iload_n 3, 1) := by decide +kernel
theorem dX12_goesYear_20 : decode cX12_goesYear 20 = .ok (.aload_n 0, 1) := by decide +kernel
theorem dX12_goesYear_21 : decode cX12_goesYear 21 = .ok (.getfield 13, 3) := by decide +kernel
theorem dX12_goesYear_24 : decode cX12_goesYear 24 = .ok (.iconst 1, 1) := by decide +kernel
theorem dX12_goesYear_25 : decode cX12_goesYear 25 = .ok (.iaload, 1) := by decide +kernel
theorem dX12_goesYear_26 : decode cX12_goesYear 26 = .ok (.if_icmp .ge 23, 3) := by decide +kernel
theorem dX12_goesYear_29 : decode cX12_goesYear 29 = .ok (.aload_n 0, 1) := by decide +kernel
theorem dX12_goesYear_30 : decode cX12_goesYear 30 = .ok (.getfield 13, 3) := by decide +kernel
theorem dX12_goesYear_33 : decode cX12_goesYear 33 = .ok (.bipush 15, 2) := by decide +kernel
theorem dX12_goesYear_35 : decode cX12_goesYear 35 = .ok (.iload_n 3, 1) := by decide +kernel
theorem dX12_goesYear_36 : decode cX12_goesYear 36 = .ok (.iadd, 1) := by decide +kernel
theorem dX12_goesYear_37 : decode cX12_goesYear 37 = .ok (.iload_n 2, 1) := by decide +kernel
theorem dX12_goesYear_38 : decode cX12_goesYear 38 = .ok (.iload_n 3, 1) := by decide +kernel
theorem dX12_goesYear_39 : decode cX12_goesYear 39 = .ok (.invokestatic 217, 3) := by decide +kernel
theorem dX12_goesYear_42 : decode cX12_goesYear 42 = .ok (.iastore, 1) := by decide +kernel
theorem dX12_goesYear_43 : decode cX12_goesYear 43 = .ok (.iinc 3 1, 3) := by decide +kernel
theorem dX12_goesYear_46 : decode cX12_goesYear 46 = .ok (.goto (-27), 3) := by decide +kernel
theorem dX12_goesYear_49 : decode cX12_goesYear 49 = .ok (.aload_n 0, 1) := by decide +kernel
theorem dX12_goesYear_50 : decode cX12_goesYear 50 = .ok (.getfield 13, 3) := by decide +kernel
theorem dX12_goesYear_53 : decode cX12_goesYear 53 = .ok (.bipush 24, 2) := by decide +kernel
theorem dX12_goesYear_55 : decode cX12_goesYear 55 = .ok (.iload_n 2, 1) := by decide +kernel
theorem dX12_goesYear_56 : decode cX12_goesYear 56 = .ok (.invokestatic 245, 3) := by decide +kernel
theorem dX12_goesYear_59 : decode cX12_goesYear 59 = .ok (.ifCond .eq 7, 3) := by decide +kernel
theorem dX12_goesYear_62 : decode cX12_goesYear 62 = .ok (.iconst 1, 1) := by decide +kernel
theorem dX12_goesYear_63 : decode cX12_goesYear 63 = .ok (.goto 4, 3) := by decide +kernel
theorem dX12_goesYear_66 : decode cX12_goesYear 66 = .ok (.iconst 0, 1) := by decide +kernel
theorem dX12_goesYear_67 : decode cX12_goesYear 67 = .ok (.iastore, 1) := by decide +kernel
theorem dX12_goesYear_68 : decode cX12_goesYear 68 = .ok (.aload_n 0, 1) := by decide +kernel
theorem dX12_goesYear_69 : decode cX12_goesYear 69 = .ok (.getfield 13, 3) := by decide +kernel
theorem dX12_goesYear_72 : decode cX12_goesYear 72 = .ok (.bipush 25, 2) := by decide +kernel
theorem dX12_goesYear_74 : decode cX12_goesYear 74 = .ok (.dup2, 1) := by decide +kernel
theorem dX12_goesYear_75 : decode cX12_goesYear 75 = .ok (.iaload, 1) := by decide +kernel
theorem dX12_goesYear_76 : decode cX12_goesYear 76 = .ok (.iconst 1, 1) := by decide +kernel
theorem dX12_goesYear_77 : decode cX12_goesYear 77 = .ok (.iadd, 1) := by decide +kernel
theorem dX12_goesYear_78 : decode cX12_goesYear 78 = .ok (.iastore, 1) := by decide +kernel
theorem dX12_goesYear_79 : decode cX12_goesYear 79 = .ok (.return_, 1) := by decide +kernel
theorem dX12_whySaw_0 : decode cX12_whySaw 0 = .ok (.aload_n 0, 1) := by decide +kernel
theorem dX12_whySaw_1 : decode cX12_whySaw 1 = .ok (.lload_n 1, 1) := by decide +kernel
theorem dX12_whySaw_2 : decode cX12_whySaw 2 = .ok (.invokevirtual 271, 3) := by decide +kernel
theorem dX12_whySaw_5 : decode cX12_whySaw 5 = .ok (.ifCond .ne 7, 3) := by decide +kernel
theorem dX12_whySaw_8 : decode cX12_whySaw 8 = .ok (.iconst 1, 1) := by decide +kernel
theorem dX12_whySaw_9 : decode cX12_whySaw 9 = .ok (.goto 19, 3) := by decide +kernel
theorem dX12_whySaw_12 : decode cX12_whySaw 12 = .ok (.aload_n 0, 1) := by decide +kernel
theorem dX12_whySaw_13 : decode cX12_whySaw 13 = .ok (.getfield 13, 3) := by decide +kernel
theorem dX12_whySaw_16 : decode cX12_whySaw 16 = .ok (.bipush 24, 2) := by decide +kernel
theorem dX12_whySaw_18 : decode cX12_whySaw 18 = .ok (.iaload, 1) := by decide +kernel
theorem dX12_whySaw_19 : decode cX12_whySaw 19 = .ok (.iconst 1, 1) := by decide +kernel
theorem dX12_whySaw_20 : decode cX12_whySaw 20 = .ok (.if_icmp .ne 7, 3) := by decide +kernel
theorem dX12_whySaw_23 : decode cX12_whySaw 23 = .ok (.iconst 2, 1) := by decide +kernel
theorem dX12_whySaw_24 : decode cX12_whySaw 24 = .ok (.goto 4, 3) := by decide +kernel
theorem dX12_whySaw_27 : decode cX12_whySaw 27 = .ok (.iconst 0, 1) := by decide +kernel
theorem dX12_whySaw_28 : decode cX12_whySaw 28 = .ok (.ireturn, 1) := by decide +kernel
theorem dX12_year_0 : decode cX12_year 0 = .ok (.aload_n 0, 1) := by decide +kernel
theorem dX12_year_1 : decode cX12_year 1 = .ok (.iconst 0, 1) := by decide +kernel
theorem dX12_year_2 : decode cX12_year 2 = .ok (.putfield 1, 3) := by decide +kernel
theorem dX12_year_5 : decode cX12_year 5 = .ok (.iload_n 1, 1) := by decide +kernel
theorem dX12_year_6 : decode cX12_year 6 = .ok (.i2l, 1) := by decide +kernel
theorem dX12_year_7 : decode cX12_year 7 = .ok (.invokestatic 278, 3) := by decide +kernel
theorem dX12_year_10 : decode cX12_year 10 = .ok (.ifCond .ne 6, 3) := by decide +kernel
theorem dX12_year_13 : decode cX12_year 13 = .ok (.bipush (-11), 2) := by decide +kernel
theorem dX12_year_15 : decode cX12_year 15 = .ok (.ireturn, 1) := by decide +kernel
theorem dX12_year_16 : decode cX12_year 16 = .ok (.aload_n 0, 1) := by decide +kernel
theorem dX12_year_17 : decode cX12_year 17 = .ok (.invokevirtual 297, 3) := by decide +kernel
theorem dX12_year_20 : decode cX12_year 20 = .ok (.aload_n 0, 1) := by decide +kernel
theorem dX12_year_21 : decode cX12_year 21 = .ok (.aload_n 0, 1) := by decide +kernel
theorem dX12_year_22 : decode cX12_year 22 = .ok (.invokevirtual 282, 3) := by decide +kernel
theorem dX12_year_25 : decode cX12_year 25 = .ok (.invokevirtual 233, 3) := by decide +kernel
theorem dX12_year_28 : decode cX12_year 28 = .ok (.invokestatic 236, 3) := by decide +kernel
theorem dX12_year_31 : decode cX12_year 31 = .ok (.istore_n 2, 1) := by decide +kernel
theorem dX12_year_32 : decode cX12_year 32 = .ok (.aload_n 0, 1) := by decide +kernel
theorem dX12_year_33 : decode cX12_year 33 = .ok (.iload_n 1, 1) := by decide +kernel
theorem dX12_year_34 : decode cX12_year 34 = .ok (.invokevirtual 300, 3) := by decide +kernel
theorem dX12_year_37 : decode cX12_year 37 = .ok (.aload_n 0, 1) := by decide +kernel
theorem dX12_year_38 : decode cX12_year 38 = .ok (.invokevirtual 303, 3) := by decide +kernel
theorem dX12_year_41 : decode cX12_year 41 = .ok (.aload_n 0, 1) := by decide +kernel
theorem dX12_year_42 : decode cX12_year 42 = .ok (.aload_n 0, 1) := by decide +kernel
theorem dX12_year_43 : decode cX12_year 43 = .ok (.invokevirtual 282, 3) := by decide +kernel
theorem dX12_year_46 : decode cX12_year 46 = .ok (.invokevirtual 233, 3) := by decide +kernel
theorem dX12_year_49 : decode cX12_year 49 = .ok (.invokestatic 236, 3) := by decide +kernel
theorem dX12_year_52 : decode cX12_year 52 = .ok (.iload_n 2, 1) := by decide +kernel
theorem dX12_year_53 : decode cX12_year 53 = .ok (.isub, 1) := by decide +kernel
theorem dX12_year_54 : decode cX12_year 54 = .ok (.ireturn, 1) := by decide +kernel
theorem dX12_lead_0 : decode cX12_lead 0 = .ok (.aload_n 0, 1) := by decide +kernel
theorem dX12_lead_1 : decode cX12_lead 1 = .ok (.iconst 0, 1) := by decide +kernel
theorem dX12_lead_2 : decode cX12_lead 2 = .ok (.putfield 1, 3) := by decide +kernel
theorem dX12_lead_5 : decode cX12_lead 5 = .ok (.aload_n 0, 1) := by decide +kernel
theorem dX12_lead_6 : decode cX12_lead 6 = .ok (.iload_n 1, 1) := by decide +kernel
theorem dX12_lead_7 : decode cX12_lead 7 = .ok (.i2l, 1) := by decide +kernel
theorem dX12_lead_8 : decode cX12_lead 8 = .ok (.invokevirtual 288, 3) := by decide +kernel
theorem dX12_lead_11 : decode cX12_lead 11 = .ok (.ifCond .ne 6, 3) := by decide +kernel
theorem dX12_lead_14 : decode cX12_lead 14 = .ok (.bipush (-11), 2) := by decide +kernel
theorem dX12_lead_16 : decode cX12_lead 16 = .ok (.ireturn, 1) := by decide +kernel
theorem dX12_lead_17 : decode cX12_lead 17 = .ok (.aload_n 0, 1) := by decide +kernel
theorem dX12_lead_18 : decode cX12_lead 18 = .ok (.invokevirtual 297, 3) := by decide +kernel
theorem dX12_lead_21 : decode cX12_lead 21 = .ok (.aload_n 0, 1) := by decide +kernel
theorem dX12_lead_22 : decode cX12_lead 22 = .ok (.getfield 13, 3) := by decide +kernel
theorem dX12_lead_25 : decode cX12_lead 25 = .ok (.bipush 23, 2) := by decide +kernel
theorem dX12_lead_27 : decode cX12_lead 27 = .ok (.iload_n 1, 1) := by decide +kernel
theorem dX12_lead_28 : decode cX12_lead 28 = .ok (.iastore, 1) := by decide +kernel
theorem dX12_lead_29 : decode cX12_lead 29 = .ok (.aload_n 0, 1) := by decide +kernel
theorem dX12_lead_30 : decode cX12_lead 30 = .ok (.invokevirtual 303, 3) := by decide +kernel
theorem dX12_lead_33 : decode cX12_lead 33 = .ok (.aload_n 0, 1) := by decide +kernel
theorem dX12_lead_34 : decode cX12_lead 34 = .ok (.getfield 45, 3) := by decide +kernel
theorem dX12_lead_37 : decode cX12_lead 37 = .ok (.bipush 8, 2) := by decide +kernel
theorem dX12_lead_39 : decode cX12_lead 39 = .ok (.iaload, 1) := by decide +kernel
theorem dX12_lead_40 : decode cX12_lead 40 = .ok (.ireturn, 1) := by decide +kernel
theorem dX12_saw_0 : decode cX12_saw 0 = .ok (.aload_n 0, 1) := by decide +kernel
theorem dX12_saw_1 : decode cX12_saw 1 = .ok (.iconst 0, 1) := by decide +kernel
theorem dX12_saw_2 : decode cX12_saw 2 = .ok (.putfield 1, 3) := by decide +kernel
theorem dX12_saw_5 : decode cX12_saw 5 = .ok (.aload_n 0, 1) := by decide +kernel
theorem dX12_saw_6 : decode cX12_saw 6 = .ok (.iload_n 1, 1) := by decide +kernel
theorem dX12_saw_7 : decode cX12_saw 7 = .ok (.i2l, 1) := by decide +kernel
theorem dX12_saw_8 : decode cX12_saw 8 = .ok (.invokevirtual 306, 3) := by decide +kernel
theorem dX12_saw_11 : decode cX12_saw 11 = .ok (.istore_n 2, 1) := by decide +kernel
theorem dX12_saw_12 : decode cX12_saw 12 = .ok (.iload_n 2, 1) := by decide +kernel
theorem dX12_saw_13 : decode cX12_saw 13 = .ok (.ifCond .eq 8, 3) := by decide +kernel
theorem dX12_saw_16 : decode cX12_saw 16 = .ok (.bipush (-10), 2) := by decide +kernel
theorem dX12_saw_18 : decode cX12_saw 18 = .ok (.iload_n 2, 1) := by decide +kernel
theorem dX12_saw_19 : decode cX12_saw 19 = .ok (.isub, 1) := by decide +kernel
theorem dX12_saw_20 : decode cX12_saw 20 = .ok (.ireturn, 1) := by decide +kernel
theorem dX12_saw_21 : decode cX12_saw 21 = .ok (.aload_n 0, 1) := by decide +kernel
theorem dX12_saw_22 : decode cX12_saw 22 = .ok (.invokevirtual 297, 3) := by decide +kernel
theorem dX12_saw_25 : decode cX12_saw 25 = .ok (.aload_n 0, 1) := by decide +kernel
theorem dX12_saw_26 : decode cX12_saw 26 = .ok (.getfield 13, 3) := by decide +kernel
theorem dX12_saw_29 : decode cX12_saw 29 = .ok (.bipush 15, 2) := by decide +kernel
theorem dX12_saw_31 : decode cX12_saw 31 = .ok (.iload_n 1, 1) := by decide +kernel
theorem dX12_saw_32 : decode cX12_saw 32 = .ok (.iadd, 1) := by decide +kernel
theorem dX12_saw_33 : decode cX12_saw 33 = .ok (.aload_n 0, 1) := by decide +kernel
theorem dX12_saw_34 : decode cX12_saw 34 = .ok (.getfield 13, 3) := by decide +kernel
theorem dX12_saw_37 : decode cX12_saw 37 = .ok (.bipush 11, 2) := by decide +kernel
theorem dX12_saw_39 : decode cX12_saw 39 = .ok (.iload_n 1, 1) := by decide +kernel
theorem dX12_saw_40 : decode cX12_saw 40 = .ok (.iadd, 1) := by decide +kernel
theorem dX12_saw_41 : decode cX12_saw 41 = .ok (.iaload, 1) := by decide +kernel
theorem dX12_saw_42 : decode cX12_saw 42 = .ok (.iastore, 1) := by decide +kernel
theorem dX12_saw_43 : decode cX12_saw 43 = .ok (.aload_n 0, 1) := by decide +kernel
theorem dX12_saw_44 : decode cX12_saw 44 = .ok (.invokevirtual 303, 3) := by decide +kernel
theorem dX12_saw_47 : decode cX12_saw 47 = .ok (.aload_n 0, 1) := by decide +kernel
theorem dX12_saw_48 : decode cX12_saw 48 = .ok (.getfield 45, 3) := by decide +kernel
theorem dX12_saw_51 : decode cX12_saw 51 = .ok (.iload_n 1, 1) := by decide +kernel
theorem dX12_saw_52 : decode cX12_saw 52 = .ok (.iaload, 1) := by decide +kernel
theorem dX12_saw_53 : decode cX12_saw 53 = .ok (.ireturn, 1) := by decide +kernel
theorem dX12_chalk_0 : decode cX12_chalk 0 = .ok (.aload_n 0, 1) := by decide +kernel
theorem dX12_chalk_1 : decode cX12_chalk 1 = .ok (.iconst 0, 1) := by decide +kernel
theorem dX12_chalk_2 : decode cX12_chalk 2 = .ok (.putfield 1, 3) := by decide +kernel
theorem dX12_chalk_5 : decode cX12_chalk 5 = .ok (.aload_n 0, 1) := by decide +kernel
theorem dX12_chalk_6 : decode cX12_chalk 6 = .ok (.iload_n 1, 1) := by decide +kernel
theorem dX12_chalk_7 : decode cX12_chalk 7 = .ok (.i2l, 1) := by decide +kernel
theorem dX12_chalk_8 : decode cX12_chalk 8 = .ok (.invokevirtual 271, 3) := by decide +kernel
theorem dX12_chalk_11 : decode cX12_chalk 11 = .ok (.ifCond .eq 15, 3) := by decide +kernel
theorem dX12_chalk_14 : decode cX12_chalk 14 = .ok (.iload_n 2, 1) := by decide +kernel
theorem dX12_chalk_15 : decode cX12_chalk 15 = .ok (.i2l, 1) := by decide +kernel
theorem dX12_chalk_16 : decode cX12_chalk 16 = .ok (.lconst 0, 1) := by decide +kernel
theorem dX12_chalk_17 : decode cX12_chalk 17 = .ok (.ldc2_w 310, 3) := by decide +kernel
theorem dX12_chalk_20 : decode cX12_chalk 20 = .ok (.invokestatic 155, 3) := by decide +kernel
theorem dX12_chalk_23 : decode cX12_chalk 23 = .ok (.ifCond .ne 6, 3) := by decide +kernel
theorem dX12_chalk_26 : decode cX12_chalk 26 = .ok (.bipush (-11), 2) := by decide +kernel
theorem dX12_chalk_28 : decode cX12_chalk 28 = .ok (.ireturn, 1) := by decide +kernel
theorem dX12_chalk_29 : decode cX12_chalk 29 = .ok (.aload_n 0, 1) := by decide +kernel
theorem dX12_chalk_30 : decode cX12_chalk 30 = .ok (.invokevirtual 297, 3) := by decide +kernel
theorem dX12_chalk_33 : decode cX12_chalk 33 = .ok (.aload_n 0, 1) := by decide +kernel
theorem dX12_chalk_34 : decode cX12_chalk 34 = .ok (.getfield 13, 3) := by decide +kernel
theorem dX12_chalk_37 : decode cX12_chalk 37 = .ok (.bipush 19, 2) := by decide +kernel
theorem dX12_chalk_39 : decode cX12_chalk 39 = .ok (.iload_n 1, 1) := by decide +kernel
theorem dX12_chalk_40 : decode cX12_chalk 40 = .ok (.iadd, 1) := by decide +kernel
theorem dX12_chalk_41 : decode cX12_chalk 41 = .ok (.iload_n 2, 1) := by decide +kernel
theorem dX12_chalk_42 : decode cX12_chalk 42 = .ok (.iastore, 1) := by decide +kernel
theorem dX12_chalk_43 : decode cX12_chalk 43 = .ok (.aload_n 0, 1) := by decide +kernel
theorem dX12_chalk_44 : decode cX12_chalk 44 = .ok (.invokevirtual 303, 3) := by decide +kernel
theorem dX12_chalk_47 : decode cX12_chalk 47 = .ok (.aload_n 0, 1) := by decide +kernel
theorem dX12_chalk_48 : decode cX12_chalk 48 = .ok (.getfield 45, 3) := by decide +kernel
theorem dX12_chalk_51 : decode cX12_chalk 51 = .ok (.iconst 4, 1) := by decide +kernel
theorem dX12_chalk_52 : decode cX12_chalk 52 = .ok (.iload_n 1, 1) := by decide +kernel
theorem dX12_chalk_53 : decode cX12_chalk 53 = .ok (.iadd, 1) := by decide +kernel
theorem dX12_chalk_54 : decode cX12_chalk 54 = .ok (.iaload, 1) := by decide +kernel
theorem dX12_chalk_55 : decode cX12_chalk 55 = .ok (.ireturn, 1) := by decide +kernel
theorem dX12_undo_0 : decode cX12_undo 0 = .ok (.aload_n 0, 1) := by decide +kernel
theorem dX12_undo_1 : decode cX12_undo 1 = .ok (.iconst 0, 1) := by decide +kernel
theorem dX12_undo_2 : decode cX12_undo 2 = .ok (.putfield 1, 3) := by decide +kernel
theorem dX12_undo_5 : decode cX12_undo 5 = .ok (.iload_n 1, 1) := by decide +kernel
theorem dX12_undo_6 : decode cX12_undo 6 = .ok (.i2l, 1) := by decide +kernel
theorem dX12_undo_7 : decode cX12_undo 7 = .ok (.lconst 1, 1) := by decide +kernel
theorem dX12_undo_8 : decode cX12_undo 8 = .ok (.ldc2_w 312, 3) := by decide +kernel
theorem dX12_undo_11 : decode cX12_undo 11 = .ok (.invokestatic 155, 3) := by decide +kernel
theorem dX12_undo_14 : decode cX12_undo 14 = .ok (.ifCond .eq 14, 3) := by decide +kernel
theorem dX12_undo_17 : decode cX12_undo 17 = .ok (.iload_n 1, 1) := by decide +kernel
theorem dX12_undo_18 : decode cX12_undo 18 = .ok (.aload_n 0, 1) := by decide +kernel
theorem dX12_undo_19 : decode cX12_undo 19 = .ok (.getfield 13, 3) := by decide +kernel
theorem dX12_undo_22 : decode cX12_undo 22 = .ok (.bipush 26, 2) := by decide +kernel
theorem dX12_undo_24 : decode cX12_undo 24 = .ok (.iaload, 1) := by decide +kernel
theorem dX12_undo_25 : decode cX12_undo 25 = .ok (.if_icmp .le 6, 3) := by decide +kernel
theorem dX12_undo_28 : decode cX12_undo 28 = .ok (.bipush (-3), 2) := by decide +kernel
theorem dX12_undo_30 : decode cX12_undo 30 = .ok (.ireturn, 1) := by decide +kernel
theorem dX12_undo_31 : decode cX12_undo 31 = .ok (.aload_n 0, 1) := by decide +kernel
theorem dX12_undo_32 : decode cX12_undo 32 = .ok (.getfield 13, 3) := by decide +kernel
theorem dX12_undo_35 : decode cX12_undo 35 = .ok (.bipush 26, 2) := by decide +kernel
theorem dX12_undo_37 : decode cX12_undo 37 = .ok (.dup2, 1) := by decide +kernel
theorem dX12_undo_38 : decode cX12_undo 38 = .ok (.iaload, 1) := by decide +kernel
theorem dX12_undo_39 : decode cX12_undo 39 = .ok (.iload_n 1, 1) := by decide +kernel
theorem dX12_undo_40 : decode cX12_undo 40 = .ok (.isub, 1) := by decide +kernel
theorem dX12_undo_41 : decode cX12_undo 41 = .ok (.iastore, 1) := by decide +kernel
theorem dX12_undo_42 : decode cX12_undo 42 = .ok (.iconst 0, 1) := by decide +kernel
theorem dX12_undo_43 : decode cX12_undo 43 = .ok (.istore_n 2, 1) := by decide +kernel
theorem dX12_undo_44 : decode cX12_undo 44 = .ok (.iload_n 2, 1) := by decide +kernel
theorem dX12_undo_45 : decode cX12_undo 45 = .ok (.bipush 11, 2) := by decide +kernel
theorem dX12_undo_47 : decode cX12_undo 47 = .ok (.if_icmp .ge 38, 3) := by decide +kernel
theorem dX12_undo_50 : decode cX12_undo 50 = .ok (.aload_n 0, 1) := by decide +kernel
theorem dX12_undo_51 : decode cX12_undo 51 = .ok (.getfield 13, 3) := by decide +kernel
theorem dX12_undo_54 : decode cX12_undo 54 = .ok (.bipush 15, 2) := by decide +kernel
theorem dX12_undo_56 : decode cX12_undo 56 = .ok (.iload_n 2, 1) := by decide +kernel
theorem dX12_undo_57 : decode cX12_undo 57 = .ok (.iadd, 1) := by decide +kernel
theorem dX12_undo_58 : decode cX12_undo 58 = .ok (.aload_n 0, 1) := by decide +kernel
theorem dX12_undo_59 : decode cX12_undo 59 = .ok (.getfield 13, 3) := by decide +kernel
theorem dX12_undo_62 : decode cX12_undo 62 = .ok (.bipush 27, 2) := by decide +kernel
theorem dX12_undo_64 : decode cX12_undo 64 = .ok (.bipush 11, 2) := by decide +kernel
theorem dX12_undo_66 : decode cX12_undo 66 = .ok (.aload_n 0, 1) := by decide +kernel
theorem dX12_undo_67 : decode cX12_undo 67 = .ok (.getfield 13, 3) := by decide +kernel
theorem dX12_undo_70 : decode cX12_undo 70 = .ok (.bipush 26, 2) := by decide +kernel
theorem dX12_undo_72 : decode cX12_undo 72 = .ok (.iaload, 1) := by decide +kernel
theorem dX12_undo_73 : decode cX12_undo 73 = .ok (.imul, 1) := by decide +kernel
theorem dX12_undo_74 : decode cX12_undo 74 = .ok (.iadd, 1) := by decide +kernel
theorem dX12_undo_75 : decode cX12_undo 75 = .ok (.iload_n 2, 1) := by decide +kernel
theorem dX12_undo_76 : decode cX12_undo 76 = .ok (.iadd, 1) := by decide +kernel
theorem dX12_undo_77 : decode cX12_undo 77 = .ok (.iaload, 1) := by decide +kernel
theorem dX12_undo_78 : decode cX12_undo 78 = .ok (.iastore, 1) := by decide +kernel
theorem dX12_undo_79 : decode cX12_undo 79 = .ok (.iinc 2 1, 3) := by decide +kernel
theorem dX12_undo_82 : decode cX12_undo 82 = .ok (.goto (-38), 3) := by decide +kernel
theorem dX12_undo_85 : decode cX12_undo 85 = .ok (.aload_n 0, 1) := by decide +kernel
theorem dX12_undo_86 : decode cX12_undo 86 = .ok (.getfield 13, 3) := by decide +kernel
theorem dX12_undo_89 : decode cX12_undo 89 = .ok (.bipush 26, 2) := by decide +kernel
theorem dX12_undo_91 : decode cX12_undo 91 = .ok (.iaload, 1) := by decide +kernel
theorem dX12_undo_92 : decode cX12_undo 92 = .ok (.ireturn, 1) := by decide +kernel
theorem dX12_whyNot_0 : decode cX12_whyNot 0 = .ok (.lload_n 1, 1) := by decide +kernel
theorem dX12_whyNot_1 : decode cX12_whyNot 1 = .ok (.invokestatic 278, 3) := by decide +kernel
theorem dX12_whyNot_4 : decode cX12_whyNot 4 = .ok (.ifCond .eq 5, 3) := by decide +kernel
theorem dX12_whyNot_7 : decode cX12_whyNot 7 = .ok (.iconst 0, 1) := by decide +kernel
theorem dX12_whyNot_8 : decode cX12_whyNot 8 = .ok (.ireturn, 1) := by decide +kernel
theorem dX12_whyNot_9 : decode cX12_whyNot 9 = .ok (.lload_n 1, 1) := by decide +kernel
theorem dX12_whyNot_10 : decode cX12_whyNot 10 = .ok (.ldc2_w 312, 3) := by decide +kernel
theorem dX12_whyNot_13 : decode cX12_whyNot 13 = .ok (.ldc2_w 314, 3) := by decide +kernel
theorem dX12_whyNot_16 : decode cX12_whyNot 16 = .ok (.invokestatic 155, 3) := by decide +kernel
theorem dX12_whyNot_19 : decode cX12_whyNot 19 = .ok (.ifCond .eq 13, 3) := by decide +kernel
theorem dX12_whyNot_22 : decode cX12_whyNot 22 = .ok (.aload_n 0, 1) := by decide +kernel
theorem dX12_whyNot_23 : decode cX12_whyNot 23 = .ok (.lload_n 1, 1) := by decide +kernel
theorem dX12_whyNot_24 : decode cX12_whyNot 24 = .ok (.ldc2_w 312, 3) := by decide +kernel
theorem dX12_whyNot_27 : decode cX12_whyNot 27 = .ok (.lsub, 1) := by decide +kernel
theorem dX12_whyNot_28 : decode cX12_whyNot 28 = .ok (.invokevirtual 306, 3) := by decide +kernel
theorem dX12_whyNot_31 : decode cX12_whyNot 31 = .ok (.ireturn, 1) := by decide +kernel
theorem dX12_whyNot_32 : decode cX12_whyNot 32 = .ok (.lload_n 1, 1) := by decide +kernel
theorem dX12_whyNot_33 : decode cX12_whyNot 33 = .ok (.ldc2_w 316, 3) := by decide +kernel
theorem dX12_whyNot_36 : decode cX12_whyNot 36 = .ok (.ldc2_w 318, 3) := by decide +kernel
theorem dX12_whyNot_39 : decode cX12_whyNot 39 = .ok (.invokestatic 155, 3) := by decide +kernel
theorem dX12_whyNot_42 : decode cX12_whyNot 42 = .ok (.ifCond .eq 25, 3) := by decide +kernel
theorem dX12_whyNot_45 : decode cX12_whyNot 45 = .ok (.aload_n 0, 1) := by decide +kernel
theorem dX12_whyNot_46 : decode cX12_whyNot 46 = .ok (.lload_n 1, 1) := by decide +kernel
theorem dX12_whyNot_47 : decode cX12_whyNot 47 = .ok (.ldc2_w 316, 3) := by decide +kernel
theorem dX12_whyNot_50 : decode cX12_whyNot 50 = .ok (.lsub, 1) := by decide +kernel
theorem dX12_whyNot_51 : decode cX12_whyNot 51 = .ok (.ldc2_w 312, 3) := by decide +kernel
theorem dX12_whyNot_54 : decode cX12_whyNot 54 = .ok (.ldiv, 1) := by decide +kernel
theorem dX12_whyNot_55 : decode cX12_whyNot 55 = .ok (.invokevirtual 271, 3) := by decide +kernel
theorem dX12_whyNot_58 : decode cX12_whyNot 58 = .ok (.ifCond .eq 7, 3) := by decide +kernel
theorem dX12_whyNot_61 : decode cX12_whyNot 61 = .ok (.iconst 0, 1) := by decide +kernel
theorem dX12_whyNot_62 : decode cX12_whyNot 62 = .ok (.goto 4, 3) := by decide +kernel
theorem dX12_whyNot_65 : decode cX12_whyNot 65 = .ok (.iconst 1, 1) := by decide +kernel
theorem dX12_whyNot_66 : decode cX12_whyNot 66 = .ok (.ireturn, 1) := by decide +kernel
theorem dX12_whyNot_67 : decode cX12_whyNot 67 = .ok (.lload_n 1, 1) := by decide +kernel
theorem dX12_whyNot_68 : decode cX12_whyNot 68 = .ok (.ldc2_w 320, 3) := by decide +kernel
theorem dX12_whyNot_71 : decode cX12_whyNot 71 = .ok (.ldc2_w 322, 3) := by decide +kernel
theorem dX12_whyNot_74 : decode cX12_whyNot 74 = .ok (.invokestatic 155, 3) := by decide +kernel
theorem dX12_whyNot_77 : decode cX12_whyNot 77 = .ok (.ifCond .eq 19, 3) := by decide +kernel
theorem dX12_whyNot_80 : decode cX12_whyNot 80 = .ok (.aload_n 0, 1) := by decide +kernel
theorem dX12_whyNot_81 : decode cX12_whyNot 81 = .ok (.lload_n 1, 1) := by decide +kernel
theorem dX12_whyNot_82 : decode cX12_whyNot 82 = .ok (.ldc2_w 320, 3) := by decide +kernel
theorem dX12_whyNot_85 : decode cX12_whyNot 85 = .ok (.lsub, 1) := by decide +kernel
theorem dX12_whyNot_86 : decode cX12_whyNot 86 = .ok (.invokevirtual 288, 3) := by decide +kernel
theorem dX12_whyNot_89 : decode cX12_whyNot 89 = .ok (.ifCond .eq 7, 3) := by decide +kernel
theorem dX12_whyNot_92 : decode cX12_whyNot 92 = .ok (.iconst 0, 1) := by decide +kernel
theorem dX12_whyNot_93 : decode cX12_whyNot 93 = .ok (.goto 4, 3) := by decide +kernel
theorem dX12_whyNot_96 : decode cX12_whyNot 96 = .ok (.iconst 1, 1) := by decide +kernel
theorem dX12_whyNot_97 : decode cX12_whyNot 97 = .ok (.ireturn, 1) := by decide +kernel
theorem dX12_does_0 : decode cX12_does 0 = .ok (.iload_n 1, 1) := by decide +kernel
theorem dX12_does_1 : decode cX12_does 1 = .ok (.iconst 2, 1) := by decide +kernel
theorem dX12_does_2 : decode cX12_does 2 = .ok (.if_icmp .ge 11, 3) := by decide +kernel
theorem dX12_does_5 : decode cX12_does 5 = .ok (.aload_n 0, 1) := by decide +kernel
theorem dX12_does_6 : decode cX12_does 6 = .ok (.iload_n 1, 1) := by decide +kernel
theorem dX12_does_7 : decode cX12_does 7 = .ok (.invokevirtual 300, 3) := by decide +kernel
theorem dX12_does_10 : decode cX12_does 10 = .ok (.goto 77, 3) := by decide +kernel
theorem dX12_does_13 : decode cX12_does 13 = .ok (.iload_n 1, 1) := by decide +kernel
theorem dX12_does_14 : decode cX12_does 14 = .ok (.bipush 20, 2) := by decide +kernel
theorem dX12_does_16 : decode cX12_does 16 = .ok (.if_icmp .ge 30, 3) := by decide +kernel
theorem dX12_does_19 : decode cX12_does 19 = .ok (.aload_n 0, 1) := by decide +kernel
theorem dX12_does_20 : decode cX12_does 20 = .ok (.getfield 13, 3) := by decide +kernel
theorem dX12_does_23 : decode cX12_does 23 = .ok (.bipush 15, 2) := by decide +kernel
theorem dX12_does_25 : decode cX12_does 25 = .ok (.iload_n 1, 1) := by decide +kernel
theorem dX12_does_26 : decode cX12_does 26 = .ok (.iadd, 1) := by decide +kernel
theorem dX12_does_27 : decode cX12_does 27 = .ok (.bipush 10, 2) := by decide +kernel
theorem dX12_does_29 : decode cX12_does 29 = .ok (.isub, 1) := by decide +kernel
theorem dX12_does_30 : decode cX12_does 30 = .ok (.aload_n 0, 1) := by decide +kernel
theorem dX12_does_31 : decode cX12_does 31 = .ok (.getfield 13, 3) := by decide +kernel
theorem dX12_does_34 : decode cX12_does 34 = .ok (.bipush 11, 2) := by decide +kernel
theorem dX12_does_36 : decode cX12_does 36 = .ok (.iload_n 1, 1) := by decide +kernel
theorem dX12_does_37 : decode cX12_does 37 = .ok (.iadd, 1) := by decide +kernel
theorem dX12_does_38 : decode cX12_does 38 = .ok (.bipush 10, 2) := by decide +kernel
theorem dX12_does_40 : decode cX12_does 40 = .ok (.isub, 1) := by decide +kernel
theorem dX12_does_41 : decode cX12_does 41 = .ok (.iaload, 1) := by decide +kernel
theorem dX12_does_42 : decode cX12_does 42 = .ok (.iastore, 1) := by decide +kernel
theorem dX12_does_43 : decode cX12_does 43 = .ok (.goto 44, 3) := by decide +kernel
theorem dX12_does_46 : decode cX12_does 46 = .ok (.iload_n 1, 1) := by decide +kernel
theorem dX12_does_47 : decode cX12_does 47 = .ok (.sipush 200, 3) := by decide +kernel
theorem dX12_does_50 : decode cX12_does 50 = .ok (.if_icmp .ge 25, 3) := by decide +kernel
theorem dX12_does_53 : decode cX12_does 53 = .ok (.aload_n 0, 1) := by decide +kernel
theorem dX12_does_54 : decode cX12_does 54 = .ok (.getfield 13, 3) := by decide +kernel
theorem dX12_does_57 : decode cX12_does 57 = .ok (.bipush 19, 2) := by decide +kernel
theorem dX12_does_59 : decode cX12_does 59 = .ok (.iload_n 1, 1) := by decide +kernel
theorem dX12_does_60 : decode cX12_does 60 = .ok (.bipush 100, 2) := by decide +kernel
theorem dX12_does_62 : decode cX12_does 62 = .ok (.isub, 1) := by decide +kernel
theorem dX12_does_63 : decode cX12_does 63 = .ok (.bipush 10, 2) := by decide +kernel
theorem dX12_does_65 : decode cX12_does 65 = .ok (.idiv, 1) := by decide +kernel
theorem dX12_does_66 : decode cX12_does 66 = .ok (.iadd, 1) := by decide +kernel
theorem dX12_does_67 : decode cX12_does 67 = .ok (.iload_n 1, 1) := by decide +kernel
theorem dX12_does_68 : decode cX12_does 68 = .ok (.bipush 10, 2) := by decide +kernel
theorem dX12_does_70 : decode cX12_does 70 = .ok (.irem, 1) := by decide +kernel
theorem dX12_does_71 : decode cX12_does 71 = .ok (.iastore, 1) := by decide +kernel
theorem dX12_does_72 : decode cX12_does 72 = .ok (.goto 15, 3) := by decide +kernel
theorem dX12_does_75 : decode cX12_does 75 = .ok (.aload_n 0, 1) := by decide +kernel
theorem dX12_does_76 : decode cX12_does 76 = .ok (.getfield 13, 3) := by decide +kernel
theorem dX12_does_79 : decode cX12_does 79 = .ok (.bipush 23, 2) := by decide +kernel
theorem dX12_does_81 : decode cX12_does 81 = .ok (.iload_n 1, 1) := by decide +kernel
theorem dX12_does_82 : decode cX12_does 82 = .ok (.sipush 1000, 3) := by decide +kernel
theorem dX12_does_85 : decode cX12_does 85 = .ok (.isub, 1) := by decide +kernel
theorem dX12_does_86 : decode cX12_does 86 = .ok (.iastore, 1) := by decide +kernel
theorem dX12_does_87 : decode cX12_does 87 = .ok (.return_, 1) := by decide +kernel
theorem dX12_tells_0 : decode cX12_tells 0 = .ok (.aload_n 0, 1) := by decide +kernel
theorem dX12_tells_1 : decode cX12_tells 1 = .ok (.iconst 0, 1) := by decide +kernel
theorem dX12_tells_2 : decode cX12_tells 2 = .ok (.putfield 324, 3) := by decide +kernel
theorem dX12_tells_5 : decode cX12_tells 5 = .ok (.iconst 0, 1) := by decide +kernel
theorem dX12_tells_6 : decode cX12_tells 6 = .ok (.istore_n 2, 1) := by decide +kernel
theorem dX12_tells_7 : decode cX12_tells 7 = .ok (.iload_n 2, 1) := by decide +kernel
theorem dX12_tells_8 : decode cX12_tells 8 = .ok (.aload_n 0, 1) := by decide +kernel
theorem dX12_tells_9 : decode cX12_tells 9 = .ok (.getfield 83, 3) := by decide +kernel
theorem dX12_tells_12 : decode cX12_tells 12 = .ok (.iload_n 1, 1) := by decide +kernel
theorem dX12_tells_13 : decode cX12_tells 13 = .ok (.iaload, 1) := by decide +kernel
theorem dX12_tells_14 : decode cX12_tells 14 = .ok (.if_icmp .ge 53, 3) := by decide +kernel
theorem dX12_tells_17 : decode cX12_tells 17 = .ok (.aload_n 0, 1) := by decide +kernel
theorem dX12_tells_18 : decode cX12_tells 18 = .ok (.aload_n 0, 1) := by decide +kernel
theorem dX12_tells_19 : decode cX12_tells 19 = .ok (.aload_n 0, 1) := by decide +kernel
theorem dX12_tells_20 : decode cX12_tells 20 = .ok (.getfield 86, 3) := by decide +kernel
theorem dX12_tells_23 : decode cX12_tells 23 = .ok (.bipush 40, 2) := by decide +kernel
theorem dX12_tells_25 : decode cX12_tells 25 = .ok (.iload_n 1, 1) := by decide +kernel
theorem dX12_tells_26 : decode cX12_tells 26 = .ok (.imul, 1) := by decide +kernel
theorem dX12_tells_27 : decode cX12_tells 27 = .ok (.iload_n 2, 1) := by decide +kernel
theorem dX12_tells_28 : decode cX12_tells 28 = .ok (.iadd, 1) := by decide +kernel
theorem dX12_tells_29 : decode cX12_tells 29 = .ok (.laload, 1) := by decide +kernel
theorem dX12_tells_30 : decode cX12_tells 30 = .ok (.invokevirtual 327, 3) := by decide +kernel
theorem dX12_tells_33 : decode cX12_tells 33 = .ok (.putfield 324, 3) := by decide +kernel
theorem dX12_tells_36 : decode cX12_tells 36 = .ok (.aload_n 0, 1) := by decide +kernel
theorem dX12_tells_37 : decode cX12_tells 37 = .ok (.getfield 324, 3) := by decide +kernel
theorem dX12_tells_40 : decode cX12_tells 40 = .ok (.ifCond .eq 5, 3) := by decide +kernel
theorem dX12_tells_43 : decode cX12_tells 43 = .ok (.iload_n 2, 1) := by decide +kernel
theorem dX12_tells_44 : decode cX12_tells 44 = .ok (.ireturn, 1) := by decide +kernel
theorem dX12_tells_45 : decode cX12_tells 45 = .ok (.aload_n 0, 1) := by decide +kernel
theorem dX12_tells_46 : decode cX12_tells 46 = .ok (.aload_n 0, 1) := by decide +kernel
theorem dX12_tells_47 : decode cX12_tells 47 = .ok (.getfield 86, 3) := by decide +kernel
theorem dX12_tells_50 : decode cX12_tells 50 = .ok (.bipush 40, 2) := by decide +kernel
theorem dX12_tells_52 : decode cX12_tells 52 = .ok (.iload_n 1, 1) := by decide +kernel
theorem dX12_tells_53 : decode cX12_tells 53 = .ok (.imul, 1) := by decide +kernel
theorem dX12_tells_54 : decode cX12_tells 54 = .ok (.iload_n 2, 1) := by decide +kernel
theorem dX12_tells_55 : decode cX12_tells 55 = .ok (.iadd, 1) := by decide +kernel
theorem dX12_tells_56 : decode cX12_tells 56 = .ok (.laload, 1) := by decide +kernel
theorem dX12_tells_57 : decode cX12_tells 57 = .ok (.l2i, 1) := by decide +kernel
theorem dX12_tells_58 : decode cX12_tells 58 = .ok (.invokevirtual 330, 3) := by decide +kernel
theorem dX12_tells_61 : decode cX12_tells 61 = .ok (.iinc 2 1, 3) := by decide +kernel
theorem dX12_tells_64 : decode cX12_tells 64 = .ok (.goto (-57), 3) := by decide +kernel
theorem dX12_tells_67 : decode cX12_tells 67 = .ok (.aload_n 0, 1) := by decide +kernel
theorem dX12_tells_68 : decode cX12_tells 68 = .ok (.getfield 83, 3) := by decide +kernel
theorem dX12_tells_71 : decode cX12_tells 71 = .ok (.iload_n 1, 1) := by decide +kernel
theorem dX12_tells_72 : decode cX12_tells 72 = .ok (.iaload, 1) := by decide +kernel
theorem dX12_tells_73 : decode cX12_tells 73 = .ok (.ireturn, 1) := by decide +kernel
theorem dX12_noTray_0 : decode cX12_noTray 0 = .ok (.iload_n 1, 1) := by decide +kernel
theorem dX12_noTray_1 : decode cX12_noTray 1 = .ok (.i2l, 1) := by decide +kernel
theorem dX12_noTray_2 : decode cX12_noTray 2 = .ok (.lconst 0, 1) := by decide +kernel
theorem dX12_noTray_3 : decode cX12_noTray 3 = .ok (.ldc2_w 333, 3) := by decide +kernel
theorem dX12_noTray_6 : decode cX12_noTray 6 = .ok (.invokestatic 155, 3) := by decide +kernel
theorem dX12_noTray_9 : decode cX12_noTray 9 = .ok (.ifCond .ne 8, 3) := by decide +kernel
theorem dX12_noTray_12 : decode cX12_noTray 12 = .ok (.bipush (-2), 2) := by decide +kernel
theorem dX12_noTray_14 : decode cX12_noTray 14 = .ok (.goto 19, 3) := by decide +kernel
theorem dX12_noTray_17 : decode cX12_noTray 17 = .ok (.aload_n 0, 1) := by decide +kernel
theorem dX12_noTray_18 : decode cX12_noTray 18 = .ok (.getfield 80, 3) := by decide +kernel
theorem dX12_noTray_21 : decode cX12_noTray 21 = .ok (.iload_n 1, 1) := by decide +kernel
theorem dX12_noTray_22 : decode cX12_noTray 22 = .ok (.iaload, 1) := by decide +kernel
theorem dX12_noTray_23 : decode cX12_noTray 23 = .ok (.iconst (-1), 1) := by decide +kernel
theorem dX12_noTray_24 : decode cX12_noTray 24 = .ok (.if_icmp .ne 8, 3) := by decide +kernel
theorem dX12_noTray_27 : decode cX12_noTray 27 = .ok (.bipush (-6), 2) := by decide +kernel
theorem dX12_noTray_29 : decode cX12_noTray 29 = .ok (.goto 4, 3) := by decide +kernel
theorem dX12_noTray_32 : decode cX12_noTray 32 = .ok (.iconst 0, 1) := by decide +kernel
theorem dX12_noTray_33 : decode cX12_noTray 33 = .ok (.ireturn, 1) := by decide +kernel
theorem dX12_judge_0 : decode cX12_judge 0 = .ok (.aload_n 0, 1) := by decide +kernel
theorem dX12_judge_1 : decode cX12_judge 1 = .ok (.iconst 0, 1) := by decide +kernel
theorem dX12_judge_2 : decode cX12_judge 2 = .ok (.putfield 1, 3) := by decide +kernel
theorem dX12_judge_5 : decode cX12_judge 5 = .ok (.iload_n 2, 1) := by decide +kernel
theorem dX12_judge_6 : decode cX12_judge 6 = .ok (.i2l, 1) := by decide +kernel
theorem dX12_judge_7 : decode cX12_judge 7 = .ok (.lconst 0, 1) := by decide +kernel
theorem dX12_judge_8 : decode cX12_judge 8 = .ok (.ldc2_w 333, 3) := by decide +kernel
theorem dX12_judge_11 : decode cX12_judge 11 = .ok (.invokestatic 155, 3) := by decide +kernel
theorem dX12_judge_14 : decode cX12_judge 14 = .ok (.ifCond .ne 6, 3) := by decide +kernel
theorem dX12_judge_17 : decode cX12_judge 17 = .ok (.bipush (-2), 2) := by decide +kernel
theorem dX12_judge_19 : decode cX12_judge 19 = .ok (.ireturn, 1) := by decide +kernel
theorem dX12_judge_20 : decode cX12_judge 20 = .ok (.aload_n 0, 1) := by decide +kernel
theorem dX12_judge_21 : decode cX12_judge 21 = .ok (.iload_n 1, 1) := by decide +kernel
theorem dX12_judge_22 : decode cX12_judge 22 = .ok (.invokevirtual 335, 3) := by decide +kernel
theorem dX12_judge_25 : decode cX12_judge 25 = .ok (.istore_n 3, 1) := by decide +kernel
theorem dX12_judge_26 : decode cX12_judge 26 = .ok (.iload_n 3, 1) := by decide +kernel
theorem dX12_judge_27 : decode cX12_judge 27 = .ok (.ifCond .eq 5, 3) := by decide +kernel
theorem dX12_judge_30 : decode cX12_judge 30 = .ok (.iload_n 3, 1) := by decide +kernel
theorem dX12_judge_31 : decode cX12_judge 31 = .ok (.ireturn, 1) := by decide +kernel
theorem dX12_judge_32 : decode cX12_judge 32 = .ok (.aload_n 0, 1) := by decide +kernel
theorem dX12_judge_33 : decode cX12_judge 33 = .ok (.invokevirtual 297, 3) := by decide +kernel
theorem dX12_judge_36 : decode cX12_judge 36 = .ok (.aload_n 0, 1) := by decide +kernel
theorem dX12_judge_37 : decode cX12_judge 37 = .ok (.iload_n 1, 1) := by decide +kernel
theorem dX12_judge_38 : decode cX12_judge 38 = .ok (.invokevirtual 338, 3) := by decide +kernel
theorem dX12_judge_41 : decode cX12_judge 41 = .ok (.istore 4, 2) := by decide +kernel
theorem dX12_judge_43 : decode cX12_judge 43 = .ok (.aload_n 0, 1) := by decide +kernel
theorem dX12_judge_44 : decode cX12_judge 44 = .ok (.invokevirtual 282, 3) := by decide +kernel
theorem dX12_judge_47 : decode cX12_judge 47 = .ok (.istore 5, 2) := by decide +kernel
theorem dX12_judge_49 : decode cX12_judge 49 = .ok (.aload_n 0, 1) := by decide +kernel
theorem dX12_judge_50 : decode cX12_judge 50 = .ok (.invokevirtual 341, 3) := by decide +kernel
theorem dX12_judge_53 : decode cX12_judge 53 = .ok (.iload_n 2, 1) := by decide +kernel
theorem dX12_judge_54 : decode cX12_judge 54 = .ok (.ifCond .ne 19, 3) := by decide +kernel
theorem dX12_judge_57 : decode cX12_judge 57 = .ok (.aload_n 0, 1) := by decide +kernel
theorem dX12_judge_58 : decode cX12_judge 58 = .ok (.getfield 324, 3) := by decide +kernel
theorem dX12_judge_61 : decode cX12_judge 61 = .ok (.ifCond .ne 7, 3) := by decide +kernel
theorem dX12_judge_64 : decode cX12_judge 64 = .ok (.iconst (-1), 1) := by decide +kernel
theorem dX12_judge_65 : decode cX12_judge 65 = .ok (.goto 40, 3) := by decide +kernel
theorem dX12_judge_68 : decode cX12_judge 68 = .ok (.iload 4, 2) := by decide +kernel
theorem dX12_judge_70 : decode cX12_judge 70 = .ok (.goto 35, 3) := by decide +kernel
theorem dX12_judge_73 : decode cX12_judge 73 = .ok (.iload_n 2, 1) := by decide +kernel
theorem dX12_judge_74 : decode cX12_judge 74 = .ok (.iconst 1, 1) := by decide +kernel
theorem dX12_judge_75 : decode cX12_judge 75 = .ok (.if_icmp .ne 10, 3) := by decide +kernel
theorem dX12_judge_78 : decode cX12_judge 78 = .ok (.aload_n 0, 1) := by decide +kernel
theorem dX12_judge_79 : decode cX12_judge 79 = .ok (.getfield 324, 3) := by decide +kernel
theorem dX12_judge_82 : decode cX12_judge 82 = .ok (.goto 23, 3) := by decide +kernel
theorem dX12_judge_85 : decode cX12_judge 85 = .ok (.iload_n 2, 1) := by decide +kernel
theorem dX12_judge_86 : decode cX12_judge 86 = .ok (.iconst 2, 1) := by decide +kernel
theorem dX12_judge_87 : decode cX12_judge 87 = .ok (.if_icmp .ne 12, 3) := by decide +kernel
theorem dX12_judge_90 : decode cX12_judge 90 = .ok (.aload_n 0, 1) := by decide +kernel
theorem dX12_judge_91 : decode cX12_judge 91 = .ok (.iload 5, 2) := by decide +kernel
theorem dX12_judge_93 : decode cX12_judge 93 = .ok (.invokevirtual 233, 3) := by decide +kernel
theorem dX12_judge_96 : decode cX12_judge 96 = .ok (.goto 9, 3) := by decide +kernel
theorem dX12_judge_99 : decode cX12_judge 99 = .ok (.aload_n 0, 1) := by decide +kernel
theorem dX12_judge_100 : decode cX12_judge 100 = .ok (.iload 5, 2) := by decide +kernel
theorem dX12_judge_102 : decode cX12_judge 102 = .ok (.invokevirtual 239, 3) := by decide +kernel
theorem dX12_judge_105 : decode cX12_judge 105 = .ok (.ireturn, 1) := by decide +kernel
theorem dX12_perform_0 : decode cX12_perform 0 = .ok (.aload_n 0, 1) := by decide +kernel
theorem dX12_perform_1 : decode cX12_perform 1 = .ok (.iconst 0, 1) := by decide +kernel
theorem dX12_perform_2 : decode cX12_perform 2 = .ok (.putfield 1, 3) := by decide +kernel
theorem dX12_perform_5 : decode cX12_perform 5 = .ok (.aload_n 0, 1) := by decide +kernel
theorem dX12_perform_6 : decode cX12_perform 6 = .ok (.iload_n 1, 1) := by decide +kernel
theorem dX12_perform_7 : decode cX12_perform 7 = .ok (.invokevirtual 335, 3) := by decide +kernel
theorem dX12_perform_10 : decode cX12_perform 10 = .ok (.istore_n 2, 1) := by decide +kernel
theorem dX12_perform_11 : decode cX12_perform 11 = .ok (.iload_n 2, 1) := by decide +kernel
theorem dX12_perform_12 : decode cX12_perform 12 = .ok (.ifCond .eq 5, 3) := by decide +kernel
theorem dX12_perform_15 : decode cX12_perform 15 = .ok (.iload_n 2, 1) := by decide +kernel
theorem dX12_perform_16 : decode cX12_perform 16 = .ok (.ireturn, 1) := by decide +kernel
theorem dX12_perform_17 : decode cX12_perform 17 = .ok (.aload_n 0, 1) := by decide +kernel
theorem dX12_perform_18 : decode cX12_perform 18 = .ok (.invokevirtual 297, 3) := by decide +kernel
theorem dX12_perform_21 : decode cX12_perform 21 = .ok (.aload_n 0, 1) := by decide +kernel
theorem dX12_perform_22 : decode cX12_perform 22 = .ok (.iload_n 1, 1) := by decide +kernel
theorem dX12_perform_23 : decode cX12_perform 23 = .ok (.invokevirtual 338, 3) := by decide +kernel
theorem dX12_perform_26 : decode cX12_perform 26 = .ok (.istore_n 3, 1) := by decide +kernel
theorem dX12_perform_27 : decode cX12_perform 27 = .ok (.iload_n 3, 1) := by decide +kernel
theorem dX12_perform_28 : decode cX12_perform 28 = .ok (.ifCond .le 7, 3) := by decide +kernel
theorem dX12_perform_31 : decode cX12_perform 31 = .ok (.aload_n 0, 1) := by decide +kernel
theorem dX12_perform_32 : decode cX12_perform 32 = .ok (.invokevirtual 303, 3) := by decide +kernel
theorem dX12_perform_35 : decode cX12_perform 35 = .ok (.iload_n 3, 1) := by decide +kernel
theorem dX12_perform_36 : decode cX12_perform 36 = .ok (.ireturn, 1) := by decide +kernel
theorem dX12_draw_0 : decode cX12_draw 0 = .ok (.aload_n 0, 1) := by decide +kernel
theorem dX12_draw_1 : decode cX12_draw 1 = .ok (.ldc_w 344, 3) := by decide +kernel
theorem dX12_draw_4 : decode cX12_draw 4 = .ok (.aload_n 0, 1) := by decide +kernel
theorem dX12_draw_5 : decode cX12_draw 5 = .ok (.getfield 345, 3) := by decide +kernel
theorem dX12_draw_8 : decode cX12_draw 8 = .ok (.imul, 1) := by decide +kernel
theorem dX12_draw_9 : decode cX12_draw 9 = .ok (.sipush 12345, 3) := by decide +kernel
theorem dX12_draw_12 : decode cX12_draw 12 = .ok (.iadd, 1) := by decide +kernel
theorem dX12_draw_13 : decode cX12_draw 13 = .ok (.putfield 345, 3) := by decide +kernel
theorem dX12_draw_16 : decode cX12_draw 16 = .ok (.aload_n 0, 1) := by decide +kernel
theorem dX12_draw_17 : decode cX12_draw 17 = .ok (.getfield 345, 3) := by decide +kernel
theorem dX12_draw_20 : decode cX12_draw 20 = .ok (.bipush 16, 2) := by decide +kernel
theorem dX12_draw_22 : decode cX12_draw 22 = .ok (.iushr, 1) := by decide +kernel
theorem dX12_draw_23 : decode cX12_draw 23 = .ok (.iload_n 1, 1) := by decide +kernel
theorem dX12_draw_24 : decode cX12_draw 24 = .ok (.irem, 1) := by decide +kernel
theorem dX12_draw_25 : decode cX12_draw 25 = .ok (.ireturn, 1) := by decide +kernel
theorem dX12_drawn_0 : decode cX12_drawn 0 = .ok (.aload_n 0, 1) := by decide +kernel
theorem dX12_drawn_1 : decode cX12_drawn 1 = .ok (.bipush 6, 2) := by decide +kernel
theorem dX12_drawn_3 : decode cX12_drawn 3 = .ok (.invokevirtual 348, 3) := by decide +kernel
theorem dX12_drawn_6 : decode cX12_drawn 6 = .ok (.istore_n 1, 1) := by decide +kernel
theorem dX12_drawn_7 : decode cX12_drawn 7 = .ok (.iload_n 1, 1) := by decide +kernel
theorem dX12_drawn_8 : decode cX12_drawn 8 = .ok (.iconst 3, 1) := by decide +kernel
theorem dX12_drawn_9 : decode cX12_drawn 9 = .ok (.if_icmp .ge 17, 3) := by decide +kernel
theorem dX12_drawn_12 : decode cX12_drawn 12 = .ok (.aload_n 0, 1) := by decide +kernel
theorem dX12_drawn_13 : decode cX12_drawn 13 = .ok (.iconst 3, 1) := by decide +kernel
theorem dX12_drawn_14 : decode cX12_drawn 14 = .ok (.invokevirtual 348, 3) := by decide +kernel
theorem dX12_drawn_17 : decode cX12_drawn 17 = .ok (.ifCond .ne 7, 3) := by decide +kernel
theorem dX12_drawn_20 : decode cX12_drawn 20 = .ok (.iconst 1, 1) := by decide +kernel
theorem dX12_drawn_21 : decode cX12_drawn 21 = .ok (.goto 4, 3) := by decide +kernel
theorem dX12_drawn_24 : decode cX12_drawn 24 = .ok (.iconst 0, 1) := by decide +kernel
theorem dX12_drawn_25 : decode cX12_drawn 25 = .ok (.ireturn, 1) := by decide +kernel
theorem dX12_drawn_26 : decode cX12_drawn 26 = .ok (.iload_n 1, 1) := by decide +kernel
theorem dX12_drawn_27 : decode cX12_drawn 27 = .ok (.iconst 5, 1) := by decide +kernel
theorem dX12_drawn_28 : decode cX12_drawn 28 = .ok (.if_icmp .ne 15, 3) := by decide +kernel
theorem dX12_drawn_31 : decode cX12_drawn 31 = .ok (.sipush 1000, 3) := by decide +kernel
theorem dX12_drawn_34 : decode cX12_drawn 34 = .ok (.aload_n 0, 1) := by decide +kernel
theorem dX12_drawn_35 : decode cX12_drawn 35 = .ok (.sipush 625, 3) := by decide +kernel
theorem dX12_drawn_38 : decode cX12_drawn 38 = .ok (.invokevirtual 348, 3) := by decide +kernel
theorem dX12_drawn_41 : decode cX12_drawn 41 = .ok (.iadd, 1) := by decide +kernel
theorem dX12_drawn_42 : decode cX12_drawn 42 = .ok (.ireturn, 1) := by decide +kernel
theorem dX12_drawn_43 : decode cX12_drawn 43 = .ok (.aload_n 0, 1) := by decide +kernel
theorem dX12_drawn_44 : decode cX12_drawn 44 = .ok (.iconst 4, 1) := by decide +kernel
theorem dX12_drawn_45 : decode cX12_drawn 45 = .ok (.invokevirtual 348, 3) := by decide +kernel
theorem dX12_drawn_48 : decode cX12_drawn 48 = .ok (.istore_n 2, 1) := by decide +kernel
theorem dX12_drawn_49 : decode cX12_drawn 49 = .ok (.iload_n 1, 1) := by decide +kernel
theorem dX12_drawn_50 : decode cX12_drawn 50 = .ok (.iconst 3, 1) := by decide +kernel
theorem dX12_drawn_51 : decode cX12_drawn 51 = .ok (.if_icmp .ne 10, 3) := by decide +kernel
theorem dX12_drawn_54 : decode cX12_drawn 54 = .ok (.bipush 10, 2) := by decide +kernel
theorem dX12_drawn_56 : decode cX12_drawn 56 = .ok (.iload_n 2, 1) := by decide +kernel
theorem dX12_drawn_57 : decode cX12_drawn 57 = .ok (.iadd, 1) := by decide +kernel
theorem dX12_drawn_58 : decode cX12_drawn 58 = .ok (.goto 17, 3) := by decide +kernel
theorem dX12_drawn_61 : decode cX12_drawn 61 = .ok (.bipush 100, 2) := by decide +kernel
theorem dX12_drawn_63 : decode cX12_drawn 63 = .ok (.bipush 10, 2) := by decide +kernel
theorem dX12_drawn_65 : decode cX12_drawn 65 = .ok (.iload_n 2, 1) := by decide +kernel
theorem dX12_drawn_66 : decode cX12_drawn 66 = .ok (.imul, 1) := by decide +kernel
theorem dX12_drawn_67 : decode cX12_drawn 67 = .ok (.iadd, 1) := by decide +kernel
theorem dX12_drawn_68 : decode cX12_drawn 68 = .ok (.aload_n 0, 1) := by decide +kernel
theorem dX12_drawn_69 : decode cX12_drawn 69 = .ok (.bipush 10, 2) := by decide +kernel
theorem dX12_drawn_71 : decode cX12_drawn 71 = .ok (.invokevirtual 348, 3) := by decide +kernel
theorem dX12_drawn_74 : decode cX12_drawn 74 = .ok (.iadd, 1) := by decide +kernel
theorem dX12_drawn_75 : decode cX12_drawn 75 = .ok (.ireturn, 1) := by decide +kernel
theorem dX12_age_0 : decode cX12_age 0 = .ok (.aload_n 0, 1) := by decide +kernel
theorem dX12_age_1 : decode cX12_age 1 = .ok (.iconst 0, 1) := by decide +kernel
theorem dX12_age_2 : decode cX12_age 2 = .ok (.putfield 1, 3) := by decide +kernel
theorem dX12_age_5 : decode cX12_age 5 = .ok (.iload_n 2, 1) := by decide +kernel
theorem dX12_age_6 : decode cX12_age 6 = .ok (.i2l, 1) := by decide +kernel
theorem dX12_age_7 : decode cX12_age 7 = .ok (.lconst 1, 1) := by decide +kernel
theorem dX12_age_8 : decode cX12_age 8 = .ok (.ldc2_w 351, 3) := by decide +kernel
theorem dX12_age_11 : decode cX12_age 11 = .ok (.invokestatic 155, 3) := by decide +kernel
theorem dX12_age_14 : decode cX12_age 14 = .ok (.ifCond .ne 6, 3) := by decide +kernel
theorem dX12_age_17 : decode cX12_age 17 = .ok (.bipush (-3), 2) := by decide +kernel
theorem dX12_age_19 : decode cX12_age 19 = .ok (.ireturn, 1) := by decide +kernel
theorem dX12_age_20 : decode cX12_age 20 = .ok (.aload_n 0, 1) := by decide +kernel
theorem dX12_age_21 : decode cX12_age 21 = .ok (.invokevirtual 297, 3) := by decide +kernel
theorem dX12_age_24 : decode cX12_age 24 = .ok (.aload_n 0, 1) := by decide +kernel
theorem dX12_age_25 : decode cX12_age 25 = .ok (.iload_n 1, 1) := by decide +kernel
theorem dX12_age_26 : decode cX12_age 26 = .ok (.putfield 345, 3) := by decide +kernel
theorem dX12_age_29 : decode cX12_age 29 = .ok (.iconst 0, 1) := by decide +kernel
theorem dX12_age_30 : decode cX12_age 30 = .ok (.istore_n 3, 1) := by decide +kernel
theorem dX12_age_31 : decode cX12_age 31 = .ok (.iconst 0, 1) := by decide +kernel
theorem dX12_age_32 : decode cX12_age 32 = .ok (.istore 4, 2) := by decide +kernel
theorem dX12_age_34 : decode cX12_age 34 = .ok (.iload 4, 2) := by decide +kernel
theorem dX12_age_36 : decode cX12_age 36 = .ok (.iload_n 2, 1) := by decide +kernel
theorem dX12_age_37 : decode cX12_age 37 = .ok (.if_icmp .ge 37, 3) := by decide +kernel
theorem dX12_age_40 : decode cX12_age 40 = .ok (.aload_n 0, 1) := by decide +kernel
theorem dX12_age_41 : decode cX12_age 41 = .ok (.invokevirtual 353, 3) := by decide +kernel
theorem dX12_age_44 : decode cX12_age 44 = .ok (.istore 5, 2) := by decide +kernel
theorem dX12_age_46 : decode cX12_age 46 = .ok (.aload_n 0, 1) := by decide +kernel
theorem dX12_age_47 : decode cX12_age 47 = .ok (.iload 5, 2) := by decide +kernel
theorem dX12_age_49 : decode cX12_age 49 = .ok (.i2l, 1) := by decide +kernel
theorem dX12_age_50 : decode cX12_age 50 = .ok (.invokevirtual 327, 3) := by decide +kernel
theorem dX12_age_53 : decode cX12_age 53 = .ok (.ifCond .eq 6, 3) := by decide +kernel
theorem dX12_age_56 : decode cX12_age 56 = .ok (.goto 12, 3) := by decide +kernel
theorem dX12_age_59 : decode cX12_age 59 = .ok (.aload_n 0, 1) := by decide +kernel
theorem dX12_age_60 : decode cX12_age 60 = .ok (.iload 5, 2) := by decide +kernel
theorem dX12_age_62 : decode cX12_age 62 = .ok (.invokevirtual 330, 3) := by decide +kernel
theorem dX12_age_65 : decode cX12_age 65 = .ok (.iinc 3 1, 3) := by decide +kernel
theorem dX12_age_68 : decode cX12_age 68 = .ok (.iinc 4 1, 3) := by decide +kernel
theorem dX12_age_71 : decode cX12_age 71 = .ok (.goto (-37), 3) := by decide +kernel
theorem dX12_age_74 : decode cX12_age 74 = .ok (.iload_n 3, 1) := by decide +kernel
theorem dX12_age_75 : decode cX12_age 75 = .ok (.ifCond .le 7, 3) := by decide +kernel
theorem dX12_age_78 : decode cX12_age 78 = .ok (.aload_n 0, 1) := by decide +kernel
theorem dX12_age_79 : decode cX12_age 79 = .ok (.invokevirtual 303, 3) := by decide +kernel
theorem dX12_age_82 : decode cX12_age 82 = .ok (.iload_n 3, 1) := by decide +kernel
theorem dX12_age_83 : decode cX12_age 83 = .ok (.ireturn, 1) := by decide +kernel
theorem dX12_laysLed_0 : decode cX12_laysLed 0 = .ok (.aload_n 0, 1) := by decide +kernel
theorem dX12_laysLed_1 : decode cX12_laysLed 1 = .ok (.invokevirtual 356, 3) := by decide +kernel
theorem dX12_laysLed_4 : decode cX12_laysLed 4 = .ok (.iconst 0, 1) := by decide +kernel
theorem dX12_laysLed_5 : decode cX12_laysLed 5 = .ok (.istore_n 2, 1) := by decide +kernel
theorem dX12_laysLed_6 : decode cX12_laysLed 6 = .ok (.iload_n 2, 1) := by decide +kernel
theorem dX12_laysLed_7 : decode cX12_laysLed 7 = .ok (.sipush 20000, 3) := by decide +kernel
theorem dX12_laysLed_10 : decode cX12_laysLed 10 = .ok (.if_icmp .ge 16, 3) := by decide +kernel
theorem dX12_laysLed_13 : decode cX12_laysLed 13 = .ok (.aload_n 0, 1) := by decide +kernel
theorem dX12_laysLed_14 : decode cX12_laysLed 14 = .ok (.getfield 51, 3) := by decide +kernel
theorem dX12_laysLed_17 : decode cX12_laysLed 17 = .ok (.iload_n 2, 1) := by decide +kernel
theorem dX12_laysLed_18 : decode cX12_laysLed 18 = .ok (.iconst (-1), 1) := by decide +kernel
theorem dX12_laysLed_19 : decode cX12_laysLed 19 = .ok (.iastore, 1) := by decide +kernel
theorem dX12_laysLed_20 : decode cX12_laysLed 20 = .ok (.iinc 2 1, 3) := by decide +kernel
theorem dX12_laysLed_23 : decode cX12_laysLed 23 = .ok (.goto (-17), 3) := by decide +kernel
theorem dX12_laysLed_26 : decode cX12_laysLed 26 = .ok (.aload_n 0, 1) := by decide +kernel
theorem dX12_laysLed_27 : decode cX12_laysLed 27 = .ok (.invokevirtual 282, 3) := by decide +kernel
theorem dX12_laysLed_30 : decode cX12_laysLed 30 = .ok (.istore_n 2, 1) := by decide +kernel
theorem dX12_laysLed_31 : decode cX12_laysLed 31 = .ok (.iconst 0, 1) := by decide +kernel
theorem dX12_laysLed_32 : decode cX12_laysLed 32 = .ok (.istore_n 3, 1) := by decide +kernel
theorem dX12_laysLed_33 : decode cX12_laysLed 33 = .ok (.aload_n 0, 1) := by decide +kernel
theorem dX12_laysLed_34 : decode cX12_laysLed 34 = .ok (.getfield 51, 3) := by decide +kernel
theorem dX12_laysLed_37 : decode cX12_laysLed 37 = .ok (.iload_n 2, 1) := by decide +kernel
theorem dX12_laysLed_38 : decode cX12_laysLed 38 = .ok (.iaload, 1) := by decide +kernel
theorem dX12_laysLed_39 : decode cX12_laysLed 39 = .ok (.iconst (-1), 1) := by decide +kernel
theorem dX12_laysLed_40 : decode cX12_laysLed 40 = .ok (.if_icmp .ne 31, 3) := by decide +kernel
theorem dX12_laysLed_43 : decode cX12_laysLed 43 = .ok (.aload_n 0, 1) := by decide +kernel
theorem dX12_laysLed_44 : decode cX12_laysLed 44 = .ok (.getfield 51, 3) := by decide +kernel
theorem dX12_laysLed_47 : decode cX12_laysLed 47 = .ok (.iload_n 2, 1) := by decide +kernel
theorem dX12_laysLed_48 : decode cX12_laysLed 48 = .ok (.iload_n 3, 1) := by decide +kernel
theorem dX12_laysLed_49 : decode cX12_laysLed 49 = .ok (.iastore, 1) := by decide +kernel
theorem dX12_laysLed_50 : decode cX12_laysLed 50 = .ok (.aload_n 0, 1) := by decide +kernel
theorem dX12_laysLed_51 : decode cX12_laysLed 51 = .ok (.getfield 48, 3) := by decide +kernel
theorem dX12_laysLed_54 : decode cX12_laysLed 54 = .ok (.iload_n 3, 1) := by decide +kernel
theorem dX12_laysLed_55 : decode cX12_laysLed 55 = .ok (.iload_n 2, 1) := by decide +kernel
theorem dX12_laysLed_56 : decode cX12_laysLed 56 = .ok (.iastore, 1) := by decide +kernel
theorem dX12_laysLed_57 : decode cX12_laysLed 57 = .ok (.iinc 3 1, 3) := by decide +kernel
theorem dX12_laysLed_60 : decode cX12_laysLed 60 = .ok (.aload_n 0, 1) := by decide +kernel
theorem dX12_laysLed_61 : decode cX12_laysLed 61 = .ok (.iload_n 2, 1) := by decide +kernel
theorem dX12_laysLed_62 : decode cX12_laysLed 62 = .ok (.iload_n 1, 1) := by decide +kernel
theorem dX12_laysLed_63 : decode cX12_laysLed 63 = .ok (.iconst 0, 1) := by decide +kernel
theorem dX12_laysLed_64 : decode cX12_laysLed 64 = .ok (.invokevirtual 359, 3) := by decide +kernel
theorem dX12_laysLed_67 : decode cX12_laysLed 67 = .ok (.istore_n 2, 1) := by decide +kernel
theorem dX12_laysLed_68 : decode cX12_laysLed 68 = .ok (.goto (-35), 3) := by decide +kernel
theorem dX12_laysLed_71 : decode cX12_laysLed 71 = .ok (.aload_n 0, 1) := by decide +kernel
theorem dX12_laysLed_72 : decode cX12_laysLed 72 = .ok (.aload_n 0, 1) := by decide +kernel
theorem dX12_laysLed_73 : decode cX12_laysLed 73 = .ok (.getfield 51, 3) := by decide +kernel
theorem dX12_laysLed_76 : decode cX12_laysLed 76 = .ok (.iload_n 2, 1) := by decide +kernel
theorem dX12_laysLed_77 : decode cX12_laysLed 77 = .ok (.iaload, 1) := by decide +kernel
theorem dX12_laysLed_78 : decode cX12_laysLed 78 = .ok (.putfield 362, 3) := by decide +kernel
theorem dX12_laysLed_81 : decode cX12_laysLed 81 = .ok (.aload_n 0, 1) := by decide +kernel
theorem dX12_laysLed_82 : decode cX12_laysLed 82 = .ok (.iload_n 3, 1) := by decide +kernel
theorem dX12_laysLed_83 : decode cX12_laysLed 83 = .ok (.aload_n 0, 1) := by decide +kernel
theorem dX12_laysLed_84 : decode cX12_laysLed 84 = .ok (.getfield 362, 3) := by decide +kernel
theorem dX12_laysLed_87 : decode cX12_laysLed 87 = .ok (.isub, 1) := by decide +kernel
theorem dX12_laysLed_88 : decode cX12_laysLed 88 = .ok (.putfield 365, 3) := by decide +kernel
theorem dX12_laysLed_91 : decode cX12_laysLed 91 = .ok (.return_, 1) := by decide +kernel
theorem dX12_ledAt_0 : decode cX12_ledAt 0 = .ok (.aload_n 0, 1) := by decide +kernel
theorem dX12_ledAt_1 : decode cX12_ledAt 1 = .ok (.getfield 48, 3) := by decide +kernel
theorem dX12_ledAt_4 : decode cX12_ledAt 4 = .ok (.iload_n 1, 1) := by decide +kernel
theorem dX12_ledAt_5 : decode cX12_ledAt 5 = .ok (.aload_n 0, 1) := by decide +kernel
theorem dX12_ledAt_6 : decode cX12_ledAt 6 = .ok (.getfield 362, 3) := by decide +kernel
theorem dX12_ledAt_9 : decode cX12_ledAt 9 = .ok (.if_icmp .ge 7, 3) := by decide +kernel
theorem dX12_ledAt_12 : decode cX12_ledAt 12 = .ok (.iload_n 1, 1) := by decide +kernel
theorem dX12_ledAt_13 : decode cX12_ledAt 13 = .ok (.goto 19, 3) := by decide +kernel
theorem dX12_ledAt_16 : decode cX12_ledAt 16 = .ok (.aload_n 0, 1) := by decide +kernel
theorem dX12_ledAt_17 : decode cX12_ledAt 17 = .ok (.getfield 362, 3) := by decide +kernel
theorem dX12_ledAt_20 : decode cX12_ledAt 20 = .ok (.iload_n 1, 1) := by decide +kernel
theorem dX12_ledAt_21 : decode cX12_ledAt 21 = .ok (.aload_n 0, 1) := by decide +kernel
theorem dX12_ledAt_22 : decode cX12_ledAt 22 = .ok (.getfield 362, 3) := by decide +kernel
theorem dX12_ledAt_25 : decode cX12_ledAt 25 = .ok (.isub, 1) := by decide +kernel
theorem dX12_ledAt_26 : decode cX12_ledAt 26 = .ok (.aload_n 0, 1) := by decide +kernel
theorem dX12_ledAt_27 : decode cX12_ledAt 27 = .ok (.getfield 365, 3) := by decide +kernel
theorem dX12_ledAt_30 : decode cX12_ledAt 30 = .ok (.irem, 1) := by decide +kernel
theorem dX12_ledAt_31 : decode cX12_ledAt 31 = .ok (.iadd, 1) := by decide +kernel
theorem dX12_ledAt_32 : decode cX12_ledAt 32 = .ok (.iaload, 1) := by decide +kernel
theorem dX12_ledAt_33 : decode cX12_ledAt 33 = .ok (.ireturn, 1) := by decide +kernel
theorem dX12_lies_0 : decode cX12_lies 0 = .ok (.aload_n 0, 1) := by decide +kernel
theorem dX12_lies_1 : decode cX12_lies 1 = .ok (.iconst 0, 1) := by decide +kernel
theorem dX12_lies_2 : decode cX12_lies 2 = .ok (.putfield 1, 3) := by decide +kernel
theorem dX12_lies_5 : decode cX12_lies 5 = .ok (.aload_n 0, 1) := by decide +kernel
theorem dX12_lies_6 : decode cX12_lies 6 = .ok (.iload_n 1, 1) := by decide +kernel
theorem dX12_lies_7 : decode cX12_lies 7 = .ok (.i2l, 1) := by decide +kernel
theorem dX12_lies_8 : decode cX12_lies 8 = .ok (.invokevirtual 271, 3) := by decide +kernel
theorem dX12_lies_11 : decode cX12_lies 11 = .ok (.ifCond .ne 6, 3) := by decide +kernel
theorem dX12_lies_14 : decode cX12_lies 14 = .ok (.bipush (-2), 2) := by decide +kernel
theorem dX12_lies_16 : decode cX12_lies 16 = .ok (.ireturn, 1) := by decide +kernel
theorem dX12_lies_17 : decode cX12_lies 17 = .ok (.iload_n 2, 1) := by decide +kernel
theorem dX12_lies_18 : decode cX12_lies 18 = .ok (.i2l, 1) := by decide +kernel
theorem dX12_lies_19 : decode cX12_lies 19 = .ok (.lconst 0, 1) := by decide +kernel
theorem dX12_lies_20 : decode cX12_lies 20 = .ok (.ldc2_w 368, 3) := by decide +kernel
theorem dX12_lies_23 : decode cX12_lies 23 = .ok (.invokestatic 155, 3) := by decide +kernel
theorem dX12_lies_26 : decode cX12_lies 26 = .ok (.ifCond .ne 6, 3) := by decide +kernel
theorem dX12_lies_29 : decode cX12_lies 29 = .ok (.bipush (-3), 2) := by decide +kernel
theorem dX12_lies_31 : decode cX12_lies 31 = .ok (.ireturn, 1) := by decide +kernel
theorem dX12_lies_32 : decode cX12_lies 32 = .ok (.aload_n 0, 1) := by decide +kernel
theorem dX12_lies_33 : decode cX12_lies 33 = .ok (.aload_n 0, 1) := by decide +kernel
theorem dX12_lies_34 : decode cX12_lies 34 = .ok (.getfield 13, 3) := by decide +kernel
theorem dX12_lies_37 : decode cX12_lies 37 = .ok (.bipush 23, 2) := by decide +kernel
theorem dX12_lies_39 : decode cX12_lies 39 = .ok (.iaload, 1) := by decide +kernel
theorem dX12_lies_40 : decode cX12_lies 40 = .ok (.invokevirtual 370, 3) := by decide +kernel
theorem dX12_lies_43 : decode cX12_lies 43 = .ok (.aload_n 0, 1) := by decide +kernel
theorem dX12_lies_44 : decode cX12_lies 44 = .ok (.iload_n 2, 1) := by decide +kernel
theorem dX12_lies_45 : decode cX12_lies 45 = .ok (.invokevirtual 373, 3) := by decide +kernel
theorem dX12_lies_48 : decode cX12_lies 48 = .ok (.iload_n 1, 1) := by decide +kernel
theorem dX12_lies_49 : decode cX12_lies 49 = .ok (.invokestatic 217, 3) := by decide +kernel
theorem dX12_lies_52 : decode cX12_lies 52 = .ok (.ireturn, 1) := by decide +kernel
theorem dX12_metAt_0 : decode cX12_metAt 0 = .ok (.iconst 0, 1) := by decide +kernel
theorem dX12_metAt_1 : decode cX12_metAt 1 = .ok (.istore_n 2, 1) := by decide +kernel
theorem dX12_metAt_2 : decode cX12_metAt 2 = .ok (.iload_n 2, 1) := by decide +kernel
theorem dX12_metAt_3 : decode cX12_metAt 3 = .ok (.aload_n 0, 1) := by decide +kernel
theorem dX12_metAt_4 : decode cX12_metAt 4 = .ok (.getfield 362, 3) := by decide +kernel
theorem dX12_metAt_7 : decode cX12_metAt 7 = .ok (.aload_n 0, 1) := by decide +kernel
theorem dX12_metAt_8 : decode cX12_metAt 8 = .ok (.getfield 365, 3) := by decide +kernel
theorem dX12_metAt_11 : decode cX12_metAt 11 = .ok (.iadd, 1) := by decide +kernel
theorem dX12_metAt_12 : decode cX12_metAt 12 = .ok (.if_icmp .ge 24, 3) := by decide +kernel
theorem dX12_metAt_15 : decode cX12_metAt 15 = .ok (.aload_n 0, 1) := by decide +kernel
theorem dX12_metAt_16 : decode cX12_metAt 16 = .ok (.getfield 48, 3) := by decide +kernel
theorem dX12_metAt_19 : decode cX12_metAt 19 = .ok (.iload_n 2, 1) := by decide +kernel
theorem dX12_metAt_20 : decode cX12_metAt 20 = .ok (.iaload, 1) := by decide +kernel
theorem dX12_metAt_21 : decode cX12_metAt 21 = .ok (.iload_n 1, 1) := by decide +kernel
theorem dX12_metAt_22 : decode cX12_metAt 22 = .ok (.invokestatic 217, 3) := by decide +kernel
theorem dX12_metAt_25 : decode cX12_metAt 25 = .ok (.ifCond .ne 5, 3) := by decide +kernel
theorem dX12_metAt_28 : decode cX12_metAt 28 = .ok (.iload_n 2, 1) := by decide +kernel
theorem dX12_metAt_29 : decode cX12_metAt 29 = .ok (.ireturn, 1) := by decide +kernel
theorem dX12_metAt_30 : decode cX12_metAt 30 = .ok (.iinc 2 1, 3) := by decide +kernel
theorem dX12_metAt_33 : decode cX12_metAt 33 = .ok (.goto (-31), 3) := by decide +kernel
theorem dX12_metAt_36 : decode cX12_metAt 36 = .ok (.iconst (-1), 1) := by decide +kernel
theorem dX12_metAt_37 : decode cX12_metAt 37 = .ok (.ireturn, 1) := by decide +kernel
theorem dX12_meets_0 : decode cX12_meets 0 = .ok (.aload_n 0, 1) := by decide +kernel
theorem dX12_meets_1 : decode cX12_meets 1 = .ok (.iconst 0, 1) := by decide +kernel
theorem dX12_meets_2 : decode cX12_meets 2 = .ok (.putfield 1, 3) := by decide +kernel
theorem dX12_meets_5 : decode cX12_meets 5 = .ok (.aload_n 0, 1) := by decide +kernel
theorem dX12_meets_6 : decode cX12_meets 6 = .ok (.iload_n 1, 1) := by decide +kernel
theorem dX12_meets_7 : decode cX12_meets 7 = .ok (.i2l, 1) := by decide +kernel
theorem dX12_meets_8 : decode cX12_meets 8 = .ok (.invokevirtual 271, 3) := by decide +kernel
theorem dX12_meets_11 : decode cX12_meets 11 = .ok (.ifCond .ne 6, 3) := by decide +kernel
theorem dX12_meets_14 : decode cX12_meets 14 = .ok (.bipush (-2), 2) := by decide +kernel
theorem dX12_meets_16 : decode cX12_meets 16 = .ok (.ireturn, 1) := by decide +kernel
theorem dX12_meets_17 : decode cX12_meets 17 = .ok (.aload_n 0, 1) := by decide +kernel
theorem dX12_meets_18 : decode cX12_meets 18 = .ok (.aload_n 0, 1) := by decide +kernel
theorem dX12_meets_19 : decode cX12_meets 19 = .ok (.getfield 13, 3) := by decide +kernel
theorem dX12_meets_22 : decode cX12_meets 22 = .ok (.bipush 23, 2) := by decide +kernel
theorem dX12_meets_24 : decode cX12_meets 24 = .ok (.iaload, 1) := by decide +kernel
theorem dX12_meets_25 : decode cX12_meets 25 = .ok (.invokevirtual 370, 3) := by decide +kernel
theorem dX12_meets_28 : decode cX12_meets 28 = .ok (.aload_n 0, 1) := by decide +kernel
theorem dX12_meets_29 : decode cX12_meets 29 = .ok (.iload_n 1, 1) := by decide +kernel
theorem dX12_meets_30 : decode cX12_meets 30 = .ok (.invokevirtual 376, 3) := by decide +kernel
theorem dX12_meets_33 : decode cX12_meets 33 = .ok (.ireturn, 1) := by decide +kernel
theorem dX12_order_0 : decode cX12_order 0 = .ok (.aload_n 0, 1) := by decide +kernel
theorem dX12_order_1 : decode cX12_order 1 = .ok (.iconst 0, 1) := by decide +kernel
theorem dX12_order_2 : decode cX12_order 2 = .ok (.putfield 1, 3) := by decide +kernel
theorem dX12_order_5 : decode cX12_order 5 = .ok (.iload_n 1, 1) := by decide +kernel
theorem dX12_order_6 : decode cX12_order 6 = .ok (.ifCond .ge 6, 3) := by decide +kernel
theorem dX12_order_9 : decode cX12_order 9 = .ok (.bipush (-3), 2) := by decide +kernel
theorem dX12_order_11 : decode cX12_order 11 = .ok (.ireturn, 1) := by decide +kernel
theorem dX12_order_12 : decode cX12_order 12 = .ok (.aload_n 0, 1) := by decide +kernel
theorem dX12_order_13 : decode cX12_order 13 = .ok (.aload_n 0, 1) := by decide +kernel
theorem dX12_order_14 : decode cX12_order 14 = .ok (.getfield 13, 3) := by decide +kernel
theorem dX12_order_17 : decode cX12_order 17 = .ok (.bipush 23, 2) := by decide +kernel
theorem dX12_order_19 : decode cX12_order 19 = .ok (.iaload, 1) := by decide +kernel
theorem dX12_order_20 : decode cX12_order 20 = .ok (.invokevirtual 370, 3) := by decide +kernel
theorem dX12_order_23 : decode cX12_order 23 = .ok (.iconst 0, 1) := by decide +kernel
theorem dX12_order_24 : decode cX12_order 24 = .ok (.istore_n 2, 1) := by decide +kernel
theorem dX12_order_25 : decode cX12_order 25 = .ok (.iconst 0, 1) := by decide +kernel
theorem dX12_order_26 : decode cX12_order 26 = .ok (.istore_n 3, 1) := by decide +kernel
theorem dX12_order_27 : decode cX12_order 27 = .ok (.iload_n 3, 1) := by decide +kernel
theorem dX12_order_28 : decode cX12_order 28 = .ok (.aload_n 0, 1) := by decide +kernel
theorem dX12_order_29 : decode cX12_order 29 = .ok (.getfield 362, 3) := by decide +kernel
theorem dX12_order_32 : decode cX12_order 32 = .ok (.aload_n 0, 1) := by decide +kernel
theorem dX12_order_33 : decode cX12_order 33 = .ok (.getfield 365, 3) := by decide +kernel
theorem dX12_order_36 : decode cX12_order 36 = .ok (.iadd, 1) := by decide +kernel
theorem dX12_order_37 : decode cX12_order 37 = .ok (.if_icmp .ge 53, 3) := by decide +kernel
theorem dX12_order_40 : decode cX12_order 40 = .ok (.iconst 0, 1) := by decide +kernel
theorem dX12_order_41 : decode cX12_order 41 = .ok (.istore 4, 2) := by decide +kernel
theorem dX12_order_43 : decode cX12_order 43 = .ok (.iload 4, 2) := by decide +kernel
theorem dX12_order_45 : decode cX12_order 45 = .ok (.aload_n 0, 1) := by decide +kernel
theorem dX12_order_46 : decode cX12_order 46 = .ok (.getfield 13, 3) := by decide +kernel
theorem dX12_order_49 : decode cX12_order 49 = .ok (.iconst 1, 1) := by decide +kernel
theorem dX12_order_50 : decode cX12_order 50 = .ok (.iaload, 1) := by decide +kernel
theorem dX12_order_51 : decode cX12_order 51 = .ok (.if_icmp .ge 33, 3) := by decide +kernel
theorem dX12_order_54 : decode cX12_order 54 = .ok (.aload_n 0, 1) := by decide +kernel
theorem dX12_order_55 : decode cX12_order 55 = .ok (.iload 4, 2) := by decide +kernel
theorem dX12_order_57 : decode cX12_order 57 = .ok (.invokevirtual 376, 3) := by decide +kernel
theorem dX12_order_60 : decode cX12_order 60 = .ok (.iload_n 3, 1) := by decide +kernel
theorem dX12_order_61 : decode cX12_order 61 = .ok (.if_icmp .eq 6, 3) := by decide +kernel
theorem dX12_order_64 : decode cX12_order 64 = .ok (.goto 14, 3) := by decide +kernel
theorem dX12_order_67 : decode cX12_order 67 = .ok (.iload_n 2, 1) := by decide +kernel
theorem dX12_order_68 : decode cX12_order 68 = .ok (.iload_n 1, 1) := by decide +kernel
theorem dX12_order_69 : decode cX12_order 69 = .ok (.if_icmp .ne 6, 3) := by decide +kernel
theorem dX12_order_72 : decode cX12_order 72 = .ok (.iload 4, 2) := by decide +kernel
theorem dX12_order_74 : decode cX12_order 74 = .ok (.ireturn, 1) := by decide +kernel
theorem dX12_order_75 : decode cX12_order 75 = .ok (.iinc 2 1, 3) := by decide +kernel
theorem dX12_order_78 : decode cX12_order 78 = .ok (.iinc 4 1, 3) := by decide +kernel
theorem dX12_order_81 : decode cX12_order 81 = .ok (.goto (-38), 3) := by decide +kernel
theorem dX12_order_84 : decode cX12_order 84 = .ok (.iinc 3 1, 3) := by decide +kernel
theorem dX12_order_87 : decode cX12_order 87 = .ok (.goto (-60), 3) := by decide +kernel
theorem dX12_order_90 : decode cX12_order 90 = .ok (.iconst (-1), 1) := by decide +kernel
theorem dX12_order_91 : decode cX12_order 91 = .ok (.ireturn, 1) := by decide +kernel
theorem dX12_falls_0 : decode cX12_falls 0 = .ok (.aload_n 0, 1) := by decide +kernel
theorem dX12_falls_1 : decode cX12_falls 1 = .ok (.iconst 0, 1) := by decide +kernel
theorem dX12_falls_2 : decode cX12_falls 2 = .ok (.putfield 1, 3) := by decide +kernel
theorem dX12_falls_5 : decode cX12_falls 5 = .ok (.aload_n 0, 1) := by decide +kernel
theorem dX12_falls_6 : decode cX12_falls 6 = .ok (.aload_n 0, 1) := by decide +kernel
theorem dX12_falls_7 : decode cX12_falls 7 = .ok (.getfield 13, 3) := by decide +kernel
theorem dX12_falls_10 : decode cX12_falls 10 = .ok (.bipush 23, 2) := by decide +kernel
theorem dX12_falls_12 : decode cX12_falls 12 = .ok (.iaload, 1) := by decide +kernel
theorem dX12_falls_13 : decode cX12_falls 13 = .ok (.invokevirtual 370, 3) := by decide +kernel
theorem dX12_falls_16 : decode cX12_falls 16 = .ok (.iconst 0, 1) := by decide +kernel
theorem dX12_falls_17 : decode cX12_falls 17 = .ok (.istore_n 1, 1) := by decide +kernel
theorem dX12_falls_18 : decode cX12_falls 18 = .ok (.iload_n 1, 1) := by decide +kernel
theorem dX12_falls_19 : decode cX12_falls 19 = .ok (.aload_n 0, 1) := by decide +kernel
theorem dX12_falls_20 : decode cX12_falls 20 = .ok (.getfield 362, 3) := by decide +kernel
theorem dX12_falls_23 : decode cX12_falls 23 = .ok (.aload_n 0, 1) := by decide +kernel
theorem dX12_falls_24 : decode cX12_falls 24 = .ok (.getfield 365, 3) := by decide +kernel
theorem dX12_falls_27 : decode cX12_falls 27 = .ok (.iadd, 1) := by decide +kernel
theorem dX12_falls_28 : decode cX12_falls 28 = .ok (.if_icmp .ge 23, 3) := by decide +kernel
theorem dX12_falls_31 : decode cX12_falls 31 = .ok (.aload_n 0, 1) := by decide +kernel
theorem dX12_falls_32 : decode cX12_falls 32 = .ok (.getfield 48, 3) := by decide +kernel
theorem dX12_falls_35 : decode cX12_falls 35 = .ok (.iload_n 1, 1) := by decide +kernel
theorem dX12_falls_36 : decode cX12_falls 36 = .ok (.iaload, 1) := by decide +kernel
theorem dX12_falls_37 : decode cX12_falls 37 = .ok (.invokestatic 245, 3) := by decide +kernel
theorem dX12_falls_40 : decode cX12_falls 40 = .ok (.ifCond .eq 5, 3) := by decide +kernel
theorem dX12_falls_43 : decode cX12_falls 43 = .ok (.iload_n 1, 1) := by decide +kernel
theorem dX12_falls_44 : decode cX12_falls 44 = .ok (.ireturn, 1) := by decide +kernel
theorem dX12_falls_45 : decode cX12_falls 45 = .ok (.iinc 1 1, 3) := by decide +kernel
theorem dX12_falls_48 : decode cX12_falls 48 = .ok (.goto (-30), 3) := by decide +kernel
theorem dX12_falls_51 : decode cX12_falls 51 = .ok (.iconst (-1), 1) := by decide +kernel
theorem dX12_falls_52 : decode cX12_falls 52 = .ok (.ireturn, 1) := by decide +kernel
theorem dX12_placeOf_0 : decode cX12_placeOf 0 = .ok (.iconst 1, 1) := by decide +kernel
theorem dX12_placeOf_1 : decode cX12_placeOf 1 = .ok (.istore_n 1, 1) := by decide +kernel
theorem dX12_placeOf_2 : decode cX12_placeOf 2 = .ok (.iconst 0, 1) := by decide +kernel
theorem dX12_placeOf_3 : decode cX12_placeOf 3 = .ok (.istore_n 2, 1) := by decide +kernel
theorem dX12_placeOf_4 : decode cX12_placeOf 4 = .ok (.iload_n 2, 1) := by decide +kernel
theorem dX12_placeOf_5 : decode cX12_placeOf 5 = .ok (.iload_n 0, 1) := by decide +kernel
theorem dX12_placeOf_6 : decode cX12_placeOf 6 = .ok (.if_icmp .ge 13, 3) := by decide +kernel
theorem dX12_placeOf_9 : decode cX12_placeOf 9 = .ok (.iload_n 1, 1) := by decide +kernel
theorem dX12_placeOf_10 : decode cX12_placeOf 10 = .ok (.iconst 5, 1) := by decide +kernel
theorem dX12_placeOf_11 : decode cX12_placeOf 11 = .ok (.imul, 1) := by decide +kernel
theorem dX12_placeOf_12 : decode cX12_placeOf 12 = .ok (.istore_n 1, 1) := by decide +kernel
theorem dX12_placeOf_13 : decode cX12_placeOf 13 = .ok (.iinc 2 1, 3) := by decide +kernel
theorem dX12_placeOf_16 : decode cX12_placeOf 16 = .ok (.goto (-12), 3) := by decide +kernel
theorem dX12_placeOf_19 : decode cX12_placeOf 19 = .ok (.iload_n 1, 1) := by decide +kernel
theorem dX12_placeOf_20 : decode cX12_placeOf 20 = .ok (.ireturn, 1) := by decide +kernel
theorem dX12_moved_0 : decode cX12_moved 0 = .ok (.aload_n 0, 1) := by decide +kernel
theorem dX12_moved_1 : decode cX12_moved 1 = .ok (.iconst 0, 1) := by decide +kernel
theorem dX12_moved_2 : decode cX12_moved 2 = .ok (.putfield 1, 3) := by decide +kernel
theorem dX12_moved_5 : decode cX12_moved 5 = .ok (.aload_n 0, 1) := by decide +kernel
theorem dX12_moved_6 : decode cX12_moved 6 = .ok (.iload_n 1, 1) := by decide +kernel
theorem dX12_moved_7 : decode cX12_moved 7 = .ok (.i2l, 1) := by decide +kernel
theorem dX12_moved_8 : decode cX12_moved 8 = .ok (.invokevirtual 271, 3) := by decide +kernel
theorem dX12_moved_11 : decode cX12_moved 11 = .ok (.ifCond .eq 26, 3) := by decide +kernel
theorem dX12_moved_14 : decode cX12_moved 14 = .ok (.aload_n 0, 1) := by decide +kernel
theorem dX12_moved_15 : decode cX12_moved 15 = .ok (.iload_n 2, 1) := by decide +kernel
theorem dX12_moved_16 : decode cX12_moved 16 = .ok (.i2l, 1) := by decide +kernel
theorem dX12_moved_17 : decode cX12_moved 17 = .ok (.invokevirtual 271, 3) := by decide +kernel
theorem dX12_moved_20 : decode cX12_moved 20 = .ok (.ifCond .eq 17, 3) := by decide +kernel
theorem dX12_moved_23 : decode cX12_moved 23 = .ok (.aload_n 0, 1) := by decide +kernel
theorem dX12_moved_24 : decode cX12_moved 24 = .ok (.iload_n 3, 1) := by decide +kernel
theorem dX12_moved_25 : decode cX12_moved 25 = .ok (.i2l, 1) := by decide +kernel
theorem dX12_moved_26 : decode cX12_moved 26 = .ok (.invokevirtual 271, 3) := by decide +kernel
theorem dX12_moved_29 : decode cX12_moved 29 = .ok (.ifCond .eq 8, 3) := by decide +kernel
theorem dX12_moved_32 : decode cX12_moved 32 = .ok (.iload_n 2, 1) := by decide +kernel
theorem dX12_moved_33 : decode cX12_moved 33 = .ok (.iload_n 3, 1) := by decide +kernel
theorem dX12_moved_34 : decode cX12_moved 34 = .ok (.if_icmp .ne 7, 3) := by decide +kernel
theorem dX12_moved_37 : decode cX12_moved 37 = .ok (.ldc_w 275, 3) := by decide +kernel
theorem dX12_moved_40 : decode cX12_moved 40 = .ok (.ireturn, 1) := by decide +kernel
theorem dX12_moved_41 : decode cX12_moved 41 = .ok (.aload_n 0, 1) := by decide +kernel
theorem dX12_moved_42 : decode cX12_moved 42 = .ok (.getfield 13, 3) := by decide +kernel
theorem dX12_moved_45 : decode cX12_moved 45 = .ok (.bipush 23, 2) := by decide +kernel
theorem dX12_moved_47 : decode cX12_moved 47 = .ok (.iaload, 1) := by decide +kernel
theorem dX12_moved_48 : decode cX12_moved 48 = .ok (.iload_n 2, 1) := by decide +kernel
theorem dX12_moved_49 : decode cX12_moved 49 = .ok (.invokestatic 248, 3) := by decide +kernel
theorem dX12_moved_52 : decode cX12_moved 52 = .ok (.ifCond .ne 7, 3) := by decide +kernel
theorem dX12_moved_55 : decode cX12_moved 55 = .ok (.ldc_w 379, 3) := by decide +kernel
theorem dX12_moved_58 : decode cX12_moved 58 = .ok (.ireturn, 1) := by decide +kernel
theorem dX12_moved_59 : decode cX12_moved 59 = .ok (.aload_n 0, 1) := by decide +kernel
theorem dX12_moved_60 : decode cX12_moved 60 = .ok (.aload_n 0, 1) := by decide +kernel
theorem dX12_moved_61 : decode cX12_moved 61 = .ok (.getfield 13, 3) := by decide +kernel
theorem dX12_moved_64 : decode cX12_moved 64 = .ok (.bipush 23, 2) := by decide +kernel
theorem dX12_moved_66 : decode cX12_moved 66 = .ok (.iaload, 1) := by decide +kernel
theorem dX12_moved_67 : decode cX12_moved 67 = .ok (.invokevirtual 370, 3) := by decide +kernel
theorem dX12_moved_70 : decode cX12_moved 70 = .ok (.aload_n 0, 1) := by decide +kernel
theorem dX12_moved_71 : decode cX12_moved 71 = .ok (.iload_n 1, 1) := by decide +kernel
theorem dX12_moved_72 : decode cX12_moved 72 = .ok (.invokevirtual 376, 3) := by decide +kernel
theorem dX12_moved_75 : decode cX12_moved 75 = .ok (.istore 4, 2) := by decide +kernel
theorem dX12_moved_77 : decode cX12_moved 77 = .ok (.aload_n 0, 1) := by decide +kernel
theorem dX12_moved_78 : decode cX12_moved 78 = .ok (.aload_n 0, 1) := by decide +kernel
theorem dX12_moved_79 : decode cX12_moved 79 = .ok (.getfield 13, 3) := by decide +kernel
theorem dX12_moved_82 : decode cX12_moved 82 = .ok (.bipush 23, 2) := by decide +kernel
theorem dX12_moved_84 : decode cX12_moved 84 = .ok (.iaload, 1) := by decide +kernel
theorem dX12_moved_85 : decode cX12_moved 85 = .ok (.iload_n 2, 1) := by decide +kernel
theorem dX12_moved_86 : decode cX12_moved 86 = .ok (.invokestatic 380, 3) := by decide +kernel
theorem dX12_moved_89 : decode cX12_moved 89 = .ok (.isub, 1) := by decide +kernel
theorem dX12_moved_90 : decode cX12_moved 90 = .ok (.iload_n 3, 1) := by decide +kernel
theorem dX12_moved_91 : decode cX12_moved 91 = .ok (.invokestatic 380, 3) := by decide +kernel
theorem dX12_moved_94 : decode cX12_moved 94 = .ok (.iadd, 1) := by decide +kernel
theorem dX12_moved_95 : decode cX12_moved 95 = .ok (.invokevirtual 370, 3) := by decide +kernel
theorem dX12_moved_98 : decode cX12_moved 98 = .ok (.aload_n 0, 1) := by decide +kernel
theorem dX12_moved_99 : decode cX12_moved 99 = .ok (.iload_n 1, 1) := by decide +kernel
theorem dX12_moved_100 : decode cX12_moved 100 = .ok (.invokevirtual 376, 3) := by decide +kernel
theorem dX12_moved_103 : decode cX12_moved 103 = .ok (.istore 5, 2) := by decide +kernel
theorem dX12_moved_105 : decode cX12_moved 105 = .ok (.iload 4, 2) := by decide +kernel
theorem dX12_moved_107 : decode cX12_moved 107 = .ok (.iconst (-1), 1) := by decide +kernel
theorem dX12_moved_108 : decode cX12_moved 108 = .ok (.if_icmp .eq 9, 3) := by decide +kernel
theorem dX12_moved_111 : decode cX12_moved 111 = .ok (.iload 5, 2) := by decide +kernel
theorem dX12_moved_113 : decode cX12_moved 113 = .ok (.iconst (-1), 1) := by decide +kernel
theorem dX12_moved_114 : decode cX12_moved 114 = .ok (.if_icmp .ne 9, 3) := by decide +kernel
theorem dX12_moved_117 : decode cX12_moved 117 = .ok (.ldc_w 383, 3) := by decide +kernel
theorem dX12_moved_120 : decode cX12_moved 120 = .ok (.goto 8, 3) := by decide +kernel
theorem dX12_moved_123 : decode cX12_moved 123 = .ok (.iload 5, 2) := by decide +kernel
theorem dX12_moved_125 : decode cX12_moved 125 = .ok (.iload 4, 2) := by decide +kernel
theorem dX12_moved_127 : decode cX12_moved 127 = .ok (.isub, 1) := by decide +kernel
theorem dX12_moved_128 : decode cX12_moved 128 = .ok (.ireturn, 1) := by decide +kernel
theorem dX12_adds_0 : decode cX12_adds 0 = .ok (.aload_n 0, 1) := by decide +kernel
theorem dX12_adds_1 : decode cX12_adds 1 = .ok (.getfield 64, 3) := by decide +kernel
theorem dX12_adds_4 : decode cX12_adds 4 = .ok (.iload_n 1, 1) := by decide +kernel
theorem dX12_adds_5 : decode cX12_adds 5 = .ok (.baload, 1) := by decide +kernel
theorem dX12_adds_6 : decode cX12_adds 6 = .ok (.ifCond .eq 4, 3) := by decide +kernel
theorem dX12_adds_9 : decode cX12_adds 9 = .ok (.return_, 1) := by decide +kernel
theorem dX12_adds_10 : decode cX12_adds 10 = .ok (.aload_n 0, 1) := by decide +kernel
theorem dX12_adds_11 : decode cX12_adds 11 = .ok (.getfield 64, 3) := by decide +kernel
theorem dX12_adds_14 : decode cX12_adds 14 = .ok (.iload_n 1, 1) := by decide +kernel
theorem dX12_adds_15 : decode cX12_adds 15 = .ok (.iconst 1, 1) := by decide +kernel
theorem dX12_adds_16 : decode cX12_adds 16 = .ok (.bastore, 1) := by decide +kernel
theorem dX12_adds_17 : decode cX12_adds 17 = .ok (.aload_n 0, 1) := by decide +kernel
theorem dX12_adds_18 : decode cX12_adds 18 = .ok (.getfield 54, 3) := by decide +kernel
theorem dX12_adds_21 : decode cX12_adds 21 = .ok (.aload_n 0, 1) := by decide +kernel
theorem dX12_adds_22 : decode cX12_adds 22 = .ok (.getfield 384, 3) := by decide +kernel
theorem dX12_adds_25 : decode cX12_adds 25 = .ok (.iload_n 1, 1) := by decide +kernel
theorem dX12_adds_26 : decode cX12_adds 26 = .ok (.iastore, 1) := by decide +kernel
theorem dX12_adds_27 : decode cX12_adds 27 = .ok (.aload_n 0, 1) := by decide +kernel
theorem dX12_adds_28 : decode cX12_adds 28 = .ok (.dup, 1) := by decide +kernel
theorem dX12_adds_29 : decode cX12_adds 29 = .ok (.getfield 384, 3) := by decide +kernel
theorem dX12_adds_32 : decode cX12_adds 32 = .ok (.iconst 1, 1) := by decide +kernel
theorem dX12_adds_33 : decode cX12_adds 33 = .ok (.iadd, 1) := by decide +kernel
theorem dX12_adds_34 : decode cX12_adds 34 = .ok (.putfield 384, 3) := by decide +kernel
theorem dX12_adds_37 : decode cX12_adds 37 = .ok (.return_, 1) := by decide +kernel
theorem dX12_laysStands_0 : decode cX12_laysStands 0 = .ok (.aload_n 0, 1) := by decide +kernel
theorem dX12_laysStands_1 : decode cX12_laysStands 1 = .ok (.invokevirtual 356, 3) := by decide +kernel
theorem dX12_laysStands_4 : decode cX12_laysStands 4 = .ok (.aload_n 0, 1) := by decide +kernel
theorem dX12_laysStands_5 : decode cX12_laysStands 5 = .ok (.invokevirtual 291, 3) := by decide +kernel
theorem dX12_laysStands_8 : decode cX12_laysStands 8 = .ok (.iconst 0, 1) := by decide +kernel
theorem dX12_laysStands_9 : decode cX12_laysStands 9 = .ok (.istore_n 2, 1) := by decide +kernel
theorem dX12_laysStands_10 : decode cX12_laysStands 10 = .ok (.iload_n 2, 1) := by decide +kernel
theorem dX12_laysStands_11 : decode cX12_laysStands 11 = .ok (.sipush 20000, 3) := by decide +kernel
theorem dX12_laysStands_14 : decode cX12_laysStands 14 = .ok (.if_icmp .ge 16, 3) := by decide +kernel
theorem dX12_laysStands_17 : decode cX12_laysStands 17 = .ok (.aload_n 0, 1) := by decide +kernel
theorem dX12_laysStands_18 : decode cX12_laysStands 18 = .ok (.getfield 64, 3) := by decide +kernel
theorem dX12_laysStands_21 : decode cX12_laysStands 21 = .ok (.iload_n 2, 1) := by decide +kernel
theorem dX12_laysStands_22 : decode cX12_laysStands 22 = .ok (.iconst 0, 1) := by decide +kernel
theorem dX12_laysStands_23 : decode cX12_laysStands 23 = .ok (.bastore, 1) := by decide +kernel
theorem dX12_laysStands_24 : decode cX12_laysStands 24 = .ok (.iinc 2 1, 3) := by decide +kernel
theorem dX12_laysStands_27 : decode cX12_laysStands 27 = .ok (.goto (-17), 3) := by decide +kernel
theorem dX12_laysStands_30 : decode cX12_laysStands 30 = .ok (.aload_n 0, 1) := by decide +kernel
theorem dX12_laysStands_31 : decode cX12_laysStands 31 = .ok (.iconst 0, 1) := by decide +kernel
theorem dX12_laysStands_32 : decode cX12_laysStands 32 = .ok (.putfield 384, 3) := by decide +kernel
theorem dX12_laysStands_35 : decode cX12_laysStands 35 = .ok (.aload_n 0, 1) := by decide +kernel
theorem dX12_laysStands_36 : decode cX12_laysStands 36 = .ok (.aload_n 0, 1) := by decide +kernel
theorem dX12_laysStands_37 : decode cX12_laysStands 37 = .ok (.invokevirtual 282, 3) := by decide +kernel
theorem dX12_laysStands_40 : decode cX12_laysStands 40 = .ok (.invokevirtual 387, 3) := by decide +kernel
theorem dX12_laysStands_43 : decode cX12_laysStands 43 = .ok (.iconst 0, 1) := by decide +kernel
theorem dX12_laysStands_44 : decode cX12_laysStands 44 = .ok (.istore_n 2, 1) := by decide +kernel
theorem dX12_laysStands_45 : decode cX12_laysStands 45 = .ok (.iload_n 2, 1) := by decide +kernel
theorem dX12_laysStands_46 : decode cX12_laysStands 46 = .ok (.aload_n 0, 1) := by decide +kernel
theorem dX12_laysStands_47 : decode cX12_laysStands 47 = .ok (.getfield 384, 3) := by decide +kernel
theorem dX12_laysStands_50 : decode cX12_laysStands 50 = .ok (.if_icmp .ge 103, 3) := by decide +kernel
theorem dX12_laysStands_53 : decode cX12_laysStands 53 = .ok (.iconst 0, 1) := by decide +kernel
theorem dX12_laysStands_54 : decode cX12_laysStands 54 = .ok (.istore_n 3, 1) := by decide +kernel
theorem dX12_laysStands_55 : decode cX12_laysStands 55 = .ok (.iload_n 3, 1) := by decide +kernel
theorem dX12_laysStands_56 : decode cX12_laysStands 56 = .ok (.aload_n 0, 1) := by decide +kernel
theorem dX12_laysStands_57 : decode cX12_laysStands 57 = .ok (.getfield 285, 3) := by decide +kernel
theorem dX12_laysStands_60 : decode cX12_laysStands 60 = .ok (.if_icmp .ge 87, 3) := by decide +kernel
theorem dX12_laysStands_63 : decode cX12_laysStands 63 = .ok (.aload_n 0, 1) := by decide +kernel
theorem dX12_laysStands_64 : decode cX12_laysStands 64 = .ok (.getfield 58, 3) := by decide +kernel
theorem dX12_laysStands_67 : decode cX12_laysStands 67 = .ok (.bipush 35, 2) := by decide +kernel
theorem dX12_laysStands_69 : decode cX12_laysStands 69 = .ok (.aload_n 0, 1) := by decide +kernel
theorem dX12_laysStands_70 : decode cX12_laysStands 70 = .ok (.getfield 54, 3) := by decide +kernel
theorem dX12_laysStands_73 : decode cX12_laysStands 73 = .ok (.iload_n 2, 1) := by decide +kernel
theorem dX12_laysStands_74 : decode cX12_laysStands 74 = .ok (.iaload, 1) := by decide +kernel
theorem dX12_laysStands_75 : decode cX12_laysStands 75 = .ok (.imul, 1) := by decide +kernel
theorem dX12_laysStands_76 : decode cX12_laysStands 76 = .ok (.iload_n 3, 1) := by decide +kernel
theorem dX12_laysStands_77 : decode cX12_laysStands 77 = .ok (.iadd, 1) := by decide +kernel
theorem dX12_laysStands_78 : decode cX12_laysStands 78 = .ok (.aload_n 0, 1) := by decide +kernel
theorem dX12_laysStands_79 : decode cX12_laysStands 79 = .ok (.aload_n 0, 1) := by decide +kernel
theorem dX12_laysStands_80 : decode cX12_laysStands 80 = .ok (.getfield 54, 3) := by decide +kernel
theorem dX12_laysStands_83 : decode cX12_laysStands 83 = .ok (.iload_n 2, 1) := by decide +kernel
theorem dX12_laysStands_84 : decode cX12_laysStands 84 = .ok (.iaload, 1) := by decide +kernel
theorem dX12_laysStands_85 : decode cX12_laysStands 85 = .ok (.aload_n 0, 1) := by decide +kernel
theorem dX12_laysStands_86 : decode cX12_laysStands 86 = .ok (.getfield 42, 3) := by decide +kernel
theorem dX12_laysStands_89 : decode cX12_laysStands 89 = .ok (.iload_n 3, 1) := by decide +kernel
theorem dX12_laysStands_90 : decode cX12_laysStands 90 = .ok (.iaload, 1) := by decide +kernel
theorem dX12_laysStands_91 : decode cX12_laysStands 91 = .ok (.iconst 0, 1) := by decide +kernel
theorem dX12_laysStands_92 : decode cX12_laysStands 92 = .ok (.invokevirtual 359, 3) := by decide +kernel
theorem dX12_laysStands_95 : decode cX12_laysStands 95 = .ok (.iastore, 1) := by decide +kernel
theorem dX12_laysStands_96 : decode cX12_laysStands 96 = .ok (.aload_n 0, 1) := by decide +kernel
theorem dX12_laysStands_97 : decode cX12_laysStands 97 = .ok (.aload_n 0, 1) := by decide +kernel
theorem dX12_laysStands_98 : decode cX12_laysStands 98 = .ok (.getfield 58, 3) := by decide +kernel
theorem dX12_laysStands_101 : decode cX12_laysStands 101 = .ok (.bipush 35, 2) := by decide +kernel
theorem dX12_laysStands_103 : decode cX12_laysStands 103 = .ok (.aload_n 0, 1) := by decide +kernel
theorem dX12_laysStands_104 : decode cX12_laysStands 104 = .ok (.getfield 54, 3) := by decide +kernel
theorem dX12_laysStands_107 : decode cX12_laysStands 107 = .ok (.iload_n 2, 1) := by decide +kernel
theorem dX12_laysStands_108 : decode cX12_laysStands 108 = .ok (.iaload, 1) := by decide +kernel
theorem dX12_laysStands_109 : decode cX12_laysStands 109 = .ok (.imul, 1) := by decide +kernel
theorem dX12_laysStands_110 : decode cX12_laysStands 110 = .ok (.iload_n 3, 1) := by decide +kernel
theorem dX12_laysStands_111 : decode cX12_laysStands 111 = .ok (.iadd, 1) := by decide +kernel
theorem dX12_laysStands_112 : decode cX12_laysStands 112 = .ok (.iaload, 1) := by decide +kernel
theorem dX12_laysStands_113 : decode cX12_laysStands 113 = .ok (.invokevirtual 387, 3) := by decide +kernel
theorem dX12_laysStands_116 : decode cX12_laysStands 116 = .ok (.iload_n 1, 1) := by decide +kernel
theorem dX12_laysStands_117 : decode cX12_laysStands 117 = .ok (.ifCond .eq 24, 3) := by decide +kernel
theorem dX12_laysStands_120 : decode cX12_laysStands 120 = .ok (.aload_n 0, 1) := by decide +kernel
theorem dX12_laysStands_121 : decode cX12_laysStands 121 = .ok (.aload_n 0, 1) := by decide +kernel
theorem dX12_laysStands_122 : decode cX12_laysStands 122 = .ok (.aload_n 0, 1) := by decide +kernel
theorem dX12_laysStands_123 : decode cX12_laysStands 123 = .ok (.getfield 54, 3) := by decide +kernel
theorem dX12_laysStands_126 : decode cX12_laysStands 126 = .ok (.iload_n 2, 1) := by decide +kernel
theorem dX12_laysStands_127 : decode cX12_laysStands 127 = .ok (.iaload, 1) := by decide +kernel
theorem dX12_laysStands_128 : decode cX12_laysStands 128 = .ok (.aload_n 0, 1) := by decide +kernel
theorem dX12_laysStands_129 : decode cX12_laysStands 129 = .ok (.getfield 42, 3) := by decide +kernel
theorem dX12_laysStands_132 : decode cX12_laysStands 132 = .ok (.iload_n 3, 1) := by decide +kernel
theorem dX12_laysStands_133 : decode cX12_laysStands 133 = .ok (.iaload, 1) := by decide +kernel
theorem dX12_laysStands_134 : decode cX12_laysStands 134 = .ok (.iconst 1, 1) := by decide +kernel
theorem dX12_laysStands_135 : decode cX12_laysStands 135 = .ok (.invokevirtual 359, 3) := by decide +kernel
theorem dX12_laysStands_138 : decode cX12_laysStands 138 = .ok (.invokevirtual 387, 3) := by decide +kernel
theorem dX12_laysStands_141 : decode cX12_laysStands 141 = .ok (.iinc 3 1, 3) := by decide +kernel
theorem dX12_laysStands_144 : decode cX12_laysStands 144 = .ok (.goto (-89), 3) := by decide +kernel
theorem dX12_laysStands_147 : decode cX12_laysStands 147 = .ok (.iinc 2 1, 3) := by decide +kernel
theorem dX12_laysStands_150 : decode cX12_laysStands 150 = .ok (.goto (-105), 3) := by decide +kernel
theorem dX12_laysStands_153 : decode cX12_laysStands 153 = .ok (.return_, 1) := by decide +kernel
theorem dX12_leastBy_0 : decode cX12_leastBy 0 = .ok (.ldc_w 390, 3) := by decide +kernel
theorem dX12_leastBy_3 : decode cX12_leastBy 3 = .ok (.istore_n 2, 1) := by decide +kernel
theorem dX12_leastBy_4 : decode cX12_leastBy 4 = .ok (.iconst 0, 1) := by decide +kernel
theorem dX12_leastBy_5 : decode cX12_leastBy 5 = .ok (.istore_n 3, 1) := by decide +kernel
theorem dX12_leastBy_6 : decode cX12_leastBy 6 = .ok (.iload_n 3, 1) := by decide +kernel
theorem dX12_leastBy_7 : decode cX12_leastBy 7 = .ok (.aload_n 0, 1) := by decide +kernel
theorem dX12_leastBy_8 : decode cX12_leastBy 8 = .ok (.getfield 285, 3) := by decide +kernel
theorem dX12_leastBy_11 : decode cX12_leastBy 11 = .ok (.if_icmp .ge 50, 3) := by decide +kernel
theorem dX12_leastBy_14 : decode cX12_leastBy 14 = .ok (.aload_n 0, 1) := by decide +kernel
theorem dX12_leastBy_15 : decode cX12_leastBy 15 = .ok (.getfield 61, 3) := by decide +kernel
theorem dX12_leastBy_18 : decode cX12_leastBy 18 = .ok (.aload_n 0, 1) := by decide +kernel
theorem dX12_leastBy_19 : decode cX12_leastBy 19 = .ok (.getfield 58, 3) := by decide +kernel
theorem dX12_leastBy_22 : decode cX12_leastBy 22 = .ok (.bipush 35, 2) := by decide +kernel
theorem dX12_leastBy_24 : decode cX12_leastBy 24 = .ok (.iload_n 1, 1) := by decide +kernel
theorem dX12_leastBy_25 : decode cX12_leastBy 25 = .ok (.imul, 1) := by decide +kernel
theorem dX12_leastBy_26 : decode cX12_leastBy 26 = .ok (.iload_n 3, 1) := by decide +kernel
theorem dX12_leastBy_27 : decode cX12_leastBy 27 = .ok (.iadd, 1) := by decide +kernel
theorem dX12_leastBy_28 : decode cX12_leastBy 28 = .ok (.iaload, 1) := by decide +kernel
theorem dX12_leastBy_29 : decode cX12_leastBy 29 = .ok (.iaload, 1) := by decide +kernel
theorem dX12_leastBy_30 : decode cX12_leastBy 30 = .ok (.iload_n 2, 1) := by decide +kernel
theorem dX12_leastBy_31 : decode cX12_leastBy 31 = .ok (.if_icmp .ge 22, 3) := by decide +kernel
theorem dX12_leastBy_34 : decode cX12_leastBy 34 = .ok (.aload_n 0, 1) := by decide +kernel
theorem dX12_leastBy_35 : decode cX12_leastBy 35 = .ok (.getfield 61, 3) := by decide +kernel
theorem dX12_leastBy_38 : decode cX12_leastBy 38 = .ok (.aload_n 0, 1) := by decide +kernel
theorem dX12_leastBy_39 : decode cX12_leastBy 39 = .ok (.getfield 58, 3) := by decide +kernel
theorem dX12_leastBy_42 : decode cX12_leastBy 42 = .ok (.bipush 35, 2) := by decide +kernel
theorem dX12_leastBy_44 : decode cX12_leastBy 44 = .ok (.iload_n 1, 1) := by decide +kernel
theorem dX12_leastBy_45 : decode cX12_leastBy 45 = .ok (.imul, 1) := by decide +kernel
theorem dX12_leastBy_46 : decode cX12_leastBy 46 = .ok (.iload_n 3, 1) := by decide +kernel
theorem dX12_leastBy_47 : decode cX12_leastBy 47 = .ok (.iadd, 1) := by decide +kernel
theorem dX12_leastBy_48 : decode cX12_leastBy 48 = .ok (.iaload, 1) := by decide +kernel
theorem dX12_leastBy_49 : decode cX12_leastBy 49 = .ok (.iaload, 1) := by decide +kernel
theorem dX12_leastBy_50 : decode cX12_leastBy 50 = .ok (.goto 4, 3) := by decide +kernel
theorem dX12_leastBy_53 : decode cX12_leastBy 53 = .ok (.iload_n 2, 1) := by decide +kernel
theorem dX12_leastBy_54 : decode cX12_leastBy 54 = .ok (.istore_n 2, 1) := by decide +kernel
theorem dX12_leastBy_55 : decode cX12_leastBy 55 = .ok (.iinc 3 1, 3) := by decide +kernel
theorem dX12_leastBy_58 : decode cX12_leastBy 58 = .ok (.goto (-52), 3) := by decide +kernel
theorem dX12_leastBy_61 : decode cX12_leastBy 61 = .ok (.iload_n 2, 1) := by decide +kernel
theorem dX12_leastBy_62 : decode cX12_leastBy 62 = .ok (.ldc_w 390, 3) := by decide +kernel
theorem dX12_leastBy_65 : decode cX12_leastBy 65 = .ok (.if_icmp .ne 9, 3) := by decide +kernel
theorem dX12_leastBy_68 : decode cX12_leastBy 68 = .ok (.ldc_w 390, 3) := by decide +kernel
theorem dX12_leastBy_71 : decode cX12_leastBy 71 = .ok (.goto 6, 3) := by decide +kernel
theorem dX12_leastBy_74 : decode cX12_leastBy 74 = .ok (.iload_n 2, 1) := by decide +kernel
theorem dX12_leastBy_75 : decode cX12_leastBy 75 = .ok (.iconst 1, 1) := by decide +kernel
theorem dX12_leastBy_76 : decode cX12_leastBy 76 = .ok (.iadd, 1) := by decide +kernel
theorem dX12_leastBy_77 : decode cX12_leastBy 77 = .ok (.ireturn, 1) := by decide +kernel
theorem dX12_laysFar_0 : decode cX12_laysFar 0 = .ok (.iconst 1, 1) := by decide +kernel
theorem dX12_laysFar_1 : decode cX12_laysFar 1 = .ok (.istore_n 1, 1) := by decide +kernel
theorem dX12_laysFar_2 : decode cX12_laysFar 2 = .ok (.iload_n 1, 1) := by decide +kernel
theorem dX12_laysFar_3 : decode cX12_laysFar 3 = .ok (.ifCond .eq 68, 3) := by decide +kernel
theorem dX12_laysFar_6 : decode cX12_laysFar 6 = .ok (.iconst 0, 1) := by decide +kernel
theorem dX12_laysFar_7 : decode cX12_laysFar 7 = .ok (.istore_n 1, 1) := by decide +kernel
theorem dX12_laysFar_8 : decode cX12_laysFar 8 = .ok (.aload_n 0, 1) := by decide +kernel
theorem dX12_laysFar_9 : decode cX12_laysFar 9 = .ok (.getfield 384, 3) := by decide +kernel
theorem dX12_laysFar_12 : decode cX12_laysFar 12 = .ok (.iconst 1, 1) := by decide +kernel
theorem dX12_laysFar_13 : decode cX12_laysFar 13 = .ok (.isub, 1) := by decide +kernel
theorem dX12_laysFar_14 : decode cX12_laysFar 14 = .ok (.istore_n 2, 1) := by decide +kernel
theorem dX12_laysFar_15 : decode cX12_laysFar 15 = .ok (.iload_n 2, 1) := by decide +kernel
theorem dX12_laysFar_16 : decode cX12_laysFar 16 = .ok (.ifCond .lt 52, 3) := by decide +kernel
theorem dX12_laysFar_19 : decode cX12_laysFar 19 = .ok (.aload_n 0, 1) := by decide +kernel
theorem dX12_laysFar_20 : decode cX12_laysFar 20 = .ok (.aload_n 0, 1) := by decide +kernel
theorem dX12_laysFar_21 : decode cX12_laysFar 21 = .ok (.getfield 54, 3) := by decide +kernel
theorem dX12_laysFar_24 : decode cX12_laysFar 24 = .ok (.iload_n 2, 1) := by decide +kernel
theorem dX12_laysFar_25 : decode cX12_laysFar 25 = .ok (.iaload, 1) := by decide +kernel
theorem dX12_laysFar_26 : decode cX12_laysFar 26 = .ok (.invokevirtual 391, 3) := by decide +kernel
theorem dX12_laysFar_29 : decode cX12_laysFar 29 = .ok (.istore_n 3, 1) := by decide +kernel
theorem dX12_laysFar_30 : decode cX12_laysFar 30 = .ok (.iload_n 3, 1) := by decide +kernel
theorem dX12_laysFar_31 : decode cX12_laysFar 31 = .ok (.aload_n 0, 1) := by decide +kernel
theorem dX12_laysFar_32 : decode cX12_laysFar 32 = .ok (.getfield 61, 3) := by decide +kernel
theorem dX12_laysFar_35 : decode cX12_laysFar 35 = .ok (.aload_n 0, 1) := by decide +kernel
theorem dX12_laysFar_36 : decode cX12_laysFar 36 = .ok (.getfield 54, 3) := by decide +kernel
theorem dX12_laysFar_39 : decode cX12_laysFar 39 = .ok (.iload_n 2, 1) := by decide +kernel
theorem dX12_laysFar_40 : decode cX12_laysFar 40 = .ok (.iaload, 1) := by decide +kernel
theorem dX12_laysFar_41 : decode cX12_laysFar 41 = .ok (.iaload, 1) := by decide +kernel
theorem dX12_laysFar_42 : decode cX12_laysFar 42 = .ok (.if_icmp .lt 6, 3) := by decide +kernel
theorem dX12_laysFar_45 : decode cX12_laysFar 45 = .ok (.goto 17, 3) := by decide +kernel
theorem dX12_laysFar_48 : decode cX12_laysFar 48 = .ok (.aload_n 0, 1) := by decide +kernel
theorem dX12_laysFar_49 : decode cX12_laysFar 49 = .ok (.getfield 61, 3) := by decide +kernel
theorem dX12_laysFar_52 : decode cX12_laysFar 52 = .ok (.aload_n 0, 1) := by decide +kernel
theorem dX12_laysFar_53 : decode cX12_laysFar 53 = .ok (.getfield 54, 3) := by decide +kernel
theorem dX12_laysFar_56 : decode cX12_laysFar 56 = .ok (.iload_n 2, 1) := by decide +kernel
theorem dX12_laysFar_57 : decode cX12_laysFar 57 = .ok (.iaload, 1) := by decide +kernel
theorem dX12_laysFar_58 : decode cX12_laysFar 58 = .ok (.iload_n 3, 1) := by decide +kernel
theorem dX12_laysFar_59 : decode cX12_laysFar 59 = .ok (.iastore, 1) := by decide +kernel
theorem dX12_laysFar_60 : decode cX12_laysFar 60 = .ok (.iconst 1, 1) := by decide +kernel
theorem dX12_laysFar_61 : decode cX12_laysFar 61 = .ok (.istore_n 1, 1) := by decide +kernel
theorem dX12_laysFar_62 : decode cX12_laysFar 62 = .ok (.iinc 2 (-1), 3) := by decide +kernel
theorem dX12_laysFar_65 : decode cX12_laysFar 65 = .ok (.goto (-50), 3) := by decide +kernel
theorem dX12_laysFar_68 : decode cX12_laysFar 68 = .ok (.goto (-66), 3) := by decide +kernel
theorem dX12_laysFar_71 : decode cX12_laysFar 71 = .ok (.aload_n 0, 1) := by decide +kernel
theorem dX12_laysFar_72 : decode cX12_laysFar 72 = .ok (.getfield 61, 3) := by decide +kernel
theorem dX12_laysFar_75 : decode cX12_laysFar 75 = .ok (.aload_n 0, 1) := by decide +kernel
theorem dX12_laysFar_76 : decode cX12_laysFar 76 = .ok (.invokevirtual 282, 3) := by decide +kernel
theorem dX12_laysFar_79 : decode cX12_laysFar 79 = .ok (.iaload, 1) := by decide +kernel
theorem dX12_laysFar_80 : decode cX12_laysFar 80 = .ok (.ireturn, 1) := by decide +kernel
theorem dX12_laysMeeting_0 : decode cX12_laysMeeting 0 = .ok (.aload_n 0, 1) := by decide +kernel
theorem dX12_laysMeeting_1 : decode cX12_laysMeeting 1 = .ok (.iconst 0, 1) := by decide +kernel
theorem dX12_laysMeeting_2 : decode cX12_laysMeeting 2 = .ok (.invokevirtual 394, 3) := by decide +kernel
theorem dX12_laysMeeting_5 : decode cX12_laysMeeting 5 = .ok (.iconst 0, 1) := by decide +kernel
theorem dX12_laysMeeting_6 : decode cX12_laysMeeting 6 = .ok (.istore_n 2, 1) := by decide +kernel
theorem dX12_laysMeeting_7 : decode cX12_laysMeeting 7 = .ok (.iload_n 2, 1) := by decide +kernel
theorem dX12_laysMeeting_8 : decode cX12_laysMeeting 8 = .ok (.aload_n 0, 1) := by decide +kernel
theorem dX12_laysMeeting_9 : decode cX12_laysMeeting 9 = .ok (.getfield 384, 3) := by decide +kernel
theorem dX12_laysMeeting_12 : decode cX12_laysMeeting 12 = .ok (.if_icmp .ge 43, 3) := by decide +kernel
theorem dX12_laysMeeting_15 : decode cX12_laysMeeting 15 = .ok (.aload_n 0, 1) := by decide +kernel
theorem dX12_laysMeeting_16 : decode cX12_laysMeeting 16 = .ok (.getfield 61, 3) := by decide +kernel
theorem dX12_laysMeeting_19 : decode cX12_laysMeeting 19 = .ok (.aload_n 0, 1) := by decide +kernel
theorem dX12_laysMeeting_20 : decode cX12_laysMeeting 20 = .ok (.getfield 54, 3) := by decide +kernel
theorem dX12_laysMeeting_23 : decode cX12_laysMeeting 23 = .ok (.iload_n 2, 1) := by decide +kernel
theorem dX12_laysMeeting_24 : decode cX12_laysMeeting 24 = .ok (.iaload, 1) := by decide +kernel
theorem dX12_laysMeeting_25 : decode cX12_laysMeeting 25 = .ok (.aload_n 0, 1) := by decide +kernel
theorem dX12_laysMeeting_26 : decode cX12_laysMeeting 26 = .ok (.aload_n 0, 1) := by decide +kernel
theorem dX12_laysMeeting_27 : decode cX12_laysMeeting 27 = .ok (.getfield 54, 3) := by decide +kernel
theorem dX12_laysMeeting_30 : decode cX12_laysMeeting 30 = .ok (.iload_n 2, 1) := by decide +kernel
theorem dX12_laysMeeting_31 : decode cX12_laysMeeting 31 = .ok (.iaload, 1) := by decide +kernel
theorem dX12_laysMeeting_32 : decode cX12_laysMeeting 32 = .ok (.invokevirtual 233, 3) := by decide +kernel
theorem dX12_laysMeeting_35 : decode cX12_laysMeeting 35 = .ok (.iload_n 1, 1) := by decide +kernel
theorem dX12_laysMeeting_36 : decode cX12_laysMeeting 36 = .ok (.iand, 1) := by decide +kernel
theorem dX12_laysMeeting_37 : decode cX12_laysMeeting 37 = .ok (.iload_n 1, 1) := by decide +kernel
theorem dX12_laysMeeting_38 : decode cX12_laysMeeting 38 = .ok (.if_icmp .ne 7, 3) := by decide +kernel
theorem dX12_laysMeeting_41 : decode cX12_laysMeeting 41 = .ok (.iconst 0, 1) := by decide +kernel
theorem dX12_laysMeeting_42 : decode cX12_laysMeeting 42 = .ok (.goto 6, 3) := by decide +kernel
theorem dX12_laysMeeting_45 : decode cX12_laysMeeting 45 = .ok (.ldc_w 390, 3) := by decide +kernel
theorem dX12_laysMeeting_48 : decode cX12_laysMeeting 48 = .ok (.iastore, 1) := by decide +kernel
theorem dX12_laysMeeting_49 : decode cX12_laysMeeting 49 = .ok (.iinc 2 1, 3) := by decide +kernel
theorem dX12_laysMeeting_52 : decode cX12_laysMeeting 52 = .ok (.goto (-45), 3) := by decide +kernel
theorem dX12_laysMeeting_55 : decode cX12_laysMeeting 55 = .ok (.aload_n 0, 1) := by decide +kernel
theorem dX12_laysMeeting_56 : decode cX12_laysMeeting 56 = .ok (.invokevirtual 398, 3) := by decide +kernel
theorem dX12_laysMeeting_59 : decode cX12_laysMeeting 59 = .ok (.ireturn, 1) := by decide +kernel
theorem dX12_toldFar_0 : decode cX12_toldFar 0 = .ok (.iload_n 0, 1) := by decide +kernel
theorem dX12_toldFar_1 : decode cX12_toldFar 1 = .ok (.ldc_w 390, 3) := by decide +kernel
theorem dX12_toldFar_4 : decode cX12_toldFar 4 = .ok (.if_icmp .ne 7, 3) := by decide +kernel
theorem dX12_toldFar_7 : decode cX12_toldFar 7 = .ok (.iconst (-1), 1) := by decide +kernel
theorem dX12_toldFar_8 : decode cX12_toldFar 8 = .ok (.goto 4, 3) := by decide +kernel
theorem dX12_toldFar_11 : decode cX12_toldFar 11 = .ok (.iload_n 0, 1) := by decide +kernel
theorem dX12_toldFar_12 : decode cX12_toldFar 12 = .ok (.ireturn, 1) := by decide +kernel
theorem dX12_soonest_0 : decode cX12_soonest 0 = .ok (.aload_n 0, 1) := by decide +kernel
theorem dX12_soonest_1 : decode cX12_soonest 1 = .ok (.iconst 0, 1) := by decide +kernel
theorem dX12_soonest_2 : decode cX12_soonest 2 = .ok (.putfield 1, 3) := by decide +kernel
theorem dX12_soonest_5 : decode cX12_soonest 5 = .ok (.aload_n 0, 1) := by decide +kernel
theorem dX12_soonest_6 : decode cX12_soonest 6 = .ok (.iload_n 1, 1) := by decide +kernel
theorem dX12_soonest_7 : decode cX12_soonest 7 = .ok (.invokevirtual 401, 3) := by decide +kernel
theorem dX12_soonest_10 : decode cX12_soonest 10 = .ok (.ifCond .eq 14, 3) := by decide +kernel
theorem dX12_soonest_13 : decode cX12_soonest 13 = .ok (.aload_n 0, 1) := by decide +kernel
theorem dX12_soonest_14 : decode cX12_soonest 14 = .ok (.iload_n 1, 1) := by decide +kernel
theorem dX12_soonest_15 : decode cX12_soonest 15 = .ok (.invokevirtual 404, 3) := by decide +kernel
theorem dX12_soonest_18 : decode cX12_soonest 18 = .ok (.invokestatic 407, 3) := by decide +kernel
theorem dX12_soonest_21 : decode cX12_soonest 21 = .ok (.goto 5, 3) := by decide +kernel
theorem dX12_soonest_24 : decode cX12_soonest 24 = .ok (.bipush (-3), 2) := by decide +kernel
theorem dX12_soonest_26 : decode cX12_soonest 26 = .ok (.ireturn, 1) := by decide +kernel
