/-! decode rows -/
theorem dX4_init_0 : decode cX4_init 0 = .ok (.aload_n 0, 1) := by decide +kernel
theorem dX4_init_1 : decode cX4_init 1 = .ok (.invokespecial 3, 3) := by decide +kernel
theorem dX4_init_4 : decode cX4_init 4 = .ok (.aload_n 0, 1) := by decide +kernel
theorem dX4_init_5 : decode cX4_init 5 = .ok (.new 9, 3) := by decide +kernel
theorem dX4_init_8 : decode cX4_init 8 = .ok (.dup, 1) := by decide +kernel
theorem dX4_init_9 : decode cX4_init 9 = .ok (.invokespecial 11, 3) := by decide +kernel
theorem dX4_init_12 : decode cX4_init 12 = .ok (.putfield 12, 3) := by decide +kernel
theorem dX4_init_15 : decode cX4_init 15 = .ok (.aload_n 0, 1) := by decide +kernel
theorem dX4_init_16 : decode cX4_init 16 = .ok (.sipush 900, 3) := by decide +kernel
theorem dX4_init_19 : decode cX4_init 19 = .ok (.newarray .int, 2) := by decide +kernel
theorem dX4_init_21 : decode cX4_init 21 = .ok (.putfield 18, 3) := by decide +kernel
theorem dX4_init_24 : decode cX4_init 24 = .ok (.aload_n 0, 1) := by decide +kernel
theorem dX4_init_25 : decode cX4_init 25 = .ok (.iconst 0, 1) := by decide +kernel
theorem dX4_init_26 : decode cX4_init 26 = .ok (.putfield 22, 3) := by decide +kernel
theorem dX4_init_29 : decode cX4_init 29 = .ok (.aload_n 0, 1) := by decide +kernel
theorem dX4_init_30 : decode cX4_init 30 = .ok (.iconst 0, 1) := by decide +kernel
theorem dX4_init_31 : decode cX4_init 31 = .ok (.putfield 26, 3) := by decide +kernel
theorem dX4_init_34 : decode cX4_init 34 = .ok (.aload_n 0, 1) := by decide +kernel
theorem dX4_init_35 : decode cX4_init 35 = .ok (.iconst 0, 1) := by decide +kernel
theorem dX4_init_36 : decode cX4_init 36 = .ok (.putfield 30, 3) := by decide +kernel
theorem dX4_init_39 : decode cX4_init 39 = .ok (.aload_n 0, 1) := by decide +kernel
theorem dX4_init_40 : decode cX4_init 40 = .ok (.iconst 0, 1) := by decide +kernel
theorem dX4_init_41 : decode cX4_init 41 = .ok (.putfield 33, 3) := by decide +kernel
theorem dX4_init_44 : decode cX4_init 44 = .ok (.aload_n 0, 1) := by decide +kernel
theorem dX4_init_45 : decode cX4_init 45 = .ok (.iconst (-1), 1) := by decide +kernel
theorem dX4_init_46 : decode cX4_init 46 = .ok (.putfield 36, 3) := by decide +kernel
theorem dX4_init_49 : decode cX4_init 49 = .ok (.aload_n 0, 1) := by decide +kernel
theorem dX4_init_50 : decode cX4_init 50 = .ok (.iconst 0, 1) := by decide +kernel
theorem dX4_init_51 : decode cX4_init 51 = .ok (.putfield 39, 3) := by decide +kernel
theorem dX4_init_54 : decode cX4_init 54 = .ok (.aload_n 0, 1) := by decide +kernel
theorem dX4_init_55 : decode cX4_init 55 = .ok (.iconst 0, 1) := by decide +kernel
theorem dX4_init_56 : decode cX4_init 56 = .ok (.putfield 42, 3) := by decide +kernel
theorem dX4_init_59 : decode cX4_init 59 = .ok (.aload_n 0, 1) := by decide +kernel
theorem dX4_init_60 : decode cX4_init 60 = .ok (.iconst 0, 1) := by decide +kernel
theorem dX4_init_61 : decode cX4_init 61 = .ok (.putfield 45, 3) := by decide +kernel
theorem dX4_init_64 : decode cX4_init 64 = .ok (.aload_n 0, 1) := by decide +kernel
theorem dX4_init_65 : decode cX4_init 65 = .ok (.iconst 0, 1) := by decide +kernel
theorem dX4_init_66 : decode cX4_init 66 = .ok (.putfield 48, 3) := by decide +kernel
theorem dX4_init_69 : decode cX4_init 69 = .ok (.aload_n 0, 1) := by decide +kernel
theorem dX4_init_70 : decode cX4_init 70 = .ok (.iconst 0, 1) := by decide +kernel
theorem dX4_init_71 : decode cX4_init 71 = .ok (.putfield 51, 3) := by decide +kernel
theorem dX4_init_74 : decode cX4_init 74 = .ok (.aload_n 0, 1) := by decide +kernel
theorem dX4_init_75 : decode cX4_init 75 = .ok (.iconst 0, 1) := by decide +kernel
theorem dX4_init_76 : decode cX4_init 76 = .ok (.putfield 54, 3) := by decide +kernel
theorem dX4_init_79 : decode cX4_init 79 = .ok (.aload_n 0, 1) := by decide +kernel
theorem dX4_init_80 : decode cX4_init 80 = .ok (.iconst (-1), 1) := by decide +kernel
theorem dX4_init_81 : decode cX4_init 81 = .ok (.putfield 57, 3) := by decide +kernel
theorem dX4_init_84 : decode cX4_init 84 = .ok (.aload_n 0, 1) := by decide +kernel
theorem dX4_init_85 : decode cX4_init 85 = .ok (.aconst_null, 1) := by decide +kernel
theorem dX4_init_86 : decode cX4_init 86 = .ok (.putfield 60, 3) := by decide +kernel
theorem dX4_init_89 : decode cX4_init 89 = .ok (.aload_n 0, 1) := by decide +kernel
theorem dX4_init_90 : decode cX4_init 90 = .ok (.aconst_null, 1) := by decide +kernel
theorem dX4_init_91 : decode cX4_init 91 = .ok (.putfield 64, 3) := by decide +kernel
theorem dX4_init_94 : decode cX4_init 94 = .ok (.return_, 1) := by decide +kernel
theorem dX4_read_0 : decode cX4_read 0 = .ok (.aload_n 0, 1) := by decide +kernel
theorem dX4_read_1 : decode cX4_read 1 = .ok (.invokevirtual 67, 3) := by decide +kernel
theorem dX4_read_4 : decode cX4_read 4 = .ok (.aload_n 0, 1) := by decide +kernel
theorem dX4_read_5 : decode cX4_read 5 = .ok (.getfield 12, 3) := by decide +kernel
theorem dX4_read_8 : decode cX4_read 8 = .ok (.aload_n 1, 1) := by decide +kernel
theorem dX4_read_9 : decode cX4_read 9 = .ok (.iload_n 2, 1) := by decide +kernel
theorem dX4_read_10 : decode cX4_read 10 = .ok (.invokevirtual 70, 3) := by decide +kernel
theorem dX4_read_13 : decode cX4_read 13 = .ok (.aload_n 0, 1) := by decide +kernel
theorem dX4_read_14 : decode cX4_read 14 = .ok (.invokevirtual 74, 3) := by decide +kernel
theorem dX4_read_17 : decode cX4_read 17 = .ok (.istore_n 3, 1) := by decide +kernel
theorem dX4_read_18 : decode cX4_read 18 = .ok (.iconst 0, 1) := by decide +kernel
theorem dX4_read_19 : decode cX4_read 19 = .ok (.istore 4, 2) := by decide +kernel
theorem dX4_read_21 : decode cX4_read 21 = .ok (.iload 4, 2) := by decide +kernel
theorem dX4_read_23 : decode cX4_read 23 = .ok (.iload_n 2, 1) := by decide +kernel
theorem dX4_read_24 : decode cX4_read 24 = .ok (.if_icmp .ge 28, 3) := by decide +kernel
theorem dX4_read_27 : decode cX4_read 27 = .ok (.iload_n 3, 1) := by decide +kernel
theorem dX4_read_28 : decode cX4_read 28 = .ok (.ifCond .eq 24, 3) := by decide +kernel
theorem dX4_read_31 : decode cX4_read 31 = .ok (.aload_n 0, 1) := by decide +kernel
theorem dX4_read_32 : decode cX4_read 32 = .ok (.getfield 12, 3) := by decide +kernel
theorem dX4_read_35 : decode cX4_read 35 = .ok (.getfield 78, 3) := by decide +kernel
theorem dX4_read_38 : decode cX4_read 38 = .ok (.ifCond .eq 14, 3) := by decide +kernel
theorem dX4_read_41 : decode cX4_read 41 = .ok (.aload_n 0, 1) := by decide +kernel
theorem dX4_read_42 : decode cX4_read 42 = .ok (.invokevirtual 81, 3) := by decide +kernel
theorem dX4_read_45 : decode cX4_read 45 = .ok (.istore_n 3, 1) := by decide +kernel
theorem dX4_read_46 : decode cX4_read 46 = .ok (.iinc 4 1, 3) := by decide +kernel
theorem dX4_read_49 : decode cX4_read 49 = .ok (.goto (-28), 3) := by decide +kernel
theorem dX4_read_52 : decode cX4_read 52 = .ok (.iload_n 3, 1) := by decide +kernel
theorem dX4_read_53 : decode cX4_read 53 = .ok (.ifCond .eq 14, 3) := by decide +kernel
theorem dX4_read_56 : decode cX4_read 56 = .ok (.new 84, 3) := by decide +kernel
theorem dX4_read_59 : decode cX4_read 59 = .ok (.dup, 1) := by decide +kernel
theorem dX4_read_60 : decode cX4_read 60 = .ok (.aload_n 0, 1) := by decide +kernel
theorem dX4_read_61 : decode cX4_read 61 = .ok (.invokespecial 86, 3) := by decide +kernel
theorem dX4_read_64 : decode cX4_read 64 = .ok (.goto 4, 3) := by decide +kernel
theorem dX4_read_67 : decode cX4_read 67 = .ok (.aconst_null, 1) := by decide +kernel
theorem dX4_read_68 : decode cX4_read 68 = .ok (.areturn, 1) := by decide +kernel
theorem dX4_forget_0 : decode cX4_forget 0 = .ok (.aload_n 0, 1) := by decide +kernel
theorem dX4_forget_1 : decode cX4_forget 1 = .ok (.iconst 0, 1) := by decide +kernel
theorem dX4_forget_2 : decode cX4_forget 2 = .ok (.putfield 33, 3) := by decide +kernel
theorem dX4_forget_5 : decode cX4_forget 5 = .ok (.aload_n 0, 1) := by decide +kernel
theorem dX4_forget_6 : decode cX4_forget 6 = .ok (.iconst (-1), 1) := by decide +kernel
theorem dX4_forget_7 : decode cX4_forget 7 = .ok (.putfield 36, 3) := by decide +kernel
theorem dX4_forget_10 : decode cX4_forget 10 = .ok (.aload_n 0, 1) := by decide +kernel
theorem dX4_forget_11 : decode cX4_forget 11 = .ok (.iconst 0, 1) := by decide +kernel
theorem dX4_forget_12 : decode cX4_forget 12 = .ok (.putfield 39, 3) := by decide +kernel
theorem dX4_forget_15 : decode cX4_forget 15 = .ok (.aload_n 0, 1) := by decide +kernel
theorem dX4_forget_16 : decode cX4_forget 16 = .ok (.iconst 0, 1) := by decide +kernel
theorem dX4_forget_17 : decode cX4_forget 17 = .ok (.putfield 42, 3) := by decide +kernel
theorem dX4_forget_20 : decode cX4_forget 20 = .ok (.aload_n 0, 1) := by decide +kernel
theorem dX4_forget_21 : decode cX4_forget 21 = .ok (.iconst 0, 1) := by decide +kernel
theorem dX4_forget_22 : decode cX4_forget 22 = .ok (.putfield 45, 3) := by decide +kernel
theorem dX4_forget_25 : decode cX4_forget 25 = .ok (.aload_n 0, 1) := by decide +kernel
theorem dX4_forget_26 : decode cX4_forget 26 = .ok (.iconst 0, 1) := by decide +kernel
theorem dX4_forget_27 : decode cX4_forget 27 = .ok (.putfield 48, 3) := by decide +kernel
theorem dX4_forget_30 : decode cX4_forget 30 = .ok (.aload_n 0, 1) := by decide +kernel
theorem dX4_forget_31 : decode cX4_forget 31 = .ok (.iconst 0, 1) := by decide +kernel
theorem dX4_forget_32 : decode cX4_forget 32 = .ok (.putfield 51, 3) := by decide +kernel
theorem dX4_forget_35 : decode cX4_forget 35 = .ok (.aload_n 0, 1) := by decide +kernel
theorem dX4_forget_36 : decode cX4_forget 36 = .ok (.iconst 0, 1) := by decide +kernel
theorem dX4_forget_37 : decode cX4_forget 37 = .ok (.putfield 54, 3) := by decide +kernel
theorem dX4_forget_40 : decode cX4_forget 40 = .ok (.aload_n 0, 1) := by decide +kernel
theorem dX4_forget_41 : decode cX4_forget 41 = .ok (.iconst (-1), 1) := by decide +kernel
theorem dX4_forget_42 : decode cX4_forget 42 = .ok (.putfield 57, 3) := by decide +kernel
theorem dX4_forget_45 : decode cX4_forget 45 = .ok (.aload_n 0, 1) := by decide +kernel
theorem dX4_forget_46 : decode cX4_forget 46 = .ok (.aconst_null, 1) := by decide +kernel
theorem dX4_forget_47 : decode cX4_forget 47 = .ok (.putfield 60, 3) := by decide +kernel
theorem dX4_forget_50 : decode cX4_forget 50 = .ok (.aload_n 0, 1) := by decide +kernel
theorem dX4_forget_51 : decode cX4_forget 51 = .ok (.aconst_null, 1) := by decide +kernel
theorem dX4_forget_52 : decode cX4_forget 52 = .ok (.putfield 64, 3) := by decide +kernel
theorem dX4_forget_55 : decode cX4_forget 55 = .ok (.return_, 1) := by decide +kernel
theorem dX4_refuse_0 : decode cX4_refuse 0 = .ok (.aload_n 0, 1) := by decide +kernel
theorem dX4_refuse_1 : decode cX4_refuse 1 = .ok (.aload_n 0, 1) := by decide +kernel
theorem dX4_refuse_2 : decode cX4_refuse 2 = .ok (.getfield 12, 3) := by decide +kernel
theorem dX4_refuse_5 : decode cX4_refuse 5 = .ok (.getfield 78, 3) := by decide +kernel
theorem dX4_refuse_8 : decode cX4_refuse 8 = .ok (.iconst 4, 1) := by decide +kernel
theorem dX4_refuse_9 : decode cX4_refuse 9 = .ok (.if_icmp .ne 7, 3) := by decide +kernel
theorem dX4_refuse_12 : decode cX4_refuse 12 = .ok (.iconst 1, 1) := by decide +kernel
theorem dX4_refuse_13 : decode cX4_refuse 13 = .ok (.goto 4, 3) := by decide +kernel
theorem dX4_refuse_16 : decode cX4_refuse 16 = .ok (.iload_n 1, 1) := by decide +kernel
theorem dX4_refuse_17 : decode cX4_refuse 17 = .ok (.putfield 33, 3) := by decide +kernel
theorem dX4_refuse_20 : decode cX4_refuse 20 = .ok (.aload_n 0, 1) := by decide +kernel
theorem dX4_refuse_21 : decode cX4_refuse 21 = .ok (.aload_n 0, 1) := by decide +kernel
theorem dX4_refuse_22 : decode cX4_refuse 22 = .ok (.getfield 12, 3) := by decide +kernel
theorem dX4_refuse_25 : decode cX4_refuse 25 = .ok (.getfield 89, 3) := by decide +kernel
theorem dX4_refuse_28 : decode cX4_refuse 28 = .ok (.putfield 36, 3) := by decide +kernel
theorem dX4_refuse_31 : decode cX4_refuse 31 = .ok (.iconst 0, 1) := by decide +kernel
theorem dX4_refuse_32 : decode cX4_refuse 32 = .ok (.ireturn, 1) := by decide +kernel
theorem dX4_take_0 : decode cX4_take 0 = .ok (.aload_n 0, 1) := by decide +kernel
theorem dX4_take_1 : decode cX4_take 1 = .ok (.getfield 12, 3) := by decide +kernel
theorem dX4_take_4 : decode cX4_take 4 = .ok (.aload_n 1, 1) := by decide +kernel
theorem dX4_take_5 : decode cX4_take 5 = .ok (.invokevirtual 92, 3) := by decide +kernel
theorem dX4_take_8 : decode cX4_take 8 = .ok (.ifCond .ne 9, 3) := by decide +kernel
theorem dX4_take_11 : decode cX4_take 11 = .ok (.aload_n 0, 1) := by decide +kernel
theorem dX4_take_12 : decode cX4_take 12 = .ok (.iconst 2, 1) := by decide +kernel
theorem dX4_take_13 : decode cX4_take 13 = .ok (.invokevirtual 96, 3) := by decide +kernel
theorem dX4_take_16 : decode cX4_take 16 = .ok (.ireturn, 1) := by decide +kernel
theorem dX4_take_17 : decode cX4_take 17 = .ok (.aload_n 0, 1) := by decide +kernel
theorem dX4_take_18 : decode cX4_take 18 = .ok (.getfield 12, 3) := by decide +kernel
theorem dX4_take_21 : decode cX4_take 21 = .ok (.invokevirtual 100, 3) := by decide +kernel
theorem dX4_take_24 : decode cX4_take 24 = .ok (.iconst 1, 1) := by decide +kernel
theorem dX4_take_25 : decode cX4_take 25 = .ok (.ireturn, 1) := by decide +kernel
theorem dX4_takeNumber_0 : decode cX4_takeNumber 0 = .ok (.aload_n 0, 1) := by decide +kernel
theorem dX4_takeNumber_1 : decode cX4_takeNumber 1 = .ok (.getfield 12, 3) := by decide +kernel
theorem dX4_takeNumber_4 : decode cX4_takeNumber 4 = .ok (.getfield 78, 3) := by decide +kernel
theorem dX4_takeNumber_7 : decode cX4_takeNumber 7 = .ok (.iconst 2, 1) := by decide +kernel
theorem dX4_takeNumber_8 : decode cX4_takeNumber 8 = .ok (.if_icmp .eq 9, 3) := by decide +kernel
theorem dX4_takeNumber_11 : decode cX4_takeNumber 11 = .ok (.aload_n 0, 1) := by decide +kernel
theorem dX4_takeNumber_12 : decode cX4_takeNumber 12 = .ok (.iconst 2, 1) := by decide +kernel
theorem dX4_takeNumber_13 : decode cX4_takeNumber 13 = .ok (.invokevirtual 96, 3) := by decide +kernel
theorem dX4_takeNumber_16 : decode cX4_takeNumber 16 = .ok (.ireturn, 1) := by decide +kernel
theorem dX4_takeNumber_17 : decode cX4_takeNumber 17 = .ok (.aload_n 0, 1) := by decide +kernel
theorem dX4_takeNumber_18 : decode cX4_takeNumber 18 = .ok (.getfield 12, 3) := by decide +kernel
theorem dX4_takeNumber_21 : decode cX4_takeNumber 21 = .ok (.getfield 103, 3) := by decide +kernel
theorem dX4_takeNumber_24 : decode cX4_takeNumber 24 = .ok (.iload_n 1, 1) := by decide +kernel
theorem dX4_takeNumber_25 : decode cX4_takeNumber 25 = .ok (.if_icmp .le 9, 3) := by decide +kernel
theorem dX4_takeNumber_28 : decode cX4_takeNumber 28 = .ok (.aload_n 0, 1) := by decide +kernel
theorem dX4_takeNumber_29 : decode cX4_takeNumber 29 = .ok (.iconst 3, 1) := by decide +kernel
theorem dX4_takeNumber_30 : decode cX4_takeNumber 30 = .ok (.invokevirtual 96, 3) := by decide +kernel
theorem dX4_takeNumber_33 : decode cX4_takeNumber 33 = .ok (.ireturn, 1) := by decide +kernel
theorem dX4_takeNumber_34 : decode cX4_takeNumber 34 = .ok (.aload_n 0, 1) := by decide +kernel
theorem dX4_takeNumber_35 : decode cX4_takeNumber 35 = .ok (.aload_n 0, 1) := by decide +kernel
theorem dX4_takeNumber_36 : decode cX4_takeNumber 36 = .ok (.getfield 12, 3) := by decide +kernel
theorem dX4_takeNumber_39 : decode cX4_takeNumber 39 = .ok (.getfield 103, 3) := by decide +kernel
theorem dX4_takeNumber_42 : decode cX4_takeNumber 42 = .ok (.putfield 30, 3) := by decide +kernel
theorem dX4_takeNumber_45 : decode cX4_takeNumber 45 = .ok (.aload_n 0, 1) := by decide +kernel
theorem dX4_takeNumber_46 : decode cX4_takeNumber 46 = .ok (.getfield 12, 3) := by decide +kernel
theorem dX4_takeNumber_49 : decode cX4_takeNumber 49 = .ok (.invokevirtual 100, 3) := by decide +kernel
theorem dX4_takeNumber_52 : decode cX4_takeNumber 52 = .ok (.iconst 1, 1) := by decide +kernel
theorem dX4_takeNumber_53 : decode cX4_takeNumber 53 = .ok (.ireturn, 1) := by decide +kernel
theorem dX4_tellCave_0 : decode cX4_tellCave 0 = .ok (.aload_n 0, 1) := by decide +kernel
theorem dX4_tellCave_1 : decode cX4_tellCave 1 = .ok (.ldc 106, 2) := by decide +kernel
theorem dX4_tellCave_3 : decode cX4_tellCave 3 = .ok (.invokevirtual 108, 3) := by decide +kernel
theorem dX4_tellCave_6 : decode cX4_tellCave 6 = .ok (.ifCond .eq 20, 3) := by decide +kernel
theorem dX4_tellCave_9 : decode cX4_tellCave 9 = .ok (.aload_n 0, 1) := by decide +kernel
theorem dX4_tellCave_10 : decode cX4_tellCave 10 = .ok (.ldc 111, 2) := by decide +kernel
theorem dX4_tellCave_12 : decode cX4_tellCave 12 = .ok (.invokevirtual 108, 3) := by decide +kernel
theorem dX4_tellCave_15 : decode cX4_tellCave 15 = .ok (.ifCond .eq 11, 3) := by decide +kernel
theorem dX4_tellCave_18 : decode cX4_tellCave 18 = .ok (.aload_n 0, 1) := by decide +kernel
theorem dX4_tellCave_19 : decode cX4_tellCave 19 = .ok (.iconst 4, 1) := by decide +kernel
theorem dX4_tellCave_20 : decode cX4_tellCave 20 = .ok (.invokevirtual 112, 3) := by decide +kernel
theorem dX4_tellCave_23 : decode cX4_tellCave 23 = .ok (.ifCond .ne 5, 3) := by decide +kernel
theorem dX4_tellCave_26 : decode cX4_tellCave 26 = .ok (.iconst 0, 1) := by decide +kernel
theorem dX4_tellCave_27 : decode cX4_tellCave 27 = .ok (.ireturn, 1) := by decide +kernel
theorem dX4_tellCave_28 : decode cX4_tellCave 28 = .ok (.aload_n 0, 1) := by decide +kernel
theorem dX4_tellCave_29 : decode cX4_tellCave 29 = .ok (.aload_n 0, 1) := by decide +kernel
theorem dX4_tellCave_30 : decode cX4_tellCave 30 = .ok (.getfield 30, 3) := by decide +kernel
theorem dX4_tellCave_33 : decode cX4_tellCave 33 = .ok (.putfield 45, 3) := by decide +kernel
theorem dX4_tellCave_36 : decode cX4_tellCave 36 = .ok (.aload_n 0, 1) := by decide +kernel
theorem dX4_tellCave_37 : decode cX4_tellCave 37 = .ok (.iconst 1, 1) := by decide +kernel
theorem dX4_tellCave_38 : decode cX4_tellCave 38 = .ok (.putfield 39, 3) := by decide +kernel
theorem dX4_tellCave_41 : decode cX4_tellCave 41 = .ok (.aload_n 0, 1) := by decide +kernel
theorem dX4_tellCave_42 : decode cX4_tellCave 42 = .ok (.ldc 115, 2) := by decide +kernel
theorem dX4_tellCave_44 : decode cX4_tellCave 44 = .ok (.invokevirtual 108, 3) := by decide +kernel
theorem dX4_tellCave_47 : decode cX4_tellCave 47 = .ok (.ireturn, 1) := by decide +kernel
theorem dX4_tellLine_0 : decode cX4_tellLine 0 = .ok (.aload_n 0, 1) := by decide +kernel
theorem dX4_tellLine_1 : decode cX4_tellLine 1 = .ok (.getfield 12, 3) := by decide +kernel
theorem dX4_tellLine_4 : decode cX4_tellLine 4 = .ok (.ldc 117, 2) := by decide +kernel
theorem dX4_tellLine_6 : decode cX4_tellLine 6 = .ok (.invokevirtual 92, 3) := by decide +kernel
theorem dX4_tellLine_9 : decode cX4_tellLine 9 = .ok (.ifCond .eq 11, 3) := by decide +kernel
theorem dX4_tellLine_12 : decode cX4_tellLine 12 = .ok (.aload_n 0, 1) := by decide +kernel
theorem dX4_tellLine_13 : decode cX4_tellLine 13 = .ok (.invokevirtual 119, 3) := by decide +kernel
theorem dX4_tellLine_16 : decode cX4_tellLine 16 = .ok (.istore_n 1, 1) := by decide +kernel
theorem dX4_tellLine_17 : decode cX4_tellLine 17 = .ok (.goto 89, 3) := by decide +kernel
theorem dX4_tellLine_20 : decode cX4_tellLine 20 = .ok (.aload_n 0, 1) := by decide +kernel
theorem dX4_tellLine_21 : decode cX4_tellLine 21 = .ok (.getfield 12, 3) := by decide +kernel
theorem dX4_tellLine_24 : decode cX4_tellLine 24 = .ok (.ldc 122, 2) := by decide +kernel
theorem dX4_tellLine_26 : decode cX4_tellLine 26 = .ok (.invokevirtual 92, 3) := by decide +kernel
theorem dX4_tellLine_29 : decode cX4_tellLine 29 = .ok (.ifCond .eq 11, 3) := by decide +kernel
theorem dX4_tellLine_32 : decode cX4_tellLine 32 = .ok (.aload_n 0, 1) := by decide +kernel
theorem dX4_tellLine_33 : decode cX4_tellLine 33 = .ok (.invokevirtual 124, 3) := by decide +kernel
theorem dX4_tellLine_36 : decode cX4_tellLine 36 = .ok (.istore_n 1, 1) := by decide +kernel
theorem dX4_tellLine_37 : decode cX4_tellLine 37 = .ok (.goto 69, 3) := by decide +kernel
theorem dX4_tellLine_40 : decode cX4_tellLine 40 = .ok (.aload_n 0, 1) := by decide +kernel
theorem dX4_tellLine_41 : decode cX4_tellLine 41 = .ok (.getfield 12, 3) := by decide +kernel
theorem dX4_tellLine_44 : decode cX4_tellLine 44 = .ok (.ldc 127, 2) := by decide +kernel
theorem dX4_tellLine_46 : decode cX4_tellLine 46 = .ok (.invokevirtual 92, 3) := by decide +kernel
theorem dX4_tellLine_49 : decode cX4_tellLine 49 = .ok (.ifCond .eq 11, 3) := by decide +kernel
theorem dX4_tellLine_52 : decode cX4_tellLine 52 = .ok (.aload_n 0, 1) := by decide +kernel
theorem dX4_tellLine_53 : decode cX4_tellLine 53 = .ok (.invokevirtual 129, 3) := by decide +kernel
theorem dX4_tellLine_56 : decode cX4_tellLine 56 = .ok (.istore_n 1, 1) := by decide +kernel
theorem dX4_tellLine_57 : decode cX4_tellLine 57 = .ok (.goto 49, 3) := by decide +kernel
theorem dX4_tellLine_60 : decode cX4_tellLine 60 = .ok (.aload_n 0, 1) := by decide +kernel
theorem dX4_tellLine_61 : decode cX4_tellLine 61 = .ok (.getfield 12, 3) := by decide +kernel
theorem dX4_tellLine_64 : decode cX4_tellLine 64 = .ok (.ldc 132, 2) := by decide +kernel
theorem dX4_tellLine_66 : decode cX4_tellLine 66 = .ok (.invokevirtual 92, 3) := by decide +kernel
theorem dX4_tellLine_69 : decode cX4_tellLine 69 = .ok (.ifCond .eq 11, 3) := by decide +kernel
theorem dX4_tellLine_72 : decode cX4_tellLine 72 = .ok (.aload_n 0, 1) := by decide +kernel
theorem dX4_tellLine_73 : decode cX4_tellLine 73 = .ok (.invokevirtual 133, 3) := by decide +kernel
theorem dX4_tellLine_76 : decode cX4_tellLine 76 = .ok (.istore_n 1, 1) := by decide +kernel
theorem dX4_tellLine_77 : decode cX4_tellLine 77 = .ok (.goto 29, 3) := by decide +kernel
theorem dX4_tellLine_80 : decode cX4_tellLine 80 = .ok (.aload_n 0, 1) := by decide +kernel
theorem dX4_tellLine_81 : decode cX4_tellLine 81 = .ok (.getfield 12, 3) := by decide +kernel
theorem dX4_tellLine_84 : decode cX4_tellLine 84 = .ok (.ldc 136, 2) := by decide +kernel
theorem dX4_tellLine_86 : decode cX4_tellLine 86 = .ok (.invokevirtual 92, 3) := by decide +kernel
theorem dX4_tellLine_89 : decode cX4_tellLine 89 = .ok (.ifCond .eq 11, 3) := by decide +kernel
theorem dX4_tellLine_92 : decode cX4_tellLine 92 = .ok (.aload_n 0, 1) := by decide +kernel
theorem dX4_tellLine_93 : decode cX4_tellLine 93 = .ok (.invokevirtual 137, 3) := by decide +kernel
theorem dX4_tellLine_96 : decode cX4_tellLine 96 = .ok (.istore_n 1, 1) := by decide +kernel
theorem dX4_tellLine_97 : decode cX4_tellLine 97 = .ok (.goto 9, 3) := by decide +kernel
theorem dX4_tellLine_100 : decode cX4_tellLine 100 = .ok (.aload_n 0, 1) := by decide +kernel
theorem dX4_tellLine_101 : decode cX4_tellLine 101 = .ok (.iconst 2, 1) := by decide +kernel
theorem dX4_tellLine_102 : decode cX4_tellLine 102 = .ok (.invokevirtual 96, 3) := by decide +kernel
theorem dX4_tellLine_105 : decode cX4_tellLine 105 = .ok (.istore_n 1, 1) := by decide +kernel
theorem dX4_tellLine_106 : decode cX4_tellLine 106 = .ok (.aload_n 0, 1) := by decide +kernel
theorem dX4_tellLine_107 : decode cX4_tellLine 107 = .ok (.dup, 1) := by decide +kernel
theorem dX4_tellLine_108 : decode cX4_tellLine 108 = .ok (.getfield 39, 3) := by decide +kernel
theorem dX4_tellLine_111 : decode cX4_tellLine 111 = .ok (.iconst 1, 1) := by decide +kernel
theorem dX4_tellLine_112 : decode cX4_tellLine 112 = .ok (.iadd, 1) := by decide +kernel
theorem dX4_tellLine_113 : decode cX4_tellLine 113 = .ok (.putfield 39, 3) := by decide +kernel
theorem dX4_tellLine_116 : decode cX4_tellLine 116 = .ok (.iload_n 1, 1) := by decide +kernel
theorem dX4_tellLine_117 : decode cX4_tellLine 117 = .ok (.ifCond .eq 16, 3) := by decide +kernel
theorem dX4_tellLine_120 : decode cX4_tellLine 120 = .ok (.aload_n 0, 1) := by decide +kernel
theorem dX4_tellLine_121 : decode cX4_tellLine 121 = .ok (.ldc 115, 2) := by decide +kernel
theorem dX4_tellLine_123 : decode cX4_tellLine 123 = .ok (.invokevirtual 108, 3) := by decide +kernel
theorem dX4_tellLine_126 : decode cX4_tellLine 126 = .ok (.ifCond .eq 7, 3) := by decide +kernel
theorem dX4_tellLine_129 : decode cX4_tellLine 129 = .ok (.iconst 1, 1) := by decide +kernel
theorem dX4_tellLine_130 : decode cX4_tellLine 130 = .ok (.goto 4, 3) := by decide +kernel
theorem dX4_tellLine_133 : decode cX4_tellLine 133 = .ok (.iconst 0, 1) := by decide +kernel
theorem dX4_tellLine_134 : decode cX4_tellLine 134 = .ok (.ireturn, 1) := by decide +kernel
theorem dX4_tellPair_0 : decode cX4_tellPair 0 = .ok (.aload_n 0, 1) := by decide +kernel
theorem dX4_tellPair_1 : decode cX4_tellPair 1 = .ok (.getfield 57, 3) := by decide +kernel
theorem dX4_tellPair_4 : decode cX4_tellPair 4 = .ok (.iconst (-1), 1) := by decide +kernel
theorem dX4_tellPair_5 : decode cX4_tellPair 5 = .ok (.if_icmp .eq 9, 3) := by decide +kernel
theorem dX4_tellPair_8 : decode cX4_tellPair 8 = .ok (.aload_n 0, 1) := by decide +kernel
theorem dX4_tellPair_9 : decode cX4_tellPair 9 = .ok (.iconst 2, 1) := by decide +kernel
theorem dX4_tellPair_10 : decode cX4_tellPair 10 = .ok (.invokevirtual 96, 3) := by decide +kernel
theorem dX4_tellPair_13 : decode cX4_tellPair 13 = .ok (.ireturn, 1) := by decide +kernel
theorem dX4_tellPair_14 : decode cX4_tellPair 14 = .ok (.aload_n 0, 1) := by decide +kernel
theorem dX4_tellPair_15 : decode cX4_tellPair 15 = .ok (.getfield 42, 3) := by decide +kernel
theorem dX4_tellPair_18 : decode cX4_tellPair 18 = .ok (.iconst 4, 1) := by decide +kernel
theorem dX4_tellPair_19 : decode cX4_tellPair 19 = .ok (.if_icmp .lt 9, 3) := by decide +kernel
theorem dX4_tellPair_22 : decode cX4_tellPair 22 = .ok (.aload_n 0, 1) := by decide +kernel
theorem dX4_tellPair_23 : decode cX4_tellPair 23 = .ok (.iconst 4, 1) := by decide +kernel
theorem dX4_tellPair_24 : decode cX4_tellPair 24 = .ok (.invokevirtual 96, 3) := by decide +kernel
theorem dX4_tellPair_27 : decode cX4_tellPair 27 = .ok (.ireturn, 1) := by decide +kernel
theorem dX4_tellPair_28 : decode cX4_tellPair 28 = .ok (.aload_n 0, 1) := by decide +kernel
theorem dX4_tellPair_29 : decode cX4_tellPair 29 = .ok (.getfield 12, 3) := by decide +kernel
theorem dX4_tellPair_32 : decode cX4_tellPair 32 = .ok (.invokevirtual 100, 3) := by decide +kernel
theorem dX4_tellPair_35 : decode cX4_tellPair 35 = .ok (.aload_n 0, 1) := by decide +kernel
theorem dX4_tellPair_36 : decode cX4_tellPair 36 = .ok (.ldc 140, 2) := by decide +kernel
theorem dX4_tellPair_38 : decode cX4_tellPair 38 = .ok (.invokevirtual 108, 3) := by decide +kernel
theorem dX4_tellPair_41 : decode cX4_tellPair 41 = .ok (.ifCond .eq 12, 3) := by decide +kernel
theorem dX4_tellPair_44 : decode cX4_tellPair 44 = .ok (.aload_n 0, 1) := by decide +kernel
theorem dX4_tellPair_45 : decode cX4_tellPair 45 = .ok (.bipush 9, 2) := by decide +kernel
theorem dX4_tellPair_47 : decode cX4_tellPair 47 = .ok (.invokevirtual 112, 3) := by decide +kernel
theorem dX4_tellPair_50 : decode cX4_tellPair 50 = .ok (.ifCond .ne 5, 3) := by decide +kernel
theorem dX4_tellPair_53 : decode cX4_tellPair 53 = .ok (.iconst 0, 1) := by decide +kernel
theorem dX4_tellPair_54 : decode cX4_tellPair 54 = .ok (.ireturn, 1) := by decide +kernel
theorem dX4_tellPair_55 : decode cX4_tellPair 55 = .ok (.aload_n 0, 1) := by decide +kernel
theorem dX4_tellPair_56 : decode cX4_tellPair 56 = .ok (.dup, 1) := by decide +kernel
theorem dX4_tellPair_57 : decode cX4_tellPair 57 = .ok (.getfield 51, 3) := by decide +kernel
theorem dX4_tellPair_60 : decode cX4_tellPair 60 = .ok (.aload_n 0, 1) := by decide +kernel
theorem dX4_tellPair_61 : decode cX4_tellPair 61 = .ok (.getfield 30, 3) := by decide +kernel
theorem dX4_tellPair_64 : decode cX4_tellPair 64 = .ok (.getstatic 142, 3) := by decide +kernel
theorem dX4_tellPair_67 : decode cX4_tellPair 67 = .ok (.aload_n 0, 1) := by decide +kernel
theorem dX4_tellPair_68 : decode cX4_tellPair 68 = .ok (.getfield 42, 3) := by decide +kernel
theorem dX4_tellPair_71 : decode cX4_tellPair 71 = .ok (.iaload, 1) := by decide +kernel
theorem dX4_tellPair_72 : decode cX4_tellPair 72 = .ok (.imul, 1) := by decide +kernel
theorem dX4_tellPair_73 : decode cX4_tellPair 73 = .ok (.iadd, 1) := by decide +kernel
theorem dX4_tellPair_74 : decode cX4_tellPair 74 = .ok (.putfield 51, 3) := by decide +kernel
theorem dX4_tellPair_77 : decode cX4_tellPair 77 = .ok (.iconst 1, 1) := by decide +kernel
theorem dX4_tellPair_78 : decode cX4_tellPair 78 = .ok (.istore_n 1, 1) := by decide +kernel
theorem dX4_tellPair_79 : decode cX4_tellPair 79 = .ok (.iconst 0, 1) := by decide +kernel
theorem dX4_tellPair_80 : decode cX4_tellPair 80 = .ok (.istore_n 2, 1) := by decide +kernel
theorem dX4_tellPair_81 : decode cX4_tellPair 81 = .ok (.iload_n 2, 1) := by decide +kernel
theorem dX4_tellPair_82 : decode cX4_tellPair 82 = .ok (.sipush 900, 3) := by decide +kernel
theorem dX4_tellPair_85 : decode cX4_tellPair 85 = .ok (.if_icmp .ge 44, 3) := by decide +kernel
theorem dX4_tellPair_88 : decode cX4_tellPair 88 = .ok (.aload_n 0, 1) := by decide +kernel
theorem dX4_tellPair_89 : decode cX4_tellPair 89 = .ok (.getfield 12, 3) := by decide +kernel
theorem dX4_tellPair_92 : decode cX4_tellPair 92 = .ok (.ldc 145, 2) := by decide +kernel
theorem dX4_tellPair_94 : decode cX4_tellPair 94 = .ok (.invokevirtual 92, 3) := by decide +kernel
theorem dX4_tellPair_97 : decode cX4_tellPair 97 = .ok (.ifCond .eq 32, 3) := by decide +kernel
theorem dX4_tellPair_100 : decode cX4_tellPair 100 = .ok (.aload_n 0, 1) := by decide +kernel
theorem dX4_tellPair_101 : decode cX4_tellPair 101 = .ok (.getfield 12, 3) := by decide +kernel
theorem dX4_tellPair_104 : decode cX4_tellPair 104 = .ok (.invokevirtual 100, 3) := by decide +kernel
theorem dX4_tellPair_107 : decode cX4_tellPair 107 = .ok (.aload_n 0, 1) := by decide +kernel
theorem dX4_tellPair_108 : decode cX4_tellPair 108 = .ok (.bipush 9, 2) := by decide +kernel
theorem dX4_tellPair_110 : decode cX4_tellPair 110 = .ok (.invokevirtual 112, 3) := by decide +kernel
theorem dX4_tellPair_113 : decode cX4_tellPair 113 = .ok (.ifCond .ne 5, 3) := by decide +kernel
theorem dX4_tellPair_116 : decode cX4_tellPair 116 = .ok (.iconst 0, 1) := by decide +kernel
theorem dX4_tellPair_117 : decode cX4_tellPair 117 = .ok (.ireturn, 1) := by decide +kernel
theorem dX4_tellPair_118 : decode cX4_tellPair 118 = .ok (.aload_n 0, 1) := by decide +kernel
theorem dX4_tellPair_119 : decode cX4_tellPair 119 = .ok (.getfield 30, 3) := by decide +kernel
theorem dX4_tellPair_122 : decode cX4_tellPair 122 = .ok (.istore_n 1, 1) := by decide +kernel
theorem dX4_tellPair_123 : decode cX4_tellPair 123 = .ok (.iinc 2 1, 3) := by decide +kernel
theorem dX4_tellPair_126 : decode cX4_tellPair 126 = .ok (.goto (-45), 3) := by decide +kernel
theorem dX4_tellPair_129 : decode cX4_tellPair 129 = .ok (.aload_n 0, 1) := by decide +kernel
theorem dX4_tellPair_130 : decode cX4_tellPair 130 = .ok (.dup, 1) := by decide +kernel
theorem dX4_tellPair_131 : decode cX4_tellPair 131 = .ok (.getfield 54, 3) := by decide +kernel
theorem dX4_tellPair_134 : decode cX4_tellPair 134 = .ok (.iload_n 1, 1) := by decide +kernel
theorem dX4_tellPair_135 : decode cX4_tellPair 135 = .ok (.getstatic 142, 3) := by decide +kernel
theorem dX4_tellPair_138 : decode cX4_tellPair 138 = .ok (.aload_n 0, 1) := by decide +kernel
theorem dX4_tellPair_139 : decode cX4_tellPair 139 = .ok (.getfield 42, 3) := by decide +kernel
theorem dX4_tellPair_142 : decode cX4_tellPair 142 = .ok (.iaload, 1) := by decide +kernel
theorem dX4_tellPair_143 : decode cX4_tellPair 143 = .ok (.imul, 1) := by decide +kernel
theorem dX4_tellPair_144 : decode cX4_tellPair 144 = .ok (.iadd, 1) := by decide +kernel
theorem dX4_tellPair_145 : decode cX4_tellPair 145 = .ok (.putfield 54, 3) := by decide +kernel
theorem dX4_tellPair_148 : decode cX4_tellPair 148 = .ok (.aload_n 0, 1) := by decide +kernel
theorem dX4_tellPair_149 : decode cX4_tellPair 149 = .ok (.dup, 1) := by decide +kernel
theorem dX4_tellPair_150 : decode cX4_tellPair 150 = .ok (.getfield 42, 3) := by decide +kernel
theorem dX4_tellPair_153 : decode cX4_tellPair 153 = .ok (.iconst 1, 1) := by decide +kernel
theorem dX4_tellPair_154 : decode cX4_tellPair 154 = .ok (.iadd, 1) := by decide +kernel
theorem dX4_tellPair_155 : decode cX4_tellPair 155 = .ok (.putfield 42, 3) := by decide +kernel
theorem dX4_tellPair_158 : decode cX4_tellPair 158 = .ok (.iconst 1, 1) := by decide +kernel
theorem dX4_tellPair_159 : decode cX4_tellPair 159 = .ok (.ireturn, 1) := by decide +kernel
theorem dX4_tellLead_0 : decode cX4_tellLead 0 = .ok (.aload_n 0, 1) := by decide +kernel
theorem dX4_tellLead_1 : decode cX4_tellLead 1 = .ok (.getfield 42, 3) := by decide +kernel
theorem dX4_tellLead_4 : decode cX4_tellLead 4 = .ok (.ifCond .ne 9, 3) := by decide +kernel
theorem dX4_tellLead_7 : decode cX4_tellLead 7 = .ok (.aload_n 0, 1) := by decide +kernel
theorem dX4_tellLead_8 : decode cX4_tellLead 8 = .ok (.iconst 2, 1) := by decide +kernel
theorem dX4_tellLead_9 : decode cX4_tellLead 9 = .ok (.invokevirtual 96, 3) := by decide +kernel
theorem dX4_tellLead_12 : decode cX4_tellLead 12 = .ok (.ireturn, 1) := by decide +kernel
theorem dX4_tellLead_13 : decode cX4_tellLead 13 = .ok (.aload_n 0, 1) := by decide +kernel
theorem dX4_tellLead_14 : decode cX4_tellLead 14 = .ok (.getfield 12, 3) := by decide +kernel
theorem dX4_tellLead_17 : decode cX4_tellLead 17 = .ok (.invokevirtual 100, 3) := by decide +kernel
theorem dX4_tellLead_20 : decode cX4_tellLead 20 = .ok (.iconst 0, 1) := by decide +kernel
theorem dX4_tellLead_21 : decode cX4_tellLead 21 = .ok (.istore_n 1, 1) := by decide +kernel
theorem dX4_tellLead_22 : decode cX4_tellLead 22 = .ok (.iconst 0, 1) := by decide +kernel
theorem dX4_tellLead_23 : decode cX4_tellLead 23 = .ok (.istore_n 2, 1) := by decide +kernel
theorem dX4_tellLead_24 : decode cX4_tellLead 24 = .ok (.iconst 0, 1) := by decide +kernel
theorem dX4_tellLead_25 : decode cX4_tellLead 25 = .ok (.istore_n 3, 1) := by decide +kernel
theorem dX4_tellLead_26 : decode cX4_tellLead 26 = .ok (.iload_n 3, 1) := by decide +kernel
theorem dX4_tellLead_27 : decode cX4_tellLead 27 = .ok (.aload_n 0, 1) := by decide +kernel
theorem dX4_tellLead_28 : decode cX4_tellLead 28 = .ok (.getfield 42, 3) := by decide +kernel
theorem dX4_tellLead_31 : decode cX4_tellLead 31 = .ok (.if_icmp .ge 104, 3) := by decide +kernel
theorem dX4_tellLead_34 : decode cX4_tellLead 34 = .ok (.iload_n 3, 1) := by decide +kernel
theorem dX4_tellLead_35 : decode cX4_tellLead 35 = .ok (.iconst 4, 1) := by decide +kernel
theorem dX4_tellLead_36 : decode cX4_tellLead 36 = .ok (.if_icmp .ge 99, 3) := by decide +kernel
theorem dX4_tellLead_39 : decode cX4_tellLead 39 = .ok (.iload_n 3, 1) := by decide +kernel
theorem dX4_tellLead_40 : decode cX4_tellLead 40 = .ok (.aload_n 0, 1) := by decide +kernel
theorem dX4_tellLead_41 : decode cX4_tellLead 41 = .ok (.getfield 42, 3) := by decide +kernel
theorem dX4_tellLead_44 : decode cX4_tellLead 44 = .ok (.iconst 1, 1) := by decide +kernel
theorem dX4_tellLead_45 : decode cX4_tellLead 45 = .ok (.isub, 1) := by decide +kernel
theorem dX4_tellLead_46 : decode cX4_tellLead 46 = .ok (.if_icmp .ne 7, 3) := by decide +kernel
theorem dX4_tellLead_49 : decode cX4_tellLead 49 = .ok (.iconst 1, 1) := by decide +kernel
theorem dX4_tellLead_50 : decode cX4_tellLead 50 = .ok (.goto 4, 3) := by decide +kernel
theorem dX4_tellLead_53 : decode cX4_tellLead 53 = .ok (.iconst 0, 1) := by decide +kernel
theorem dX4_tellLead_54 : decode cX4_tellLead 54 = .ok (.istore 4, 2) := by decide +kernel
theorem dX4_tellLead_56 : decode cX4_tellLead 56 = .ok (.iload 4, 2) := by decide +kernel
theorem dX4_tellLead_58 : decode cX4_tellLead 58 = .ok (.ifCond .eq 36, 3) := by decide +kernel
theorem dX4_tellLead_61 : decode cX4_tellLead 61 = .ok (.aload_n 0, 1) := by decide +kernel
theorem dX4_tellLead_62 : decode cX4_tellLead 62 = .ok (.getfield 12, 3) := by decide +kernel
theorem dX4_tellLead_65 : decode cX4_tellLead 65 = .ok (.getfield 78, 3) := by decide +kernel
theorem dX4_tellLead_68 : decode cX4_tellLead 68 = .ok (.iconst 2, 1) := by decide +kernel
theorem dX4_tellLead_69 : decode cX4_tellLead 69 = .ok (.if_icmp .ne 25, 3) := by decide +kernel
theorem dX4_tellLead_72 : decode cX4_tellLead 72 = .ok (.iload_n 1, 1) := by decide +kernel
theorem dX4_tellLead_73 : decode cX4_tellLead 73 = .ok (.aload_n 0, 1) := by decide +kernel
theorem dX4_tellLead_74 : decode cX4_tellLead 74 = .ok (.getfield 12, 3) := by decide +kernel
theorem dX4_tellLead_77 : decode cX4_tellLead 77 = .ok (.getfield 103, 3) := by decide +kernel
theorem dX4_tellLead_80 : decode cX4_tellLead 80 = .ok (.iadd, 1) := by decide +kernel
theorem dX4_tellLead_81 : decode cX4_tellLead 81 = .ok (.aload_n 0, 1) := by decide +kernel
theorem dX4_tellLead_82 : decode cX4_tellLead 82 = .ok (.getfield 45, 3) := by decide +kernel
theorem dX4_tellLead_85 : decode cX4_tellLead 85 = .ok (.if_icmp .ge 9, 3) := by decide +kernel
theorem dX4_tellLead_88 : decode cX4_tellLead 88 = .ok (.aload_n 0, 1) := by decide +kernel
theorem dX4_tellLead_89 : decode cX4_tellLead 89 = .ok (.iconst 3, 1) := by decide +kernel
theorem dX4_tellLead_90 : decode cX4_tellLead 90 = .ok (.invokevirtual 96, 3) := by decide +kernel
theorem dX4_tellLead_93 : decode cX4_tellLead 93 = .ok (.ireturn, 1) := by decide +kernel
theorem dX4_tellLead_94 : decode cX4_tellLead 94 = .ok (.aload_n 0, 1) := by decide +kernel
theorem dX4_tellLead_95 : decode cX4_tellLead 95 = .ok (.aload_n 0, 1) := by decide +kernel
theorem dX4_tellLead_96 : decode cX4_tellLead 96 = .ok (.getfield 45, 3) := by decide +kernel
theorem dX4_tellLead_99 : decode cX4_tellLead 99 = .ok (.iload_n 1, 1) := by decide +kernel
theorem dX4_tellLead_100 : decode cX4_tellLead 100 = .ok (.isub, 1) := by decide +kernel
theorem dX4_tellLead_101 : decode cX4_tellLead 101 = .ok (.invokevirtual 112, 3) := by decide +kernel
theorem dX4_tellLead_104 : decode cX4_tellLead 104 = .ok (.ifCond .ne 5, 3) := by decide +kernel
theorem dX4_tellLead_107 : decode cX4_tellLead 107 = .ok (.iconst 0, 1) := by decide +kernel
theorem dX4_tellLead_108 : decode cX4_tellLead 108 = .ok (.ireturn, 1) := by decide +kernel
theorem dX4_tellLead_109 : decode cX4_tellLead 109 = .ok (.iload_n 1, 1) := by decide +kernel
theorem dX4_tellLead_110 : decode cX4_tellLead 110 = .ok (.aload_n 0, 1) := by decide +kernel
theorem dX4_tellLead_111 : decode cX4_tellLead 111 = .ok (.getfield 30, 3) := by decide +kernel
theorem dX4_tellLead_114 : decode cX4_tellLead 114 = .ok (.iadd, 1) := by decide +kernel
theorem dX4_tellLead_115 : decode cX4_tellLead 115 = .ok (.istore_n 1, 1) := by decide +kernel
theorem dX4_tellLead_116 : decode cX4_tellLead 116 = .ok (.iload_n 2, 1) := by decide +kernel
theorem dX4_tellLead_117 : decode cX4_tellLead 117 = .ok (.aload_n 0, 1) := by decide +kernel
theorem dX4_tellLead_118 : decode cX4_tellLead 118 = .ok (.getfield 30, 3) := by decide +kernel
theorem dX4_tellLead_121 : decode cX4_tellLead 121 = .ok (.getstatic 147, 3) := by decide +kernel
theorem dX4_tellLead_124 : decode cX4_tellLead 124 = .ok (.iload_n 3, 1) := by decide +kernel
theorem dX4_tellLead_125 : decode cX4_tellLead 125 = .ok (.iaload, 1) := by decide +kernel
theorem dX4_tellLead_126 : decode cX4_tellLead 126 = .ok (.imul, 1) := by decide +kernel
theorem dX4_tellLead_127 : decode cX4_tellLead 127 = .ok (.iadd, 1) := by decide +kernel
theorem dX4_tellLead_128 : decode cX4_tellLead 128 = .ok (.istore_n 2, 1) := by decide +kernel
theorem dX4_tellLead_129 : decode cX4_tellLead 129 = .ok (.iinc 3 1, 3) := by decide +kernel
theorem dX4_tellLead_132 : decode cX4_tellLead 132 = .ok (.goto (-106), 3) := by decide +kernel
theorem dX4_tellLead_135 : decode cX4_tellLead 135 = .ok (.aload_n 0, 1) := by decide +kernel
theorem dX4_tellLead_136 : decode cX4_tellLead 136 = .ok (.iload_n 2, 1) := by decide +kernel
theorem dX4_tellLead_137 : decode cX4_tellLead 137 = .ok (.putfield 57, 3) := by decide +kernel
theorem dX4_tellLead_140 : decode cX4_tellLead 140 = .ok (.iconst 1, 1) := by decide +kernel
theorem dX4_tellLead_141 : decode cX4_tellLead 141 = .ok (.ireturn, 1) := by decide +kernel
theorem dX4_tellDry_0 : decode cX4_tellDry 0 = .ok (.aload_n 0, 1) := by decide +kernel
theorem dX4_tellDry_1 : decode cX4_tellDry 1 = .ok (.getfield 12, 3) := by decide +kernel
theorem dX4_tellDry_4 : decode cX4_tellDry 4 = .ok (.invokevirtual 100, 3) := by decide +kernel
theorem dX4_tellDry_7 : decode cX4_tellDry 7 = .ok (.aload_n 0, 1) := by decide +kernel
theorem dX4_tellDry_8 : decode cX4_tellDry 8 = .ok (.bipush 10, 2) := by decide +kernel
theorem dX4_tellDry_10 : decode cX4_tellDry 10 = .ok (.invokevirtual 112, 3) := by decide +kernel
theorem dX4_tellDry_13 : decode cX4_tellDry 13 = .ok (.ifCond .ne 5, 3) := by decide +kernel
theorem dX4_tellDry_16 : decode cX4_tellDry 16 = .ok (.iconst 0, 1) := by decide +kernel
theorem dX4_tellDry_17 : decode cX4_tellDry 17 = .ok (.ireturn, 1) := by decide +kernel
theorem dX4_tellDry_18 : decode cX4_tellDry 18 = .ok (.aload_n 0, 1) := by decide +kernel
theorem dX4_tellDry_19 : decode cX4_tellDry 19 = .ok (.aload_n 0, 1) := by decide +kernel
theorem dX4_tellDry_20 : decode cX4_tellDry 20 = .ok (.getfield 30, 3) := by decide +kernel
theorem dX4_tellDry_23 : decode cX4_tellDry 23 = .ok (.putfield 48, 3) := by decide +kernel
theorem dX4_tellDry_26 : decode cX4_tellDry 26 = .ok (.iconst 1, 1) := by decide +kernel
theorem dX4_tellDry_27 : decode cX4_tellDry 27 = .ok (.ireturn, 1) := by decide +kernel
theorem dX4_tellGrows_0 : decode cX4_tellGrows 0 = .ok (.aload_n 0, 1) := by decide +kernel
theorem dX4_tellGrows_1 : decode cX4_tellGrows 1 = .ok (.getfield 12, 3) := by decide +kernel
theorem dX4_tellGrows_4 : decode cX4_tellGrows 4 = .ok (.invokevirtual 100, 3) := by decide +kernel
theorem dX4_tellGrows_7 : decode cX4_tellGrows 7 = .ok (.aload_n 0, 1) := by decide +kernel
theorem dX4_tellGrows_8 : decode cX4_tellGrows 8 = .ok (.iconst 0, 1) := by decide +kernel
theorem dX4_tellGrows_9 : decode cX4_tellGrows 9 = .ok (.putfield 22, 3) := by decide +kernel
theorem dX4_tellGrows_12 : decode cX4_tellGrows 12 = .ok (.aload_n 0, 1) := by decide +kernel
theorem dX4_tellGrows_13 : decode cX4_tellGrows 13 = .ok (.iconst 1, 1) := by decide +kernel
theorem dX4_tellGrows_14 : decode cX4_tellGrows 14 = .ok (.putfield 26, 3) := by decide +kernel
theorem dX4_tellGrows_17 : decode cX4_tellGrows 17 = .ok (.aload_n 0, 1) := by decide +kernel
theorem dX4_tellGrows_18 : decode cX4_tellGrows 18 = .ok (.ldc 150, 2) := by decide +kernel
theorem dX4_tellGrows_20 : decode cX4_tellGrows 20 = .ok (.invokevirtual 108, 3) := by decide +kernel
theorem dX4_tellGrows_23 : decode cX4_tellGrows 23 = .ok (.ifCond .eq 11, 3) := by decide +kernel
theorem dX4_tellGrows_26 : decode cX4_tellGrows 26 = .ok (.aload_n 0, 1) := by decide +kernel
theorem dX4_tellGrows_27 : decode cX4_tellGrows 27 = .ok (.iconst 0, 1) := by decide +kernel
theorem dX4_tellGrows_28 : decode cX4_tellGrows 28 = .ok (.invokevirtual 152, 3) := by decide +kernel
theorem dX4_tellGrows_31 : decode cX4_tellGrows 31 = .ok (.ifCond .ne 5, 3) := by decide +kernel
theorem dX4_tellGrows_34 : decode cX4_tellGrows 34 = .ok (.iconst 0, 1) := by decide +kernel
theorem dX4_tellGrows_35 : decode cX4_tellGrows 35 = .ok (.ireturn, 1) := by decide +kernel
theorem dX4_tellGrows_36 : decode cX4_tellGrows 36 = .ok (.aload_n 0, 1) := by decide +kernel
theorem dX4_tellGrows_37 : decode cX4_tellGrows 37 = .ok (.new 155, 3) := by decide +kernel
theorem dX4_tellGrows_40 : decode cX4_tellGrows 40 = .ok (.dup, 1) := by decide +kernel
theorem dX4_tellGrows_41 : decode cX4_tellGrows 41 = .ok (.aload_n 0, 1) := by decide +kernel
theorem dX4_tellGrows_42 : decode cX4_tellGrows 42 = .ok (.getfield 18, 3) := by decide +kernel
theorem dX4_tellGrows_45 : decode cX4_tellGrows 45 = .ok (.aload_n 0, 1) := by decide +kernel
theorem dX4_tellGrows_46 : decode cX4_tellGrows 46 = .ok (.getfield 22, 3) := by decide +kernel
theorem dX4_tellGrows_49 : decode cX4_tellGrows 49 = .ok (.invokespecial 157, 3) := by decide +kernel
theorem dX4_tellGrows_52 : decode cX4_tellGrows 52 = .ok (.putfield 60, 3) := by decide +kernel
theorem dX4_tellGrows_55 : decode cX4_tellGrows 55 = .ok (.iconst 1, 1) := by decide +kernel
theorem dX4_tellGrows_56 : decode cX4_tellGrows 56 = .ok (.ireturn, 1) := by decide +kernel
theorem dX4_tellFalls_0 : decode cX4_tellFalls 0 = .ok (.aload_n 0, 1) := by decide +kernel
theorem dX4_tellFalls_1 : decode cX4_tellFalls 1 = .ok (.getfield 12, 3) := by decide +kernel
theorem dX4_tellFalls_4 : decode cX4_tellFalls 4 = .ok (.invokevirtual 100, 3) := by decide +kernel
theorem dX4_tellFalls_7 : decode cX4_tellFalls 7 = .ok (.aload_n 0, 1) := by decide +kernel
theorem dX4_tellFalls_8 : decode cX4_tellFalls 8 = .ok (.iconst 0, 1) := by decide +kernel
theorem dX4_tellFalls_9 : decode cX4_tellFalls 9 = .ok (.putfield 22, 3) := by decide +kernel
theorem dX4_tellFalls_12 : decode cX4_tellFalls 12 = .ok (.aload_n 0, 1) := by decide +kernel
theorem dX4_tellFalls_13 : decode cX4_tellFalls 13 = .ok (.iconst 0, 1) := by decide +kernel
theorem dX4_tellFalls_14 : decode cX4_tellFalls 14 = .ok (.putfield 26, 3) := by decide +kernel
theorem dX4_tellFalls_17 : decode cX4_tellFalls 17 = .ok (.aload_n 0, 1) := by decide +kernel
theorem dX4_tellFalls_18 : decode cX4_tellFalls 18 = .ok (.ldc 150, 2) := by decide +kernel
theorem dX4_tellFalls_20 : decode cX4_tellFalls 20 = .ok (.invokevirtual 108, 3) := by decide +kernel
theorem dX4_tellFalls_23 : decode cX4_tellFalls 23 = .ok (.ifCond .eq 11, 3) := by decide +kernel
theorem dX4_tellFalls_26 : decode cX4_tellFalls 26 = .ok (.aload_n 0, 1) := by decide +kernel
theorem dX4_tellFalls_27 : decode cX4_tellFalls 27 = .ok (.iconst 0, 1) := by decide +kernel
theorem dX4_tellFalls_28 : decode cX4_tellFalls 28 = .ok (.invokevirtual 160, 3) := by decide +kernel
theorem dX4_tellFalls_31 : decode cX4_tellFalls 31 = .ok (.ifCond .ne 5, 3) := by decide +kernel
theorem dX4_tellFalls_34 : decode cX4_tellFalls 34 = .ok (.iconst 0, 1) := by decide +kernel
theorem dX4_tellFalls_35 : decode cX4_tellFalls 35 = .ok (.ireturn, 1) := by decide +kernel
theorem dX4_tellFalls_36 : decode cX4_tellFalls 36 = .ok (.aload_n 0, 1) := by decide +kernel
theorem dX4_tellFalls_37 : decode cX4_tellFalls 37 = .ok (.new 155, 3) := by decide +kernel
theorem dX4_tellFalls_40 : decode cX4_tellFalls 40 = .ok (.dup, 1) := by decide +kernel
theorem dX4_tellFalls_41 : decode cX4_tellFalls 41 = .ok (.aload_n 0, 1) := by decide +kernel
theorem dX4_tellFalls_42 : decode cX4_tellFalls 42 = .ok (.getfield 18, 3) := by decide +kernel
theorem dX4_tellFalls_45 : decode cX4_tellFalls 45 = .ok (.aload_n 0, 1) := by decide +kernel
theorem dX4_tellFalls_46 : decode cX4_tellFalls 46 = .ok (.getfield 22, 3) := by decide +kernel
theorem dX4_tellFalls_49 : decode cX4_tellFalls 49 = .ok (.invokespecial 157, 3) := by decide +kernel
theorem dX4_tellFalls_52 : decode cX4_tellFalls 52 = .ok (.putfield 64, 3) := by decide +kernel
theorem dX4_tellFalls_55 : decode cX4_tellFalls 55 = .ok (.iconst 1, 1) := by decide +kernel
theorem dX4_tellFalls_56 : decode cX4_tellFalls 56 = .ok (.ireturn, 1) := by decide +kernel
theorem dX4_put_0 : decode cX4_put 0 = .ok (.aload_n 0, 1) := by decide +kernel
theorem dX4_put_1 : decode cX4_put 1 = .ok (.getfield 22, 3) := by decide +kernel
theorem dX4_put_4 : decode cX4_put 4 = .ok (.aload_n 0, 1) := by decide +kernel
theorem dX4_put_5 : decode cX4_put 5 = .ok (.getfield 18, 3) := by decide +kernel
theorem dX4_put_8 : decode cX4_put 8 = .ok (.arraylength, 1) := by decide +kernel
theorem dX4_put_9 : decode cX4_put 9 = .ok (.if_icmp .ge 23, 3) := by decide +kernel
theorem dX4_put_12 : decode cX4_put 12 = .ok (.aload_n 0, 1) := by decide +kernel
theorem dX4_put_13 : decode cX4_put 13 = .ok (.getfield 18, 3) := by decide +kernel
theorem dX4_put_16 : decode cX4_put 16 = .ok (.aload_n 0, 1) := by decide +kernel
theorem dX4_put_17 : decode cX4_put 17 = .ok (.getfield 22, 3) := by decide +kernel
theorem dX4_put_20 : decode cX4_put 20 = .ok (.iload_n 1, 1) := by decide +kernel
theorem dX4_put_21 : decode cX4_put 21 = .ok (.iastore, 1) := by decide +kernel
theorem dX4_put_22 : decode cX4_put 22 = .ok (.aload_n 0, 1) := by decide +kernel
theorem dX4_put_23 : decode cX4_put 23 = .ok (.dup, 1) := by decide +kernel
theorem dX4_put_24 : decode cX4_put 24 = .ok (.getfield 22, 3) := by decide +kernel
theorem dX4_put_27 : decode cX4_put 27 = .ok (.iconst 1, 1) := by decide +kernel
theorem dX4_put_28 : decode cX4_put 28 = .ok (.iadd, 1) := by decide +kernel
theorem dX4_put_29 : decode cX4_put 29 = .ok (.putfield 22, 3) := by decide +kernel
theorem dX4_put_32 : decode cX4_put 32 = .ok (.return_, 1) := by decide +kernel
theorem dX4_sum_0 : decode cX4_sum 0 = .ok (.aload_n 0, 1) := by decide +kernel
theorem dX4_sum_1 : decode cX4_sum 1 = .ok (.iload_n 1, 1) := by decide +kernel
theorem dX4_sum_2 : decode cX4_sum 2 = .ok (.invokevirtual 163, 3) := by decide +kernel
theorem dX4_sum_5 : decode cX4_sum 5 = .ok (.istore_n 2, 1) := by decide +kernel
theorem dX4_sum_6 : decode cX4_sum 6 = .ok (.iconst 0, 1) := by decide +kernel
theorem dX4_sum_7 : decode cX4_sum 7 = .ok (.istore_n 3, 1) := by decide +kernel
theorem dX4_sum_8 : decode cX4_sum 8 = .ok (.iload_n 3, 1) := by decide +kernel
theorem dX4_sum_9 : decode cX4_sum 9 = .ok (.sipush 900, 3) := by decide +kernel
theorem dX4_sum_12 : decode cX4_sum 12 = .ok (.if_icmp .ge 60, 3) := by decide +kernel
theorem dX4_sum_15 : decode cX4_sum 15 = .ok (.iload_n 2, 1) := by decide +kernel
theorem dX4_sum_16 : decode cX4_sum 16 = .ok (.ifCond .eq 56, 3) := by decide +kernel
theorem dX4_sum_19 : decode cX4_sum 19 = .ok (.aload_n 0, 1) := by decide +kernel
theorem dX4_sum_20 : decode cX4_sum 20 = .ok (.invokevirtual 166, 3) := by decide +kernel
theorem dX4_sum_23 : decode cX4_sum 23 = .ok (.ifCond .eq 49, 3) := by decide +kernel
theorem dX4_sum_26 : decode cX4_sum 26 = .ok (.aload_n 0, 1) := by decide +kernel
theorem dX4_sum_27 : decode cX4_sum 27 = .ok (.getfield 12, 3) := by decide +kernel
theorem dX4_sum_30 : decode cX4_sum 30 = .ok (.ldc 169, 2) := by decide +kernel
theorem dX4_sum_32 : decode cX4_sum 32 = .ok (.invokevirtual 92, 3) := by decide +kernel
theorem dX4_sum_35 : decode cX4_sum 35 = .ok (.ifCond .eq 8, 3) := by decide +kernel
theorem dX4_sum_38 : decode cX4_sum 38 = .ok (.bipush (-11), 2) := by decide +kernel
theorem dX4_sum_40 : decode cX4_sum 40 = .ok (.goto 5, 3) := by decide +kernel
theorem dX4_sum_43 : decode cX4_sum 43 = .ok (.bipush (-12), 2) := by decide +kernel
theorem dX4_sum_45 : decode cX4_sum 45 = .ok (.istore 4, 2) := by decide +kernel
theorem dX4_sum_47 : decode cX4_sum 47 = .ok (.aload_n 0, 1) := by decide +kernel
theorem dX4_sum_48 : decode cX4_sum 48 = .ok (.getfield 12, 3) := by decide +kernel
theorem dX4_sum_51 : decode cX4_sum 51 = .ok (.invokevirtual 100, 3) := by decide +kernel
theorem dX4_sum_54 : decode cX4_sum 54 = .ok (.aload_n 0, 1) := by decide +kernel
theorem dX4_sum_55 : decode cX4_sum 55 = .ok (.iload_n 1, 1) := by decide +kernel
theorem dX4_sum_56 : decode cX4_sum 56 = .ok (.invokevirtual 163, 3) := by decide +kernel
theorem dX4_sum_59 : decode cX4_sum 59 = .ok (.istore_n 2, 1) := by decide +kernel
theorem dX4_sum_60 : decode cX4_sum 60 = .ok (.aload_n 0, 1) := by decide +kernel
theorem dX4_sum_61 : decode cX4_sum 61 = .ok (.iload 4, 2) := by decide +kernel
theorem dX4_sum_63 : decode cX4_sum 63 = .ok (.invokevirtual 171, 3) := by decide +kernel
theorem dX4_sum_66 : decode cX4_sum 66 = .ok (.iinc 3 1, 3) := by decide +kernel
theorem dX4_sum_69 : decode cX4_sum 69 = .ok (.goto (-61), 3) := by decide +kernel
theorem dX4_sum_72 : decode cX4_sum 72 = .ok (.iload_n 2, 1) := by decide +kernel
theorem dX4_sum_73 : decode cX4_sum 73 = .ok (.ireturn, 1) := by decide +kernel
theorem dX4_isAtPlusOrMinus_0 : decode cX4_isAtPlusOrMinus 0 = .ok (.aload_n 0, 1) := by decide +kernel
theorem dX4_isAtPlusOrMinus_1 : decode cX4_isAtPlusOrMinus 1 = .ok (.getfield 12, 3) := by decide +kernel
theorem dX4_isAtPlusOrMinus_4 : decode cX4_isAtPlusOrMinus 4 = .ok (.ldc 169, 2) := by decide +kernel
theorem dX4_isAtPlusOrMinus_6 : decode cX4_isAtPlusOrMinus 6 = .ok (.invokevirtual 92, 3) := by decide +kernel
theorem dX4_isAtPlusOrMinus_9 : decode cX4_isAtPlusOrMinus 9 = .ok (.ifCond .ne 15, 3) := by decide +kernel
theorem dX4_isAtPlusOrMinus_12 : decode cX4_isAtPlusOrMinus 12 = .ok (.aload_n 0, 1) := by decide +kernel
theorem dX4_isAtPlusOrMinus_13 : decode cX4_isAtPlusOrMinus 13 = .ok (.getfield 12, 3) := by decide +kernel
theorem dX4_isAtPlusOrMinus_16 : decode cX4_isAtPlusOrMinus 16 = .ok (.ldc 175, 2) := by decide +kernel
theorem dX4_isAtPlusOrMinus_18 : decode cX4_isAtPlusOrMinus 18 = .ok (.invokevirtual 92, 3) := by decide +kernel
theorem dX4_isAtPlusOrMinus_21 : decode cX4_isAtPlusOrMinus 21 = .ok (.ifCond .eq 7, 3) := by decide +kernel
theorem dX4_isAtPlusOrMinus_24 : decode cX4_isAtPlusOrMinus 24 = .ok (.iconst 1, 1) := by decide +kernel
theorem dX4_isAtPlusOrMinus_25 : decode cX4_isAtPlusOrMinus 25 = .ok (.goto 4, 3) := by decide +kernel
theorem dX4_isAtPlusOrMinus_28 : decode cX4_isAtPlusOrMinus 28 = .ok (.iconst 0, 1) := by decide +kernel
theorem dX4_isAtPlusOrMinus_29 : decode cX4_isAtPlusOrMinus 29 = .ok (.ireturn, 1) := by decide +kernel
theorem dX4_term_0 : decode cX4_term 0 = .ok (.aload_n 0, 1) := by decide +kernel
theorem dX4_term_1 : decode cX4_term 1 = .ok (.iload_n 1, 1) := by decide +kernel
theorem dX4_term_2 : decode cX4_term 2 = .ok (.invokevirtual 177, 3) := by decide +kernel
theorem dX4_term_5 : decode cX4_term 5 = .ok (.istore_n 2, 1) := by decide +kernel
theorem dX4_term_6 : decode cX4_term 6 = .ok (.iconst 0, 1) := by decide +kernel
theorem dX4_term_7 : decode cX4_term 7 = .ok (.istore_n 3, 1) := by decide +kernel
theorem dX4_term_8 : decode cX4_term 8 = .ok (.iload_n 3, 1) := by decide +kernel
theorem dX4_term_9 : decode cX4_term 9 = .ok (.sipush 900, 3) := by decide +kernel
theorem dX4_term_12 : decode cX4_term 12 = .ok (.if_icmp .ge 44, 3) := by decide +kernel
theorem dX4_term_15 : decode cX4_term 15 = .ok (.iload_n 2, 1) := by decide +kernel
theorem dX4_term_16 : decode cX4_term 16 = .ok (.ifCond .eq 40, 3) := by decide +kernel
theorem dX4_term_19 : decode cX4_term 19 = .ok (.aload_n 0, 1) := by decide +kernel
theorem dX4_term_20 : decode cX4_term 20 = .ok (.getfield 12, 3) := by decide +kernel
theorem dX4_term_23 : decode cX4_term 23 = .ok (.ldc 180, 2) := by decide +kernel
theorem dX4_term_25 : decode cX4_term 25 = .ok (.invokevirtual 92, 3) := by decide +kernel
theorem dX4_term_28 : decode cX4_term 28 = .ok (.ifCond .eq 28, 3) := by decide +kernel
theorem dX4_term_31 : decode cX4_term 31 = .ok (.aload_n 0, 1) := by decide +kernel
theorem dX4_term_32 : decode cX4_term 32 = .ok (.getfield 12, 3) := by decide +kernel
theorem dX4_term_35 : decode cX4_term 35 = .ok (.invokevirtual 100, 3) := by decide +kernel
theorem dX4_term_38 : decode cX4_term 38 = .ok (.aload_n 0, 1) := by decide +kernel
theorem dX4_term_39 : decode cX4_term 39 = .ok (.iload_n 1, 1) := by decide +kernel
theorem dX4_term_40 : decode cX4_term 40 = .ok (.invokevirtual 177, 3) := by decide +kernel
theorem dX4_term_43 : decode cX4_term 43 = .ok (.istore_n 2, 1) := by decide +kernel
theorem dX4_term_44 : decode cX4_term 44 = .ok (.aload_n 0, 1) := by decide +kernel
theorem dX4_term_45 : decode cX4_term 45 = .ok (.bipush (-13), 2) := by decide +kernel
theorem dX4_term_47 : decode cX4_term 47 = .ok (.invokevirtual 171, 3) := by decide +kernel
theorem dX4_term_50 : decode cX4_term 50 = .ok (.iinc 3 1, 3) := by decide +kernel
theorem dX4_term_53 : decode cX4_term 53 = .ok (.goto (-45), 3) := by decide +kernel
theorem dX4_term_56 : decode cX4_term 56 = .ok (.iload_n 2, 1) := by decide +kernel
theorem dX4_term_57 : decode cX4_term 57 = .ok (.ireturn, 1) := by decide +kernel
theorem dX4_atom_0 : decode cX4_atom 0 = .ok (.aload_n 0, 1) := by decide +kernel
theorem dX4_atom_1 : decode cX4_atom 1 = .ok (.getfield 12, 3) := by decide +kernel
theorem dX4_atom_4 : decode cX4_atom 4 = .ok (.ldc 182, 2) := by decide +kernel
theorem dX4_atom_6 : decode cX4_atom 6 = .ok (.invokevirtual 92, 3) := by decide +kernel
theorem dX4_atom_9 : decode cX4_atom 9 = .ok (.ifCond .eq 36, 3) := by decide +kernel
theorem dX4_atom_12 : decode cX4_atom 12 = .ok (.aload_n 0, 1) := by decide +kernel
theorem dX4_atom_13 : decode cX4_atom 13 = .ok (.iload_n 1, 1) := by decide +kernel
theorem dX4_atom_14 : decode cX4_atom 14 = .ok (.invokevirtual 184, 3) := by decide +kernel
theorem dX4_atom_17 : decode cX4_atom 17 = .ok (.ifCond .eq 26, 3) := by decide +kernel
theorem dX4_atom_20 : decode cX4_atom 20 = .ok (.aload_n 0, 1) := by decide +kernel
theorem dX4_atom_21 : decode cX4_atom 21 = .ok (.iload_n 1, 1) := by decide +kernel
theorem dX4_atom_22 : decode cX4_atom 22 = .ok (.iconst 1, 1) := by decide +kernel
theorem dX4_atom_23 : decode cX4_atom 23 = .ok (.iadd, 1) := by decide +kernel
theorem dX4_atom_24 : decode cX4_atom 24 = .ok (.invokevirtual 152, 3) := by decide +kernel
theorem dX4_atom_27 : decode cX4_atom 27 = .ok (.ifCond .eq 16, 3) := by decide +kernel
theorem dX4_atom_30 : decode cX4_atom 30 = .ok (.aload_n 0, 1) := by decide +kernel
theorem dX4_atom_31 : decode cX4_atom 31 = .ok (.ldc 187, 2) := by decide +kernel
theorem dX4_atom_33 : decode cX4_atom 33 = .ok (.invokevirtual 108, 3) := by decide +kernel
theorem dX4_atom_36 : decode cX4_atom 36 = .ok (.ifCond .eq 7, 3) := by decide +kernel
theorem dX4_atom_39 : decode cX4_atom 39 = .ok (.iconst 1, 1) := by decide +kernel
theorem dX4_atom_40 : decode cX4_atom 40 = .ok (.goto 4, 3) := by decide +kernel
theorem dX4_atom_43 : decode cX4_atom 43 = .ok (.iconst 0, 1) := by decide +kernel
theorem dX4_atom_44 : decode cX4_atom 44 = .ok (.ireturn, 1) := by decide +kernel
theorem dX4_atom_45 : decode cX4_atom 45 = .ok (.aload_n 0, 1) := by decide +kernel
theorem dX4_atom_46 : decode cX4_atom 46 = .ok (.getfield 12, 3) := by decide +kernel
theorem dX4_atom_49 : decode cX4_atom 49 = .ok (.ldc 189, 2) := by decide +kernel
theorem dX4_atom_51 : decode cX4_atom 51 = .ok (.invokevirtual 92, 3) := by decide +kernel
theorem dX4_atom_54 : decode cX4_atom 54 = .ok (.ifCond .eq 9, 3) := by decide +kernel
theorem dX4_atom_57 : decode cX4_atom 57 = .ok (.aload_n 0, 1) := by decide +kernel
theorem dX4_atom_58 : decode cX4_atom 58 = .ok (.iload_n 1, 1) := by decide +kernel
theorem dX4_atom_59 : decode cX4_atom 59 = .ok (.invokevirtual 191, 3) := by decide +kernel
theorem dX4_atom_62 : decode cX4_atom 62 = .ok (.ireturn, 1) := by decide +kernel
theorem dX4_atom_63 : decode cX4_atom 63 = .ok (.aload_n 0, 1) := by decide +kernel
theorem dX4_atom_64 : decode cX4_atom 64 = .ok (.getfield 12, 3) := by decide +kernel
theorem dX4_atom_67 : decode cX4_atom 67 = .ok (.getfield 78, 3) := by decide +kernel
theorem dX4_atom_70 : decode cX4_atom 70 = .ok (.iconst 2, 1) := by decide +kernel
theorem dX4_atom_71 : decode cX4_atom 71 = .ok (.if_icmp .ne 13, 3) := by decide +kernel
theorem dX4_atom_74 : decode cX4_atom 74 = .ok (.aload_n 0, 1) := by decide +kernel
theorem dX4_atom_75 : decode cX4_atom 75 = .ok (.getfield 12, 3) := by decide +kernel
theorem dX4_atom_78 : decode cX4_atom 78 = .ok (.getfield 103, 3) := by decide +kernel
theorem dX4_atom_81 : decode cX4_atom 81 = .ok (.goto 7, 3) := by decide +kernel
theorem dX4_atom_84 : decode cX4_atom 84 = .ok (.aload_n 0, 1) := by decide +kernel
theorem dX4_atom_85 : decode cX4_atom 85 = .ok (.invokevirtual 194, 3) := by decide +kernel
theorem dX4_atom_88 : decode cX4_atom 88 = .ok (.istore_n 2, 1) := by decide +kernel
theorem dX4_atom_89 : decode cX4_atom 89 = .ok (.iload_n 2, 1) := by decide +kernel
theorem dX4_atom_90 : decode cX4_atom 90 = .ok (.bipush (-19), 2) := by decide +kernel
theorem dX4_atom_92 : decode cX4_atom 92 = .ok (.if_icmp .ne 9, 3) := by decide +kernel
theorem dX4_atom_95 : decode cX4_atom 95 = .ok (.aload_n 0, 1) := by decide +kernel
theorem dX4_atom_96 : decode cX4_atom 96 = .ok (.iconst 2, 1) := by decide +kernel
theorem dX4_atom_97 : decode cX4_atom 97 = .ok (.invokevirtual 96, 3) := by decide +kernel
theorem dX4_atom_100 : decode cX4_atom 100 = .ok (.ireturn, 1) := by decide +kernel
theorem dX4_atom_101 : decode cX4_atom 101 = .ok (.aload_n 0, 1) := by decide +kernel
theorem dX4_atom_102 : decode cX4_atom 102 = .ok (.iload_n 2, 1) := by decide +kernel
theorem dX4_atom_103 : decode cX4_atom 103 = .ok (.invokevirtual 171, 3) := by decide +kernel
theorem dX4_atom_106 : decode cX4_atom 106 = .ok (.aload_n 0, 1) := by decide +kernel
theorem dX4_atom_107 : decode cX4_atom 107 = .ok (.getfield 12, 3) := by decide +kernel
theorem dX4_atom_110 : decode cX4_atom 110 = .ok (.invokevirtual 100, 3) := by decide +kernel
theorem dX4_atom_113 : decode cX4_atom 113 = .ok (.iconst 1, 1) := by decide +kernel
theorem dX4_atom_114 : decode cX4_atom 114 = .ok (.ireturn, 1) := by decide +kernel
theorem dX4_choice_0 : decode cX4_choice 0 = .ok (.aload_n 0, 1) := by decide +kernel
theorem dX4_choice_1 : decode cX4_choice 1 = .ok (.iload_n 1, 1) := by decide +kernel
theorem dX4_choice_2 : decode cX4_choice 2 = .ok (.invokevirtual 184, 3) := by decide +kernel
theorem dX4_choice_5 : decode cX4_choice 5 = .ok (.ifCond .eq 32, 3) := by decide +kernel
theorem dX4_choice_8 : decode cX4_choice 8 = .ok (.aload_n 0, 1) := by decide +kernel
theorem dX4_choice_9 : decode cX4_choice 9 = .ok (.iload_n 1, 1) := by decide +kernel
theorem dX4_choice_10 : decode cX4_choice 10 = .ok (.iconst 1, 1) := by decide +kernel
theorem dX4_choice_11 : decode cX4_choice 11 = .ok (.iadd, 1) := by decide +kernel
theorem dX4_choice_12 : decode cX4_choice 12 = .ok (.invokevirtual 160, 3) := by decide +kernel
theorem dX4_choice_15 : decode cX4_choice 15 = .ok (.ifCond .eq 22, 3) := by decide +kernel
theorem dX4_choice_18 : decode cX4_choice 18 = .ok (.aload_n 0, 1) := by decide +kernel
theorem dX4_choice_19 : decode cX4_choice 19 = .ok (.ldc 198, 2) := by decide +kernel
theorem dX4_choice_21 : decode cX4_choice 21 = .ok (.invokevirtual 108, 3) := by decide +kernel
theorem dX4_choice_24 : decode cX4_choice 24 = .ok (.ifCond .eq 13, 3) := by decide +kernel
theorem dX4_choice_27 : decode cX4_choice 27 = .ok (.aload_n 0, 1) := by decide +kernel
theorem dX4_choice_28 : decode cX4_choice 28 = .ok (.iload_n 1, 1) := by decide +kernel
theorem dX4_choice_29 : decode cX4_choice 29 = .ok (.iconst 1, 1) := by decide +kernel
theorem dX4_choice_30 : decode cX4_choice 30 = .ok (.iadd, 1) := by decide +kernel
theorem dX4_choice_31 : decode cX4_choice 31 = .ok (.invokevirtual 152, 3) := by decide +kernel
theorem dX4_choice_34 : decode cX4_choice 34 = .ok (.ifCond .ne 5, 3) := by decide +kernel
theorem dX4_choice_37 : decode cX4_choice 37 = .ok (.iconst 0, 1) := by decide +kernel
theorem dX4_choice_38 : decode cX4_choice 38 = .ok (.ireturn, 1) := by decide +kernel
theorem dX4_choice_39 : decode cX4_choice 39 = .ok (.aload_n 0, 1) := by decide +kernel
theorem dX4_choice_40 : decode cX4_choice 40 = .ok (.ldc 200, 2) := by decide +kernel
theorem dX4_choice_42 : decode cX4_choice 42 = .ok (.invokevirtual 108, 3) := by decide +kernel
theorem dX4_choice_45 : decode cX4_choice 45 = .ok (.ifCond .eq 22, 3) := by decide +kernel
theorem dX4_choice_48 : decode cX4_choice 48 = .ok (.aload_n 0, 1) := by decide +kernel
theorem dX4_choice_49 : decode cX4_choice 49 = .ok (.iload_n 1, 1) := by decide +kernel
theorem dX4_choice_50 : decode cX4_choice 50 = .ok (.iconst 1, 1) := by decide +kernel
theorem dX4_choice_51 : decode cX4_choice 51 = .ok (.iadd, 1) := by decide +kernel
theorem dX4_choice_52 : decode cX4_choice 52 = .ok (.invokevirtual 152, 3) := by decide +kernel
theorem dX4_choice_55 : decode cX4_choice 55 = .ok (.ifCond .eq 12, 3) := by decide +kernel
theorem dX4_choice_58 : decode cX4_choice 58 = .ok (.aload_n 0, 1) := by decide +kernel
theorem dX4_choice_59 : decode cX4_choice 59 = .ok (.ldc 202, 2) := by decide +kernel
theorem dX4_choice_61 : decode cX4_choice 61 = .ok (.invokevirtual 108, 3) := by decide +kernel
theorem dX4_choice_64 : decode cX4_choice 64 = .ok (.ifCond .ne 5, 3) := by decide +kernel
theorem dX4_choice_67 : decode cX4_choice 67 = .ok (.iconst 0, 1) := by decide +kernel
theorem dX4_choice_68 : decode cX4_choice 68 = .ok (.ireturn, 1) := by decide +kernel
theorem dX4_choice_69 : decode cX4_choice 69 = .ok (.aload_n 0, 1) := by decide +kernel
theorem dX4_choice_70 : decode cX4_choice 70 = .ok (.bipush (-20), 2) := by decide +kernel
theorem dX4_choice_72 : decode cX4_choice 72 = .ok (.invokevirtual 171, 3) := by decide +kernel
theorem dX4_choice_75 : decode cX4_choice 75 = .ok (.iconst 1, 1) := by decide +kernel
theorem dX4_choice_76 : decode cX4_choice 76 = .ok (.ireturn, 1) := by decide +kernel
theorem dX4_goInto_0 : decode cX4_goInto 0 = .ok (.iload_n 1, 1) := by decide +kernel
theorem dX4_goInto_1 : decode cX4_goInto 1 = .ok (.bipush 6, 2) := by decide +kernel
theorem dX4_goInto_3 : decode cX4_goInto 3 = .ok (.if_icmp .lt 9, 3) := by decide +kernel
theorem dX4_goInto_6 : decode cX4_goInto 6 = .ok (.aload_n 0, 1) := by decide +kernel
theorem dX4_goInto_7 : decode cX4_goInto 7 = .ok (.iconst 4, 1) := by decide +kernel
theorem dX4_goInto_8 : decode cX4_goInto 8 = .ok (.invokevirtual 96, 3) := by decide +kernel
theorem dX4_goInto_11 : decode cX4_goInto 11 = .ok (.ireturn, 1) := by decide +kernel
theorem dX4_goInto_12 : decode cX4_goInto 12 = .ok (.aload_n 0, 1) := by decide +kernel
theorem dX4_goInto_13 : decode cX4_goInto 13 = .ok (.getfield 12, 3) := by decide +kernel
theorem dX4_goInto_16 : decode cX4_goInto 16 = .ok (.invokevirtual 100, 3) := by decide +kernel
theorem dX4_goInto_19 : decode cX4_goInto 19 = .ok (.iconst 1, 1) := by decide +kernel
theorem dX4_goInto_20 : decode cX4_goInto 20 = .ok (.ireturn, 1) := by decide +kernel
theorem dX4_word_0 : decode cX4_word 0 = .ok (.aload_n 0, 1) := by decide +kernel
theorem dX4_word_1 : decode cX4_word 1 = .ok (.getfield 12, 3) := by decide +kernel
theorem dX4_word_4 : decode cX4_word 4 = .ok (.ldc 204, 2) := by decide +kernel
theorem dX4_word_6 : decode cX4_word 6 = .ok (.invokevirtual 92, 3) := by decide +kernel
theorem dX4_word_9 : decode cX4_word 9 = .ok (.ifCond .eq 5, 3) := by decide +kernel
theorem dX4_word_12 : decode cX4_word 12 = .ok (.iconst (-1), 1) := by decide +kernel
theorem dX4_word_13 : decode cX4_word 13 = .ok (.ireturn, 1) := by decide +kernel
theorem dX4_word_14 : decode cX4_word 14 = .ok (.aload_n 0, 1) := by decide +kernel
theorem dX4_word_15 : decode cX4_word 15 = .ok (.getfield 12, 3) := by decide +kernel
theorem dX4_word_18 : decode cX4_word 18 = .ok (.ldc 127, 2) := by decide +kernel
theorem dX4_word_20 : decode cX4_word 20 = .ok (.invokevirtual 92, 3) := by decide +kernel
theorem dX4_word_23 : decode cX4_word 23 = .ok (.ifCond .eq 6, 3) := by decide +kernel
theorem dX4_word_26 : decode cX4_word 26 = .ok (.bipush (-2), 2) := by decide +kernel
theorem dX4_word_28 : decode cX4_word 28 = .ok (.ireturn, 1) := by decide +kernel
theorem dX4_word_29 : decode cX4_word 29 = .ok (.aload_n 0, 1) := by decide +kernel
theorem dX4_word_30 : decode cX4_word 30 = .ok (.getfield 26, 3) := by decide +kernel
theorem dX4_word_33 : decode cX4_word 33 = .ok (.ifCond .eq 10, 3) := by decide +kernel
theorem dX4_word_36 : decode cX4_word 36 = .ok (.aload_n 0, 1) := by decide +kernel
theorem dX4_word_37 : decode cX4_word 37 = .ok (.invokevirtual 206, 3) := by decide +kernel
theorem dX4_word_40 : decode cX4_word 40 = .ok (.goto 7, 3) := by decide +kernel
theorem dX4_word_43 : decode cX4_word 43 = .ok (.aload_n 0, 1) := by decide +kernel
theorem dX4_word_44 : decode cX4_word 44 = .ok (.invokevirtual 209, 3) := by decide +kernel
theorem dX4_word_47 : decode cX4_word 47 = .ok (.ireturn, 1) := by decide +kernel
theorem dX4_wordOfGrows_0 : decode cX4_wordOfGrows 0 = .ok (.aload_n 0, 1) := by decide +kernel
theorem dX4_wordOfGrows_1 : decode cX4_wordOfGrows 1 = .ok (.getfield 12, 3) := by decide +kernel
theorem dX4_wordOfGrows_4 : decode cX4_wordOfGrows 4 = .ok (.ldc 117, 2) := by decide +kernel
theorem dX4_wordOfGrows_6 : decode cX4_wordOfGrows 6 = .ok (.invokevirtual 92, 3) := by decide +kernel
theorem dX4_wordOfGrows_9 : decode cX4_wordOfGrows 9 = .ok (.ifCond .eq 6, 3) := by decide +kernel
theorem dX4_wordOfGrows_12 : decode cX4_wordOfGrows 12 = .ok (.bipush (-3), 2) := by decide +kernel
theorem dX4_wordOfGrows_14 : decode cX4_wordOfGrows 14 = .ok (.ireturn, 1) := by decide +kernel
theorem dX4_wordOfGrows_15 : decode cX4_wordOfGrows 15 = .ok (.aload_n 0, 1) := by decide +kernel
theorem dX4_wordOfGrows_16 : decode cX4_wordOfGrows 16 = .ok (.getfield 12, 3) := by decide +kernel
theorem dX4_wordOfGrows_19 : decode cX4_wordOfGrows 19 = .ok (.ldc 145, 2) := by decide +kernel
theorem dX4_wordOfGrows_21 : decode cX4_wordOfGrows 21 = .ok (.invokevirtual 92, 3) := by decide +kernel
theorem dX4_wordOfGrows_24 : decode cX4_wordOfGrows 24 = .ok (.ifCond .eq 6, 3) := by decide +kernel
theorem dX4_wordOfGrows_27 : decode cX4_wordOfGrows 27 = .ok (.bipush (-4), 2) := by decide +kernel
theorem dX4_wordOfGrows_29 : decode cX4_wordOfGrows 29 = .ok (.ireturn, 1) := by decide +kernel
theorem dX4_wordOfGrows_30 : decode cX4_wordOfGrows 30 = .ok (.aload_n 0, 1) := by decide +kernel
theorem dX4_wordOfGrows_31 : decode cX4_wordOfGrows 31 = .ok (.getfield 12, 3) := by decide +kernel
theorem dX4_wordOfGrows_34 : decode cX4_wordOfGrows 34 = .ok (.ldc 111, 2) := by decide +kernel
theorem dX4_wordOfGrows_36 : decode cX4_wordOfGrows 36 = .ok (.invokevirtual 92, 3) := by decide +kernel
theorem dX4_wordOfGrows_39 : decode cX4_wordOfGrows 39 = .ok (.ifCond .eq 6, 3) := by decide +kernel
theorem dX4_wordOfGrows_42 : decode cX4_wordOfGrows 42 = .ok (.bipush (-5), 2) := by decide +kernel
theorem dX4_wordOfGrows_44 : decode cX4_wordOfGrows 44 = .ok (.ireturn, 1) := by decide +kernel
theorem dX4_wordOfGrows_45 : decode cX4_wordOfGrows 45 = .ok (.aload_n 0, 1) := by decide +kernel
theorem dX4_wordOfGrows_46 : decode cX4_wordOfGrows 46 = .ok (.getfield 12, 3) := by decide +kernel
theorem dX4_wordOfGrows_49 : decode cX4_wordOfGrows 49 = .ok (.ldc 140, 2) := by decide +kernel
theorem dX4_wordOfGrows_51 : decode cX4_wordOfGrows 51 = .ok (.invokevirtual 92, 3) := by decide +kernel
theorem dX4_wordOfGrows_54 : decode cX4_wordOfGrows 54 = .ok (.ifCond .eq 8, 3) := by decide +kernel
theorem dX4_wordOfGrows_57 : decode cX4_wordOfGrows 57 = .ok (.bipush (-6), 2) := by decide +kernel
theorem dX4_wordOfGrows_59 : decode cX4_wordOfGrows 59 = .ok (.goto 5, 3) := by decide +kernel
theorem dX4_wordOfGrows_62 : decode cX4_wordOfGrows 62 = .ok (.bipush (-19), 2) := by decide +kernel
theorem dX4_wordOfGrows_64 : decode cX4_wordOfGrows 64 = .ok (.ireturn, 1) := by decide +kernel
theorem dX4_wordOfFalls_0 : decode cX4_wordOfFalls 0 = .ok (.aload_n 0, 1) := by decide +kernel
theorem dX4_wordOfFalls_1 : decode cX4_wordOfFalls 1 = .ok (.getfield 12, 3) := by decide +kernel
theorem dX4_wordOfFalls_4 : decode cX4_wordOfFalls 4 = .ok (.ldc 212, 2) := by decide +kernel
theorem dX4_wordOfFalls_6 : decode cX4_wordOfFalls 6 = .ok (.invokevirtual 92, 3) := by decide +kernel
theorem dX4_wordOfFalls_9 : decode cX4_wordOfFalls 9 = .ok (.ifCond .eq 6, 3) := by decide +kernel
theorem dX4_wordOfFalls_12 : decode cX4_wordOfFalls 12 = .ok (.bipush (-7), 2) := by decide +kernel
theorem dX4_wordOfFalls_14 : decode cX4_wordOfFalls 14 = .ok (.ireturn, 1) := by decide +kernel
theorem dX4_wordOfFalls_15 : decode cX4_wordOfFalls 15 = .ok (.aload_n 0, 1) := by decide +kernel
theorem dX4_wordOfFalls_16 : decode cX4_wordOfFalls 16 = .ok (.getfield 12, 3) := by decide +kernel
theorem dX4_wordOfFalls_19 : decode cX4_wordOfFalls 19 = .ok (.ldc 213, 2) := by decide +kernel
theorem dX4_wordOfFalls_21 : decode cX4_wordOfFalls 21 = .ok (.invokevirtual 92, 3) := by decide +kernel
theorem dX4_wordOfFalls_24 : decode cX4_wordOfFalls 24 = .ok (.ifCond .eq 8, 3) := by decide +kernel
theorem dX4_wordOfFalls_27 : decode cX4_wordOfFalls 27 = .ok (.bipush (-8), 2) := by decide +kernel
theorem dX4_wordOfFalls_29 : decode cX4_wordOfFalls 29 = .ok (.goto 5, 3) := by decide +kernel
theorem dX4_wordOfFalls_32 : decode cX4_wordOfFalls 32 = .ok (.bipush (-19), 2) := by decide +kernel
theorem dX4_wordOfFalls_34 : decode cX4_wordOfFalls 34 = .ok (.ireturn, 1) := by decide +kernel
theorem dX4_truth_0 : decode cX4_truth 0 = .ok (.aload_n 0, 1) := by decide +kernel
theorem dX4_truth_1 : decode cX4_truth 1 = .ok (.iload_n 1, 1) := by decide +kernel
theorem dX4_truth_2 : decode cX4_truth 2 = .ok (.invokevirtual 215, 3) := by decide +kernel
theorem dX4_truth_5 : decode cX4_truth 5 = .ok (.istore_n 2, 1) := by decide +kernel
theorem dX4_truth_6 : decode cX4_truth 6 = .ok (.iconst 0, 1) := by decide +kernel
theorem dX4_truth_7 : decode cX4_truth 7 = .ok (.istore_n 3, 1) := by decide +kernel
theorem dX4_truth_8 : decode cX4_truth 8 = .ok (.iload_n 3, 1) := by decide +kernel
theorem dX4_truth_9 : decode cX4_truth 9 = .ok (.sipush 900, 3) := by decide +kernel
theorem dX4_truth_12 : decode cX4_truth 12 = .ok (.if_icmp .ge 44, 3) := by decide +kernel
theorem dX4_truth_15 : decode cX4_truth 15 = .ok (.iload_n 2, 1) := by decide +kernel
theorem dX4_truth_16 : decode cX4_truth 16 = .ok (.ifCond .eq 40, 3) := by decide +kernel
theorem dX4_truth_19 : decode cX4_truth 19 = .ok (.aload_n 0, 1) := by decide +kernel
theorem dX4_truth_20 : decode cX4_truth 20 = .ok (.getfield 12, 3) := by decide +kernel
theorem dX4_truth_23 : decode cX4_truth 23 = .ok (.ldc 218, 2) := by decide +kernel
theorem dX4_truth_25 : decode cX4_truth 25 = .ok (.invokevirtual 92, 3) := by decide +kernel
theorem dX4_truth_28 : decode cX4_truth 28 = .ok (.ifCond .eq 28, 3) := by decide +kernel
theorem dX4_truth_31 : decode cX4_truth 31 = .ok (.aload_n 0, 1) := by decide +kernel
theorem dX4_truth_32 : decode cX4_truth 32 = .ok (.getfield 12, 3) := by decide +kernel
theorem dX4_truth_35 : decode cX4_truth 35 = .ok (.invokevirtual 100, 3) := by decide +kernel
theorem dX4_truth_38 : decode cX4_truth 38 = .ok (.aload_n 0, 1) := by decide +kernel
theorem dX4_truth_39 : decode cX4_truth 39 = .ok (.iload_n 1, 1) := by decide +kernel
theorem dX4_truth_40 : decode cX4_truth 40 = .ok (.invokevirtual 215, 3) := by decide +kernel
theorem dX4_truth_43 : decode cX4_truth 43 = .ok (.istore_n 2, 1) := by decide +kernel
theorem dX4_truth_44 : decode cX4_truth 44 = .ok (.aload_n 0, 1) := by decide +kernel
theorem dX4_truth_45 : decode cX4_truth 45 = .ok (.bipush (-18), 2) := by decide +kernel
theorem dX4_truth_47 : decode cX4_truth 47 = .ok (.invokevirtual 171, 3) := by decide +kernel
theorem dX4_truth_50 : decode cX4_truth 50 = .ok (.iinc 3 1, 3) := by decide +kernel
theorem dX4_truth_53 : decode cX4_truth 53 = .ok (.goto (-45), 3) := by decide +kernel
theorem dX4_truth_56 : decode cX4_truth 56 = .ok (.iload_n 2, 1) := by decide +kernel
theorem dX4_truth_57 : decode cX4_truth 57 = .ok (.ireturn, 1) := by decide +kernel
theorem dX4_both_0 : decode cX4_both 0 = .ok (.aload_n 0, 1) := by decide +kernel
theorem dX4_both_1 : decode cX4_both 1 = .ok (.iload_n 1, 1) := by decide +kernel
theorem dX4_both_2 : decode cX4_both 2 = .ok (.invokevirtual 220, 3) := by decide +kernel
theorem dX4_both_5 : decode cX4_both 5 = .ok (.istore_n 2, 1) := by decide +kernel
theorem dX4_both_6 : decode cX4_both 6 = .ok (.iconst 0, 1) := by decide +kernel
theorem dX4_both_7 : decode cX4_both 7 = .ok (.istore_n 3, 1) := by decide +kernel
theorem dX4_both_8 : decode cX4_both 8 = .ok (.iload_n 3, 1) := by decide +kernel
theorem dX4_both_9 : decode cX4_both 9 = .ok (.sipush 900, 3) := by decide +kernel
theorem dX4_both_12 : decode cX4_both 12 = .ok (.if_icmp .ge 44, 3) := by decide +kernel
theorem dX4_both_15 : decode cX4_both 15 = .ok (.iload_n 2, 1) := by decide +kernel
theorem dX4_both_16 : decode cX4_both 16 = .ok (.ifCond .eq 40, 3) := by decide +kernel
theorem dX4_both_19 : decode cX4_both 19 = .ok (.aload_n 0, 1) := by decide +kernel
theorem dX4_both_20 : decode cX4_both 20 = .ok (.getfield 12, 3) := by decide +kernel
theorem dX4_both_23 : decode cX4_both 23 = .ok (.ldc 223, 2) := by decide +kernel
theorem dX4_both_25 : decode cX4_both 25 = .ok (.invokevirtual 92, 3) := by decide +kernel
theorem dX4_both_28 : decode cX4_both 28 = .ok (.ifCond .eq 28, 3) := by decide +kernel
theorem dX4_both_31 : decode cX4_both 31 = .ok (.aload_n 0, 1) := by decide +kernel
theorem dX4_both_32 : decode cX4_both 32 = .ok (.getfield 12, 3) := by decide +kernel
theorem dX4_both_35 : decode cX4_both 35 = .ok (.invokevirtual 100, 3) := by decide +kernel
theorem dX4_both_38 : decode cX4_both 38 = .ok (.aload_n 0, 1) := by decide +kernel
theorem dX4_both_39 : decode cX4_both 39 = .ok (.iload_n 1, 1) := by decide +kernel
theorem dX4_both_40 : decode cX4_both 40 = .ok (.invokevirtual 220, 3) := by decide +kernel
theorem dX4_both_43 : decode cX4_both 43 = .ok (.istore_n 2, 1) := by decide +kernel
theorem dX4_both_44 : decode cX4_both 44 = .ok (.aload_n 0, 1) := by decide +kernel
theorem dX4_both_45 : decode cX4_both 45 = .ok (.bipush (-17), 2) := by decide +kernel
theorem dX4_both_47 : decode cX4_both 47 = .ok (.invokevirtual 171, 3) := by decide +kernel
theorem dX4_both_50 : decode cX4_both 50 = .ok (.iinc 3 1, 3) := by decide +kernel
theorem dX4_both_53 : decode cX4_both 53 = .ok (.goto (-45), 3) := by decide +kernel
theorem dX4_both_56 : decode cX4_both 56 = .ok (.iload_n 2, 1) := by decide +kernel
theorem dX4_both_57 : decode cX4_both 57 = .ok (.ireturn, 1) := by decide +kernel
theorem dX4_unit_0 : decode cX4_unit 0 = .ok (.aload_n 0, 1) := by decide +kernel
theorem dX4_unit_1 : decode cX4_unit 1 = .ok (.getfield 12, 3) := by decide +kernel
theorem dX4_unit_4 : decode cX4_unit 4 = .ok (.ldc 225, 2) := by decide +kernel
theorem dX4_unit_6 : decode cX4_unit 6 = .ok (.invokevirtual 92, 3) := by decide +kernel
theorem dX4_unit_9 : decode cX4_unit 9 = .ok (.ifCond .eq 35, 3) := by decide +kernel
theorem dX4_unit_12 : decode cX4_unit 12 = .ok (.aload_n 0, 1) := by decide +kernel
theorem dX4_unit_13 : decode cX4_unit 13 = .ok (.iload_n 1, 1) := by decide +kernel
theorem dX4_unit_14 : decode cX4_unit 14 = .ok (.invokevirtual 184, 3) := by decide +kernel
theorem dX4_unit_17 : decode cX4_unit 17 = .ok (.ifCond .eq 17, 3) := by decide +kernel
theorem dX4_unit_20 : decode cX4_unit 20 = .ok (.aload_n 0, 1) := by decide +kernel
theorem dX4_unit_21 : decode cX4_unit 21 = .ok (.iload_n 1, 1) := by decide +kernel
theorem dX4_unit_22 : decode cX4_unit 22 = .ok (.iconst 1, 1) := by decide +kernel
theorem dX4_unit_23 : decode cX4_unit 23 = .ok (.iadd, 1) := by decide +kernel
theorem dX4_unit_24 : decode cX4_unit 24 = .ok (.invokevirtual 220, 3) := by decide +kernel
theorem dX4_unit_27 : decode cX4_unit 27 = .ok (.ifCond .eq 7, 3) := by decide +kernel
theorem dX4_unit_30 : decode cX4_unit 30 = .ok (.iconst 1, 1) := by decide +kernel
theorem dX4_unit_31 : decode cX4_unit 31 = .ok (.goto 4, 3) := by decide +kernel
theorem dX4_unit_34 : decode cX4_unit 34 = .ok (.iconst 0, 1) := by decide +kernel
theorem dX4_unit_35 : decode cX4_unit 35 = .ok (.istore_n 2, 1) := by decide +kernel
theorem dX4_unit_36 : decode cX4_unit 36 = .ok (.aload_n 0, 1) := by decide +kernel
theorem dX4_unit_37 : decode cX4_unit 37 = .ok (.bipush (-19), 2) := by decide +kernel
theorem dX4_unit_39 : decode cX4_unit 39 = .ok (.invokevirtual 171, 3) := by decide +kernel
theorem dX4_unit_42 : decode cX4_unit 42 = .ok (.iload_n 2, 1) := by decide +kernel
theorem dX4_unit_43 : decode cX4_unit 43 = .ok (.ireturn, 1) := by decide +kernel
theorem dX4_unit_44 : decode cX4_unit 44 = .ok (.aload_n 0, 1) := by decide +kernel
theorem dX4_unit_45 : decode cX4_unit 45 = .ok (.getfield 12, 3) := by decide +kernel
theorem dX4_unit_48 : decode cX4_unit 48 = .ok (.ldc 227, 2) := by decide +kernel
theorem dX4_unit_50 : decode cX4_unit 50 = .ok (.invokevirtual 92, 3) := by decide +kernel
theorem dX4_unit_53 : decode cX4_unit 53 = .ok (.ifCond .eq 36, 3) := by decide +kernel
theorem dX4_unit_56 : decode cX4_unit 56 = .ok (.aload_n 0, 1) := by decide +kernel
theorem dX4_unit_57 : decode cX4_unit 57 = .ok (.iload_n 1, 1) := by decide +kernel
theorem dX4_unit_58 : decode cX4_unit 58 = .ok (.invokevirtual 184, 3) := by decide +kernel
theorem dX4_unit_61 : decode cX4_unit 61 = .ok (.ifCond .eq 26, 3) := by decide +kernel
theorem dX4_unit_64 : decode cX4_unit 64 = .ok (.aload_n 0, 1) := by decide +kernel
theorem dX4_unit_65 : decode cX4_unit 65 = .ok (.iload_n 1, 1) := by decide +kernel
theorem dX4_unit_66 : decode cX4_unit 66 = .ok (.iconst 1, 1) := by decide +kernel
theorem dX4_unit_67 : decode cX4_unit 67 = .ok (.iadd, 1) := by decide +kernel
theorem dX4_unit_68 : decode cX4_unit 68 = .ok (.invokevirtual 160, 3) := by decide +kernel
theorem dX4_unit_71 : decode cX4_unit 71 = .ok (.ifCond .eq 16, 3) := by decide +kernel
theorem dX4_unit_74 : decode cX4_unit 74 = .ok (.aload_n 0, 1) := by decide +kernel
theorem dX4_unit_75 : decode cX4_unit 75 = .ok (.ldc 229, 2) := by decide +kernel
theorem dX4_unit_77 : decode cX4_unit 77 = .ok (.invokevirtual 108, 3) := by decide +kernel
theorem dX4_unit_80 : decode cX4_unit 80 = .ok (.ifCond .eq 7, 3) := by decide +kernel
theorem dX4_unit_83 : decode cX4_unit 83 = .ok (.iconst 1, 1) := by decide +kernel
theorem dX4_unit_84 : decode cX4_unit 84 = .ok (.goto 4, 3) := by decide +kernel
theorem dX4_unit_87 : decode cX4_unit 87 = .ok (.iconst 0, 1) := by decide +kernel
theorem dX4_unit_88 : decode cX4_unit 88 = .ok (.ireturn, 1) := by decide +kernel
theorem dX4_unit_89 : decode cX4_unit 89 = .ok (.aload_n 0, 1) := by decide +kernel
theorem dX4_unit_90 : decode cX4_unit 90 = .ok (.iload_n 1, 1) := by decide +kernel
theorem dX4_unit_91 : decode cX4_unit 91 = .ok (.invokevirtual 152, 3) := by decide +kernel
theorem dX4_unit_94 : decode cX4_unit 94 = .ok (.ifCond .eq 15, 3) := by decide +kernel
theorem dX4_unit_97 : decode cX4_unit 97 = .ok (.aload_n 0, 1) := by decide +kernel
theorem dX4_unit_98 : decode cX4_unit 98 = .ok (.iload_n 1, 1) := by decide +kernel
theorem dX4_unit_99 : decode cX4_unit 99 = .ok (.invokevirtual 231, 3) := by decide +kernel
theorem dX4_unit_102 : decode cX4_unit 102 = .ok (.ifCond .eq 7, 3) := by decide +kernel
theorem dX4_unit_105 : decode cX4_unit 105 = .ok (.iconst 1, 1) := by decide +kernel
theorem dX4_unit_106 : decode cX4_unit 106 = .ok (.goto 4, 3) := by decide +kernel
theorem dX4_unit_109 : decode cX4_unit 109 = .ok (.iconst 0, 1) := by decide +kernel
theorem dX4_unit_110 : decode cX4_unit 110 = .ok (.ireturn, 1) := by decide +kernel
theorem dX4_comparison_0 : decode cX4_comparison 0 = .ok (.bipush (-14), 2) := by decide +kernel
theorem dX4_comparison_2 : decode cX4_comparison 2 = .ok (.istore_n 2, 1) := by decide +kernel
theorem dX4_comparison_3 : decode cX4_comparison 3 = .ok (.aload_n 0, 1) := by decide +kernel
theorem dX4_comparison_4 : decode cX4_comparison 4 = .ok (.getfield 12, 3) := by decide +kernel
theorem dX4_comparison_7 : decode cX4_comparison 7 = .ok (.ldc 234, 2) := by decide +kernel
theorem dX4_comparison_9 : decode cX4_comparison 9 = .ok (.invokevirtual 92, 3) := by decide +kernel
theorem dX4_comparison_12 : decode cX4_comparison 12 = .ok (.ifCond .eq 9, 3) := by decide +kernel
theorem dX4_comparison_15 : decode cX4_comparison 15 = .ok (.bipush (-15), 2) := by decide +kernel
theorem dX4_comparison_17 : decode cX4_comparison 17 = .ok (.istore_n 2, 1) := by decide +kernel
theorem dX4_comparison_18 : decode cX4_comparison 18 = .ok (.goto 39, 3) := by decide +kernel
theorem dX4_comparison_21 : decode cX4_comparison 21 = .ok (.aload_n 0, 1) := by decide +kernel
theorem dX4_comparison_22 : decode cX4_comparison 22 = .ok (.getfield 12, 3) := by decide +kernel
theorem dX4_comparison_25 : decode cX4_comparison 25 = .ok (.ldc 236, 2) := by decide +kernel
theorem dX4_comparison_27 : decode cX4_comparison 27 = .ok (.invokevirtual 92, 3) := by decide +kernel
theorem dX4_comparison_30 : decode cX4_comparison 30 = .ok (.ifCond .eq 9, 3) := by decide +kernel
theorem dX4_comparison_33 : decode cX4_comparison 33 = .ok (.bipush (-16), 2) := by decide +kernel
theorem dX4_comparison_35 : decode cX4_comparison 35 = .ok (.istore_n 2, 1) := by decide +kernel
theorem dX4_comparison_36 : decode cX4_comparison 36 = .ok (.goto 21, 3) := by decide +kernel
theorem dX4_comparison_39 : decode cX4_comparison 39 = .ok (.aload_n 0, 1) := by decide +kernel
theorem dX4_comparison_40 : decode cX4_comparison 40 = .ok (.getfield 12, 3) := by decide +kernel
theorem dX4_comparison_43 : decode cX4_comparison 43 = .ok (.ldc 238, 2) := by decide +kernel
theorem dX4_comparison_45 : decode cX4_comparison 45 = .ok (.invokevirtual 92, 3) := by decide +kernel
theorem dX4_comparison_48 : decode cX4_comparison 48 = .ok (.ifCond .ne 9, 3) := by decide +kernel
theorem dX4_comparison_51 : decode cX4_comparison 51 = .ok (.aload_n 0, 1) := by decide +kernel
theorem dX4_comparison_52 : decode cX4_comparison 52 = .ok (.iconst 2, 1) := by decide +kernel
theorem dX4_comparison_53 : decode cX4_comparison 53 = .ok (.invokevirtual 96, 3) := by decide +kernel
theorem dX4_comparison_56 : decode cX4_comparison 56 = .ok (.ireturn, 1) := by decide +kernel
theorem dX4_comparison_57 : decode cX4_comparison 57 = .ok (.aload_n 0, 1) := by decide +kernel
theorem dX4_comparison_58 : decode cX4_comparison 58 = .ok (.getfield 12, 3) := by decide +kernel
theorem dX4_comparison_61 : decode cX4_comparison 61 = .ok (.invokevirtual 100, 3) := by decide +kernel
theorem dX4_comparison_64 : decode cX4_comparison 64 = .ok (.aload_n 0, 1) := by decide +kernel
theorem dX4_comparison_65 : decode cX4_comparison 65 = .ok (.iload_n 1, 1) := by decide +kernel
theorem dX4_comparison_66 : decode cX4_comparison 66 = .ok (.invokevirtual 152, 3) := by decide +kernel
theorem dX4_comparison_69 : decode cX4_comparison 69 = .ok (.istore_n 3, 1) := by decide +kernel
theorem dX4_comparison_70 : decode cX4_comparison 70 = .ok (.aload_n 0, 1) := by decide +kernel
theorem dX4_comparison_71 : decode cX4_comparison 71 = .ok (.iload_n 2, 1) := by decide +kernel
theorem dX4_comparison_72 : decode cX4_comparison 72 = .ok (.invokevirtual 171, 3) := by decide +kernel
theorem dX4_comparison_75 : decode cX4_comparison 75 = .ok (.iload_n 3, 1) := by decide +kernel
theorem dX4_comparison_76 : decode cX4_comparison 76 = .ok (.ireturn, 1) := by decide +kernel
theorem dX5_init_0 : decode cX5_init 0 = .ok (.aload_n 0, 1) := by decide +kernel
theorem dX5_init_1 : decode cX5_init 1 = .ok (.invokespecial 3, 3) := by decide +kernel
theorem dX5_init_4 : decode cX5_init 4 = .ok (.aload_n 0, 1) := by decide +kernel
theorem dX5_init_5 : decode cX5_init 5 = .ok (.bipush 10, 2) := by decide +kernel
theorem dX5_init_7 : decode cX5_init 7 = .ok (.anewarray 9, 3) := by decide +kernel
theorem dX5_init_10 : decode cX5_init 10 = .ok (.putfield 11, 3) := by decide +kernel
theorem dX5_init_13 : decode cX5_init 13 = .ok (.aload_n 0, 1) := by decide +kernel
theorem dX5_init_14 : decode cX5_init 14 = .ok (.iconst 0, 1) := by decide +kernel
theorem dX5_init_15 : decode cX5_init 15 = .ok (.putfield 17, 3) := by decide +kernel
theorem dX5_init_18 : decode cX5_init 18 = .ok (.aload_n 0, 1) := by decide +kernel
theorem dX5_init_19 : decode cX5_init 19 = .ok (.iconst 0, 1) := by decide +kernel
theorem dX5_init_20 : decode cX5_init 20 = .ok (.putfield 21, 3) := by decide +kernel
theorem dX5_init_23 : decode cX5_init 23 = .ok (.iconst 0, 1) := by decide +kernel
theorem dX5_init_24 : decode cX5_init 24 = .ok (.istore_n 1, 1) := by decide +kernel
theorem dX5_init_25 : decode cX5_init 25 = .ok (.iload_n 1, 1) := by decide +kernel
theorem dX5_init_26 : decode cX5_init 26 = .ok (.bipush 10, 2) := by decide +kernel
theorem dX5_init_28 : decode cX5_init 28 = .ok (.if_icmp .ge 22, 3) := by decide +kernel
theorem dX5_init_31 : decode cX5_init 31 = .ok (.aload_n 0, 1) := by decide +kernel
theorem dX5_init_32 : decode cX5_init 32 = .ok (.getfield 11, 3) := by decide +kernel
theorem dX5_init_35 : decode cX5_init 35 = .ok (.iload_n 1, 1) := by decide +kernel
theorem dX5_init_36 : decode cX5_init 36 = .ok (.new 9, 3) := by decide +kernel
theorem dX5_init_39 : decode cX5_init 39 = .ok (.dup, 1) := by decide +kernel
theorem dX5_init_40 : decode cX5_init 40 = .ok (.invokespecial 24, 3) := by decide +kernel
theorem dX5_init_43 : decode cX5_init 43 = .ok (.aastore, 1) := by decide +kernel
theorem dX5_init_44 : decode cX5_init 44 = .ok (.iinc 1 1, 3) := by decide +kernel
theorem dX5_init_47 : decode cX5_init 47 = .ok (.goto (-22), 3) := by decide +kernel
theorem dX5_init_50 : decode cX5_init 50 = .ok (.return_, 1) := by decide +kernel
theorem dX5_remember_0 : decode cX5_remember 0 = .ok (.aload_n 0, 1) := by decide +kernel
theorem dX5_remember_1 : decode cX5_remember 1 = .ok (.getfield 11, 3) := by decide +kernel
theorem dX5_remember_4 : decode cX5_remember 4 = .ok (.aload_n 0, 1) := by decide +kernel
theorem dX5_remember_5 : decode cX5_remember 5 = .ok (.getfield 17, 3) := by decide +kernel
theorem dX5_remember_8 : decode cX5_remember 8 = .ok (.aaload, 1) := by decide +kernel
theorem dX5_remember_9 : decode cX5_remember 9 = .ok (.aload_n 1, 1) := by decide +kernel
theorem dX5_remember_10 : decode cX5_remember 10 = .ok (.invokevirtual 25, 3) := by decide +kernel
theorem dX5_remember_13 : decode cX5_remember 13 = .ok (.aload_n 0, 1) := by decide +kernel
theorem dX5_remember_14 : decode cX5_remember 14 = .ok (.aload_n 0, 1) := by decide +kernel
theorem dX5_remember_15 : decode cX5_remember 15 = .ok (.getfield 17, 3) := by decide +kernel
theorem dX5_remember_18 : decode cX5_remember 18 = .ok (.iconst 1, 1) := by decide +kernel
theorem dX5_remember_19 : decode cX5_remember 19 = .ok (.iadd, 1) := by decide +kernel
theorem dX5_remember_20 : decode cX5_remember 20 = .ok (.bipush 10, 2) := by decide +kernel
theorem dX5_remember_22 : decode cX5_remember 22 = .ok (.irem, 1) := by decide +kernel
theorem dX5_remember_23 : decode cX5_remember 23 = .ok (.putfield 17, 3) := by decide +kernel
theorem dX5_remember_26 : decode cX5_remember 26 = .ok (.aload_n 0, 1) := by decide +kernel
theorem dX5_remember_27 : decode cX5_remember 27 = .ok (.aload_n 0, 1) := by decide +kernel
theorem dX5_remember_28 : decode cX5_remember 28 = .ok (.getfield 21, 3) := by decide +kernel
theorem dX5_remember_31 : decode cX5_remember 31 = .ok (.iconst 1, 1) := by decide +kernel
theorem dX5_remember_32 : decode cX5_remember 32 = .ok (.iadd, 1) := by decide +kernel
theorem dX5_remember_33 : decode cX5_remember 33 = .ok (.bipush 10, 2) := by decide +kernel
theorem dX5_remember_35 : decode cX5_remember 35 = .ok (.invokestatic 29, 3) := by decide +kernel
theorem dX5_remember_38 : decode cX5_remember 38 = .ok (.putfield 21, 3) := by decide +kernel
theorem dX5_remember_41 : decode cX5_remember 41 = .ok (.return_, 1) := by decide +kernel
theorem dX5_bringBack_0 : decode cX5_bringBack 0 = .ok (.aload_n 0, 1) := by decide +kernel
theorem dX5_bringBack_1 : decode cX5_bringBack 1 = .ok (.getfield 21, 3) := by decide +kernel
theorem dX5_bringBack_4 : decode cX5_bringBack 4 = .ok (.ifCond .le 42, 3) := by decide +kernel
theorem dX5_bringBack_7 : decode cX5_bringBack 7 = .ok (.aload_n 0, 1) := by decide +kernel
theorem dX5_bringBack_8 : decode cX5_bringBack 8 = .ok (.aload_n 0, 1) := by decide +kernel
theorem dX5_bringBack_9 : decode cX5_bringBack 9 = .ok (.getfield 17, 3) := by decide +kernel
theorem dX5_bringBack_12 : decode cX5_bringBack 12 = .ok (.bipush 10, 2) := by decide +kernel
theorem dX5_bringBack_14 : decode cX5_bringBack 14 = .ok (.iadd, 1) := by decide +kernel
theorem dX5_bringBack_15 : decode cX5_bringBack 15 = .ok (.iconst 1, 1) := by decide +kernel
theorem dX5_bringBack_16 : decode cX5_bringBack 16 = .ok (.isub, 1) := by decide +kernel
theorem dX5_bringBack_17 : decode cX5_bringBack 17 = .ok (.bipush 10, 2) := by decide +kernel
theorem dX5_bringBack_19 : decode cX5_bringBack 19 = .ok (.irem, 1) := by decide +kernel
theorem dX5_bringBack_20 : decode cX5_bringBack 20 = .ok (.putfield 17, 3) := by decide +kernel
theorem dX5_bringBack_23 : decode cX5_bringBack 23 = .ok (.aload_n 1, 1) := by decide +kernel
theorem dX5_bringBack_24 : decode cX5_bringBack 24 = .ok (.aload_n 0, 1) := by decide +kernel
theorem dX5_bringBack_25 : decode cX5_bringBack 25 = .ok (.getfield 11, 3) := by decide +kernel
theorem dX5_bringBack_28 : decode cX5_bringBack 28 = .ok (.aload_n 0, 1) := by decide +kernel
theorem dX5_bringBack_29 : decode cX5_bringBack 29 = .ok (.getfield 17, 3) := by decide +kernel
theorem dX5_bringBack_32 : decode cX5_bringBack 32 = .ok (.aaload, 1) := by decide +kernel
theorem dX5_bringBack_33 : decode cX5_bringBack 33 = .ok (.invokevirtual 25, 3) := by decide +kernel
theorem dX5_bringBack_36 : decode cX5_bringBack 36 = .ok (.aload_n 0, 1) := by decide +kernel
theorem dX5_bringBack_37 : decode cX5_bringBack 37 = .ok (.dup, 1) := by decide +kernel
theorem dX5_bringBack_38 : decode cX5_bringBack 38 = .ok (.getfield 21, 3) := by decide +kernel
theorem dX5_bringBack_41 : decode cX5_bringBack 41 = .ok (.iconst 1, 1) := by decide +kernel
theorem dX5_bringBack_42 : decode cX5_bringBack 42 = .ok (.isub, 1) := by decide +kernel
theorem dX5_bringBack_43 : decode cX5_bringBack 43 = .ok (.putfield 21, 3) := by decide +kernel
theorem dX5_bringBack_46 : decode cX5_bringBack 46 = .ok (.return_, 1) := by decide +kernel
theorem dX5_forget_0 : decode cX5_forget 0 = .ok (.aload_n 0, 1) := by decide +kernel
theorem dX5_forget_1 : decode cX5_forget 1 = .ok (.iconst 0, 1) := by decide +kernel
theorem dX5_forget_2 : decode cX5_forget 2 = .ok (.putfield 21, 3) := by decide +kernel
theorem dX5_forget_5 : decode cX5_forget 5 = .ok (.return_, 1) := by decide +kernel
theorem dX6_init_0 : decode cX6_init 0 = .ok (.aload_n 0, 1) := by decide +kernel
theorem dX6_init_1 : decode cX6_init 1 = .ok (.invokespecial 1, 3) := by decide +kernel
theorem dX6_init_4 : decode cX6_init 4 = .ok (.aload_n 0, 1) := by decide +kernel
theorem dX6_init_5 : decode cX6_init 5 = .ok (.iconst 0, 1) := by decide +kernel
theorem dX6_init_6 : decode cX6_init 6 = .ok (.newarray .byte, 2) := by decide +kernel
theorem dX6_init_8 : decode cX6_init 8 = .ok (.putfield 7, 3) := by decide +kernel
theorem dX6_init_11 : decode cX6_init 11 = .ok (.aload_n 0, 1) := by decide +kernel
theorem dX6_init_12 : decode cX6_init 12 = .ok (.iconst 0, 1) := by decide +kernel
theorem dX6_init_13 : decode cX6_init 13 = .ok (.putfield 13, 3) := by decide +kernel
theorem dX6_init_16 : decode cX6_init 16 = .ok (.aload_n 0, 1) := by decide +kernel
theorem dX6_init_17 : decode cX6_init 17 = .ok (.iconst 0, 1) := by decide +kernel
theorem dX6_init_18 : decode cX6_init 18 = .ok (.putfield 17, 3) := by decide +kernel
theorem dX6_init_21 : decode cX6_init 21 = .ok (.aload_n 0, 1) := by decide +kernel
theorem dX6_init_22 : decode cX6_init 22 = .ok (.iconst 0, 1) := by decide +kernel
theorem dX6_init_23 : decode cX6_init 23 = .ok (.putfield 20, 3) := by decide +kernel
theorem dX6_init_26 : decode cX6_init 26 = .ok (.aload_n 0, 1) := by decide +kernel
theorem dX6_init_27 : decode cX6_init 27 = .ok (.iconst 0, 1) := by decide +kernel
theorem dX6_init_28 : decode cX6_init 28 = .ok (.putfield 23, 3) := by decide +kernel
theorem dX6_init_31 : decode cX6_init 31 = .ok (.aload_n 0, 1) := by decide +kernel
theorem dX6_init_32 : decode cX6_init 32 = .ok (.iconst 0, 1) := by decide +kernel
theorem dX6_init_33 : decode cX6_init 33 = .ok (.putfield 26, 3) := by decide +kernel
theorem dX6_init_36 : decode cX6_init 36 = .ok (.return_, 1) := by decide +kernel
theorem dX6_open_0 : decode cX6_open 0 = .ok (.aload_n 0, 1) := by decide +kernel
theorem dX6_open_1 : decode cX6_open 1 = .ok (.aload_n 1, 1) := by decide +kernel
theorem dX6_open_2 : decode cX6_open 2 = .ok (.putfield 7, 3) := by decide +kernel
theorem dX6_open_5 : decode cX6_open 5 = .ok (.aload_n 0, 1) := by decide +kernel
theorem dX6_open_6 : decode cX6_open 6 = .ok (.iload_n 2, 1) := by decide +kernel
theorem dX6_open_7 : decode cX6_open 7 = .ok (.aload_n 1, 1) := by decide +kernel
theorem dX6_open_8 : decode cX6_open 8 = .ok (.arraylength, 1) := by decide +kernel
theorem dX6_open_9 : decode cX6_open 9 = .ok (.invokestatic 29, 3) := by decide +kernel
theorem dX6_open_12 : decode cX6_open 12 = .ok (.putfield 13, 3) := by decide +kernel
theorem dX6_open_15 : decode cX6_open 15 = .ok (.aload_n 0, 1) := by decide +kernel
theorem dX6_open_16 : decode cX6_open 16 = .ok (.iconst 0, 1) := by decide +kernel
theorem dX6_open_17 : decode cX6_open 17 = .ok (.putfield 17, 3) := by decide +kernel
theorem dX6_open_20 : decode cX6_open 20 = .ok (.aload_n 0, 1) := by decide +kernel
theorem dX6_open_21 : decode cX6_open 21 = .ok (.invokevirtual 35, 3) := by decide +kernel
theorem dX6_open_24 : decode cX6_open 24 = .ok (.return_, 1) := by decide +kernel
theorem dX6_advance_0 : decode cX6_advance 0 = .ok (.aload_n 0, 1) := by decide +kernel
theorem dX6_advance_1 : decode cX6_advance 1 = .ok (.getfield 17, 3) := by decide +kernel
theorem dX6_advance_4 : decode cX6_advance 4 = .ok (.aload_n 0, 1) := by decide +kernel
theorem dX6_advance_5 : decode cX6_advance 5 = .ok (.getfield 13, 3) := by decide +kernel
theorem dX6_advance_8 : decode cX6_advance 8 = .ok (.if_icmp .ge 44, 3) := by decide +kernel
theorem dX6_advance_11 : decode cX6_advance 11 = .ok (.aload_n 0, 1) := by decide +kernel
theorem dX6_advance_12 : decode cX6_advance 12 = .ok (.getfield 7, 3) := by decide +kernel
theorem dX6_advance_15 : decode cX6_advance 15 = .ok (.aload_n 0, 1) := by decide +kernel
theorem dX6_advance_16 : decode cX6_advance 16 = .ok (.getfield 17, 3) := by decide +kernel
theorem dX6_advance_19 : decode cX6_advance 19 = .ok (.baload, 1) := by decide +kernel
theorem dX6_advance_20 : decode cX6_advance 20 = .ok (.bipush 32, 2) := by decide +kernel
theorem dX6_advance_22 : decode cX6_advance 22 = .ok (.if_icmp .eq 17, 3) := by decide +kernel
theorem dX6_advance_25 : decode cX6_advance 25 = .ok (.aload_n 0, 1) := by decide +kernel
theorem dX6_advance_26 : decode cX6_advance 26 = .ok (.getfield 7, 3) := by decide +kernel
theorem dX6_advance_29 : decode cX6_advance 29 = .ok (.aload_n 0, 1) := by decide +kernel
theorem dX6_advance_30 : decode cX6_advance 30 = .ok (.getfield 17, 3) := by decide +kernel
theorem dX6_advance_33 : decode cX6_advance 33 = .ok (.baload, 1) := by decide +kernel
theorem dX6_advance_34 : decode cX6_advance 34 = .ok (.bipush 10, 2) := by decide +kernel
theorem dX6_advance_36 : decode cX6_advance 36 = .ok (.if_icmp .ne 16, 3) := by decide +kernel
theorem dX6_advance_39 : decode cX6_advance 39 = .ok (.aload_n 0, 1) := by decide +kernel
theorem dX6_advance_40 : decode cX6_advance 40 = .ok (.dup, 1) := by decide +kernel
theorem dX6_advance_41 : decode cX6_advance 41 = .ok (.getfield 17, 3) := by decide +kernel
theorem dX6_advance_44 : decode cX6_advance 44 = .ok (.iconst 1, 1) := by decide +kernel
theorem dX6_advance_45 : decode cX6_advance 45 = .ok (.iadd, 1) := by decide +kernel
theorem dX6_advance_46 : decode cX6_advance 46 = .ok (.putfield 17, 3) := by decide +kernel
theorem dX6_advance_49 : decode cX6_advance 49 = .ok (.goto (-49), 3) := by decide +kernel
theorem dX6_advance_52 : decode cX6_advance 52 = .ok (.aload_n 0, 1) := by decide +kernel
theorem dX6_advance_53 : decode cX6_advance 53 = .ok (.aload_n 0, 1) := by decide +kernel
theorem dX6_advance_54 : decode cX6_advance 54 = .ok (.getfield 17, 3) := by decide +kernel
theorem dX6_advance_57 : decode cX6_advance 57 = .ok (.putfield 23, 3) := by decide +kernel
theorem dX6_advance_60 : decode cX6_advance 60 = .ok (.aload_n 0, 1) := by decide +kernel
theorem dX6_advance_61 : decode cX6_advance 61 = .ok (.getfield 17, 3) := by decide +kernel
theorem dX6_advance_64 : decode cX6_advance 64 = .ok (.aload_n 0, 1) := by decide +kernel
theorem dX6_advance_65 : decode cX6_advance 65 = .ok (.getfield 13, 3) := by decide +kernel
theorem dX6_advance_68 : decode cX6_advance 68 = .ok (.if_icmp .lt 11, 3) := by decide +kernel
theorem dX6_advance_71 : decode cX6_advance 71 = .ok (.aload_n 0, 1) := by decide +kernel
theorem dX6_advance_72 : decode cX6_advance 72 = .ok (.iconst 0, 1) := by decide +kernel
theorem dX6_advance_73 : decode cX6_advance 73 = .ok (.putfield 20, 3) := by decide +kernel
theorem dX6_advance_76 : decode cX6_advance 76 = .ok (.goto 122, 3) := by decide +kernel
theorem dX6_advance_79 : decode cX6_advance 79 = .ok (.aload_n 0, 1) := by decide +kernel
theorem dX6_advance_80 : decode cX6_advance 80 = .ok (.getfield 7, 3) := by decide +kernel
theorem dX6_advance_83 : decode cX6_advance 83 = .ok (.aload_n 0, 1) := by decide +kernel
theorem dX6_advance_84 : decode cX6_advance 84 = .ok (.getfield 17, 3) := by decide +kernel
theorem dX6_advance_87 : decode cX6_advance 87 = .ok (.baload, 1) := by decide +kernel
theorem dX6_advance_88 : decode cX6_advance 88 = .ok (.bipush 97, 2) := by decide +kernel
theorem dX6_advance_90 : decode cX6_advance 90 = .ok (.if_icmp .lt 24, 3) := by decide +kernel
theorem dX6_advance_93 : decode cX6_advance 93 = .ok (.aload_n 0, 1) := by decide +kernel
theorem dX6_advance_94 : decode cX6_advance 94 = .ok (.getfield 7, 3) := by decide +kernel
theorem dX6_advance_97 : decode cX6_advance 97 = .ok (.aload_n 0, 1) := by decide +kernel
theorem dX6_advance_98 : decode cX6_advance 98 = .ok (.getfield 17, 3) := by decide +kernel
theorem dX6_advance_101 : decode cX6_advance 101 = .ok (.baload, 1) := by decide +kernel
theorem dX6_advance_102 : decode cX6_advance 102 = .ok (.bipush 122, 2) := by decide +kernel
theorem dX6_advance_104 : decode cX6_advance 104 = .ok (.if_icmp .gt 10, 3) := by decide +kernel
theorem dX6_advance_107 : decode cX6_advance 107 = .ok (.aload_n 0, 1) := by decide +kernel
theorem dX6_advance_108 : decode cX6_advance 108 = .ok (.invokevirtual 38, 3) := by decide +kernel
theorem dX6_advance_111 : decode cX6_advance 111 = .ok (.goto 87, 3) := by decide +kernel
theorem dX6_advance_114 : decode cX6_advance 114 = .ok (.aload_n 0, 1) := by decide +kernel
theorem dX6_advance_115 : decode cX6_advance 115 = .ok (.getfield 7, 3) := by decide +kernel
theorem dX6_advance_118 : decode cX6_advance 118 = .ok (.aload_n 0, 1) := by decide +kernel
theorem dX6_advance_119 : decode cX6_advance 119 = .ok (.getfield 17, 3) := by decide +kernel
theorem dX6_advance_122 : decode cX6_advance 122 = .ok (.baload, 1) := by decide +kernel
theorem dX6_advance_123 : decode cX6_advance 123 = .ok (.bipush 48, 2) := by decide +kernel
theorem dX6_advance_125 : decode cX6_advance 125 = .ok (.if_icmp .lt 24, 3) := by decide +kernel
theorem dX6_advance_128 : decode cX6_advance 128 = .ok (.aload_n 0, 1) := by decide +kernel
theorem dX6_advance_129 : decode cX6_advance 129 = .ok (.getfield 7, 3) := by decide +kernel
theorem dX6_advance_132 : decode cX6_advance 132 = .ok (.aload_n 0, 1) := by decide +kernel
theorem dX6_advance_133 : decode cX6_advance 133 = .ok (.getfield 17, 3) := by decide +kernel
theorem dX6_advance_136 : decode cX6_advance 136 = .ok (.baload, 1) := by decide +kernel
theorem dX6_advance_137 : decode cX6_advance 137 = .ok (.bipush 57, 2) := by decide +kernel
theorem dX6_advance_139 : decode cX6_advance 139 = .ok (.if_icmp .gt 10, 3) := by decide +kernel
theorem dX6_advance_142 : decode cX6_advance 142 = .ok (.aload_n 0, 1) := by decide +kernel
theorem dX6_advance_143 : decode cX6_advance 143 = .ok (.invokevirtual 41, 3) := by decide +kernel
theorem dX6_advance_146 : decode cX6_advance 146 = .ok (.goto 52, 3) := by decide +kernel
theorem dX6_advance_149 : decode cX6_advance 149 = .ok (.aload_n 0, 1) := by decide +kernel
theorem dX6_advance_150 : decode cX6_advance 150 = .ok (.aload_n 0, 1) := by decide +kernel
theorem dX6_advance_151 : decode cX6_advance 151 = .ok (.getfield 7, 3) := by decide +kernel
theorem dX6_advance_154 : decode cX6_advance 154 = .ok (.aload_n 0, 1) := by decide +kernel
theorem dX6_advance_155 : decode cX6_advance 155 = .ok (.getfield 17, 3) := by decide +kernel
theorem dX6_advance_158 : decode cX6_advance 158 = .ok (.baload, 1) := by decide +kernel
theorem dX6_advance_159 : decode cX6_advance 159 = .ok (.ifCond .le 25, 3) := by decide +kernel
theorem dX6_advance_162 : decode cX6_advance 162 = .ok (.ldc 44, 2) := by decide +kernel
theorem dX6_advance_164 : decode cX6_advance 164 = .ok (.aload_n 0, 1) := by decide +kernel
theorem dX6_advance_165 : decode cX6_advance 165 = .ok (.getfield 7, 3) := by decide +kernel
theorem dX6_advance_168 : decode cX6_advance 168 = .ok (.aload_n 0, 1) := by decide +kernel
theorem dX6_advance_169 : decode cX6_advance 169 = .ok (.getfield 17, 3) := by decide +kernel
theorem dX6_advance_172 : decode cX6_advance 172 = .ok (.baload, 1) := by decide +kernel
theorem dX6_advance_173 : decode cX6_advance 173 = .ok (.i2c, 1) := by decide +kernel
theorem dX6_advance_174 : decode cX6_advance 174 = .ok (.invokevirtual 46, 3) := by decide +kernel
theorem dX6_advance_177 : decode cX6_advance 177 = .ok (.ifCond .lt 7, 3) := by decide +kernel
theorem dX6_advance_180 : decode cX6_advance 180 = .ok (.iconst 3, 1) := by decide +kernel
theorem dX6_advance_181 : decode cX6_advance 181 = .ok (.goto 4, 3) := by decide +kernel
theorem dX6_advance_184 : decode cX6_advance 184 = .ok (.iconst 4, 1) := by decide +kernel
theorem dX6_advance_185 : decode cX6_advance 185 = .ok (.putfield 20, 3) := by decide +kernel
theorem dX6_advance_188 : decode cX6_advance 188 = .ok (.aload_n 0, 1) := by decide +kernel
theorem dX6_advance_189 : decode cX6_advance 189 = .ok (.dup, 1) := by decide +kernel
theorem dX6_advance_190 : decode cX6_advance 190 = .ok (.getfield 17, 3) := by decide +kernel
theorem dX6_advance_193 : decode cX6_advance 193 = .ok (.iconst 1, 1) := by decide +kernel
theorem dX6_advance_194 : decode cX6_advance 194 = .ok (.iadd, 1) := by decide +kernel
theorem dX6_advance_195 : decode cX6_advance 195 = .ok (.putfield 17, 3) := by decide +kernel
theorem dX6_advance_198 : decode cX6_advance 198 = .ok (.return_, 1) := by decide +kernel
theorem dX6_readWord_0 : decode cX6_readWord 0 = .ok (.aload_n 0, 1) := by decide +kernel
theorem dX6_readWord_1 : decode cX6_readWord 1 = .ok (.iconst 1, 1) := by decide +kernel
theorem dX6_readWord_2 : decode cX6_readWord 2 = .ok (.putfield 20, 3) := by decide +kernel
theorem dX6_readWord_5 : decode cX6_readWord 5 = .ok (.aload_n 0, 1) := by decide +kernel
theorem dX6_readWord_6 : decode cX6_readWord 6 = .ok (.getfield 17, 3) := by decide +kernel
theorem dX6_readWord_9 : decode cX6_readWord 9 = .ok (.aload_n 0, 1) := by decide +kernel
theorem dX6_readWord_10 : decode cX6_readWord 10 = .ok (.getfield 13, 3) := by decide +kernel
theorem dX6_readWord_13 : decode cX6_readWord 13 = .ok (.if_icmp .ge 44, 3) := by decide +kernel
theorem dX6_readWord_16 : decode cX6_readWord 16 = .ok (.aload_n 0, 1) := by decide +kernel
theorem dX6_readWord_17 : decode cX6_readWord 17 = .ok (.getfield 7, 3) := by decide +kernel
theorem dX6_readWord_20 : decode cX6_readWord 20 = .ok (.aload_n 0, 1) := by decide +kernel
theorem dX6_readWord_21 : decode cX6_readWord 21 = .ok (.getfield 17, 3) := by decide +kernel
theorem dX6_readWord_24 : decode cX6_readWord 24 = .ok (.baload, 1) := by decide +kernel
theorem dX6_readWord_25 : decode cX6_readWord 25 = .ok (.bipush 97, 2) := by decide +kernel
theorem dX6_readWord_27 : decode cX6_readWord 27 = .ok (.if_icmp .lt 30, 3) := by decide +kernel
theorem dX6_readWord_30 : decode cX6_readWord 30 = .ok (.aload_n 0, 1) := by decide +kernel
theorem dX6_readWord_31 : decode cX6_readWord 31 = .ok (.getfield 7, 3) := by decide +kernel
theorem dX6_readWord_34 : decode cX6_readWord 34 = .ok (.aload_n 0, 1) := by decide +kernel
theorem dX6_readWord_35 : decode cX6_readWord 35 = .ok (.getfield 17, 3) := by decide +kernel
theorem dX6_readWord_38 : decode cX6_readWord 38 = .ok (.baload, 1) := by decide +kernel
theorem dX6_readWord_39 : decode cX6_readWord 39 = .ok (.bipush 122, 2) := by decide +kernel
theorem dX6_readWord_41 : decode cX6_readWord 41 = .ok (.if_icmp .gt 16, 3) := by decide +kernel
theorem dX6_readWord_44 : decode cX6_readWord 44 = .ok (.aload_n 0, 1) := by decide +kernel
theorem dX6_readWord_45 : decode cX6_readWord 45 = .ok (.dup, 1) := by decide +kernel
theorem dX6_readWord_46 : decode cX6_readWord 46 = .ok (.getfield 17, 3) := by decide +kernel
theorem dX6_readWord_49 : decode cX6_readWord 49 = .ok (.iconst 1, 1) := by decide +kernel
theorem dX6_readWord_50 : decode cX6_readWord 50 = .ok (.iadd, 1) := by decide +kernel
theorem dX6_readWord_51 : decode cX6_readWord 51 = .ok (.putfield 17, 3) := by decide +kernel
theorem dX6_readWord_54 : decode cX6_readWord 54 = .ok (.goto (-49), 3) := by decide +kernel
theorem dX6_readWord_57 : decode cX6_readWord 57 = .ok (.return_, 1) := by decide +kernel
