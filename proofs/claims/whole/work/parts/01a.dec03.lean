/-! decode rows -/
theorem dX9_renew_0 : decode cX9_renew 0 = .ok (.aload_n 0, 1) := by decide +kernel
theorem dX9_renew_1 : decode cX9_renew 1 = .ok (.getfield 9, 3) := by decide +kernel
theorem dX9_renew_4 : decode cX9_renew 4 = .ok (.lconst 0, 1) := by decide +kernel
theorem dX9_renew_5 : decode cX9_renew 5 = .ok (.invokestatic 26, 3) := by decide +kernel
theorem dX9_renew_8 : decode cX9_renew 8 = .ok (.aload_n 0, 1) := by decide +kernel
theorem dX9_renew_9 : decode cX9_renew 9 = .ok (.iload_n 1, 1) := by decide +kernel
theorem dX9_renew_10 : decode cX9_renew 10 = .ok (.putfield 15, 3) := by decide +kernel
theorem dX9_renew_13 : decode cX9_renew 13 = .ok (.aload_n 0, 1) := by decide +kernel
theorem dX9_renew_14 : decode cX9_renew 14 = .ok (.iload_n 2, 1) := by decide +kernel
theorem dX9_renew_15 : decode cX9_renew 15 = .ok (.bipush 40, 2) := by decide +kernel
theorem dX9_renew_17 : decode cX9_renew 17 = .ok (.invokestatic 32, 3) := by decide +kernel
theorem dX9_renew_20 : decode cX9_renew 20 = .ok (.putfield 23, 3) := by decide +kernel
theorem dX9_renew_23 : decode cX9_renew 23 = .ok (.aload_n 0, 1) := by decide +kernel
theorem dX9_renew_24 : decode cX9_renew 24 = .ok (.iconst 0, 1) := by decide +kernel
theorem dX9_renew_25 : decode cX9_renew 25 = .ok (.putfield 19, 3) := by decide +kernel
theorem dX9_renew_28 : decode cX9_renew 28 = .ok (.return_, 1) := by decide +kernel
theorem dX9_at_0 : decode cX9_at 0 = .ok (.iload_n 1, 1) := by decide +kernel
theorem dX9_at_1 : decode cX9_at 1 = .ok (.ifCond .lt 20, 3) := by decide +kernel
theorem dX9_at_4 : decode cX9_at 4 = .ok (.iload_n 1, 1) := by decide +kernel
theorem dX9_at_5 : decode cX9_at 5 = .ok (.aload_n 0, 1) := by decide +kernel
theorem dX9_at_6 : decode cX9_at 6 = .ok (.getfield 23, 3) := by decide +kernel
theorem dX9_at_9 : decode cX9_at 9 = .ok (.if_icmp .ge 12, 3) := by decide +kernel
theorem dX9_at_12 : decode cX9_at 12 = .ok (.aload_n 0, 1) := by decide +kernel
theorem dX9_at_13 : decode cX9_at 13 = .ok (.getfield 9, 3) := by decide +kernel
theorem dX9_at_16 : decode cX9_at 16 = .ok (.iload_n 1, 1) := by decide +kernel
theorem dX9_at_17 : decode cX9_at 17 = .ok (.laload, 1) := by decide +kernel
theorem dX9_at_18 : decode cX9_at 18 = .ok (.goto 4, 3) := by decide +kernel
theorem dX9_at_21 : decode cX9_at 21 = .ok (.lconst 0, 1) := by decide +kernel
theorem dX9_at_22 : decode cX9_at 22 = .ok (.lreturn, 1) := by decide +kernel
theorem dX9_put_0 : decode cX9_put 0 = .ok (.iload_n 1, 1) := by decide +kernel
theorem dX9_put_1 : decode cX9_put 1 = .ok (.ifCond .lt 22, 3) := by decide +kernel
theorem dX9_put_4 : decode cX9_put 4 = .ok (.iload_n 1, 1) := by decide +kernel
theorem dX9_put_5 : decode cX9_put 5 = .ok (.aload_n 0, 1) := by decide +kernel
theorem dX9_put_6 : decode cX9_put 6 = .ok (.getfield 23, 3) := by decide +kernel
theorem dX9_put_9 : decode cX9_put 9 = .ok (.if_icmp .ge 14, 3) := by decide +kernel
theorem dX9_put_12 : decode cX9_put 12 = .ok (.aload_n 0, 1) := by decide +kernel
theorem dX9_put_13 : decode cX9_put 13 = .ok (.getfield 9, 3) := by decide +kernel
theorem dX9_put_16 : decode cX9_put 16 = .ok (.iload_n 1, 1) := by decide +kernel
theorem dX9_put_17 : decode cX9_put 17 = .ok (.aload_n 0, 1) := by decide +kernel
theorem dX9_put_18 : decode cX9_put 18 = .ok (.lload_n 2, 1) := by decide +kernel
theorem dX9_put_19 : decode cX9_put 19 = .ok (.invokevirtual 38, 3) := by decide +kernel
theorem dX9_put_22 : decode cX9_put 22 = .ok (.lastore, 1) := by decide +kernel
theorem dX9_put_23 : decode cX9_put 23 = .ok (.return_, 1) := by decide +kernel
theorem dX9_cut_0 : decode cX9_cut 0 = .ok (.aload_n 0, 1) := by decide +kernel
theorem dX9_cut_1 : decode cX9_cut 1 = .ok (.getfield 15, 3) := by decide +kernel
theorem dX9_cut_4 : decode cX9_cut 4 = .ok (.tableswitch 42 0 2 #[28, 33, 38], 28) := by decide +kernel
theorem dX9_cut_32 : decode cX9_cut 32 = .ok (.lload_n 1, 1) := by decide +kernel
theorem dX9_cut_33 : decode cX9_cut 33 = .ok (.l2i, 1) := by decide +kernel
theorem dX9_cut_34 : decode cX9_cut 34 = .ok (.i2b, 1) := by decide +kernel
theorem dX9_cut_35 : decode cX9_cut 35 = .ok (.i2l, 1) := by decide +kernel
theorem dX9_cut_36 : decode cX9_cut 36 = .ok (.lreturn, 1) := by decide +kernel
theorem dX9_cut_37 : decode cX9_cut 37 = .ok (.lload_n 1, 1) := by decide +kernel
theorem dX9_cut_38 : decode cX9_cut 38 = .ok (.l2i, 1) := by decide +kernel
theorem dX9_cut_39 : decode cX9_cut 39 = .ok (.i2s, 1) := by decide +kernel
theorem dX9_cut_40 : decode cX9_cut 40 = .ok (.i2l, 1) := by decide +kernel
theorem dX9_cut_41 : decode cX9_cut 41 = .ok (.lreturn, 1) := by decide +kernel
theorem dX9_cut_42 : decode cX9_cut 42 = .ok (.lload_n 1, 1) := by decide +kernel
theorem dX9_cut_43 : decode cX9_cut 43 = .ok (.l2i, 1) := by decide +kernel
theorem dX9_cut_44 : decode cX9_cut 44 = .ok (.i2l, 1) := by decide +kernel
theorem dX9_cut_45 : decode cX9_cut 45 = .ok (.lreturn, 1) := by decide +kernel
theorem dX9_cut_46 : decode cX9_cut 46 = .ok (.lload_n 1, 1) := by decide +kernel
theorem dX9_cut_47 : decode cX9_cut 47 = .ok (.lreturn, 1) := by decide +kernel
theorem dX10_init_0 : decode cX10_init 0 = .ok (.aload_n 0, 1) := by decide +kernel
theorem dX10_init_1 : decode cX10_init 1 = .ok (.invokespecial 3, 3) := by decide +kernel
theorem dX10_init_4 : decode cX10_init 4 = .ok (.aload_n 0, 1) := by decide +kernel
theorem dX10_init_5 : decode cX10_init 5 = .ok (.iconst 0, 1) := by decide +kernel
theorem dX10_init_6 : decode cX10_init 6 = .ok (.putfield 9, 3) := by decide +kernel
theorem dX10_init_9 : decode cX10_init 9 = .ok (.aload_n 0, 1) := by decide +kernel
theorem dX10_init_10 : decode cX10_init 10 = .ok (.iconst 0, 1) := by decide +kernel
theorem dX10_init_11 : decode cX10_init 11 = .ok (.putfield 15, 3) := by decide +kernel
theorem dX10_init_14 : decode cX10_init 14 = .ok (.aload_n 0, 1) := by decide +kernel
theorem dX10_init_15 : decode cX10_init 15 = .ok (.iconst 0, 1) := by decide +kernel
theorem dX10_init_16 : decode cX10_init 16 = .ok (.putfield 18, 3) := by decide +kernel
theorem dX10_init_19 : decode cX10_init 19 = .ok (.aload_n 0, 1) := by decide +kernel
theorem dX10_init_20 : decode cX10_init 20 = .ok (.iconst 0, 1) := by decide +kernel
theorem dX10_init_21 : decode cX10_init 21 = .ok (.putfield 21, 3) := by decide +kernel
theorem dX10_init_24 : decode cX10_init 24 = .ok (.aload_n 0, 1) := by decide +kernel
theorem dX10_init_25 : decode cX10_init 25 = .ok (.iconst 0, 1) := by decide +kernel
theorem dX10_init_26 : decode cX10_init 26 = .ok (.putfield 24, 3) := by decide +kernel
theorem dX10_init_29 : decode cX10_init 29 = .ok (.aload_n 0, 1) := by decide +kernel
theorem dX10_init_30 : decode cX10_init 30 = .ok (.iconst 1, 1) := by decide +kernel
theorem dX10_init_31 : decode cX10_init 31 = .ok (.putfield 27, 3) := by decide +kernel
theorem dX10_init_34 : decode cX10_init 34 = .ok (.aload_n 0, 1) := by decide +kernel
theorem dX10_init_35 : decode cX10_init 35 = .ok (.aload_n 1, 1) := by decide +kernel
theorem dX10_init_36 : decode cX10_init 36 = .ok (.putfield 30, 3) := by decide +kernel
theorem dX10_init_39 : decode cX10_init 39 = .ok (.return_, 1) := by decide +kernel
theorem dX10_start_0 : decode cX10_start 0 = .ok (.aload_n 0, 1) := by decide +kernel
theorem dX10_start_1 : decode cX10_start 1 = .ok (.iload_n 2, 1) := by decide +kernel
theorem dX10_start_2 : decode cX10_start 2 = .ok (.putfield 9, 3) := by decide +kernel
theorem dX10_start_5 : decode cX10_start 5 = .ok (.aload_n 0, 1) := by decide +kernel
theorem dX10_start_6 : decode cX10_start 6 = .ok (.iload_n 1, 1) := by decide +kernel
theorem dX10_start_7 : decode cX10_start 7 = .ok (.putfield 15, 3) := by decide +kernel
theorem dX10_start_10 : decode cX10_start 10 = .ok (.aload_n 0, 1) := by decide +kernel
theorem dX10_start_11 : decode cX10_start 11 = .ok (.iconst 0, 1) := by decide +kernel
theorem dX10_start_12 : decode cX10_start 12 = .ok (.putfield 18, 3) := by decide +kernel
theorem dX10_start_15 : decode cX10_start 15 = .ok (.aload_n 0, 1) := by decide +kernel
theorem dX10_start_16 : decode cX10_start 16 = .ok (.iload_n 1, 1) := by decide +kernel
theorem dX10_start_17 : decode cX10_start 17 = .ok (.putfield 21, 3) := by decide +kernel
theorem dX10_start_20 : decode cX10_start 20 = .ok (.aload_n 0, 1) := by decide +kernel
theorem dX10_start_21 : decode cX10_start 21 = .ok (.iconst 0, 1) := by decide +kernel
theorem dX10_start_22 : decode cX10_start 22 = .ok (.putfield 24, 3) := by decide +kernel
theorem dX10_start_25 : decode cX10_start 25 = .ok (.aload_n 0, 1) := by decide +kernel
theorem dX10_start_26 : decode cX10_start 26 = .ok (.iconst 1, 1) := by decide +kernel
theorem dX10_start_27 : decode cX10_start 27 = .ok (.putfield 27, 3) := by decide +kernel
theorem dX10_start_30 : decode cX10_start 30 = .ok (.return_, 1) := by decide +kernel
theorem dX10_step_0 : decode cX10_step 0 = .ok (.aload_n 0, 1) := by decide +kernel
theorem dX10_step_1 : decode cX10_step 1 = .ok (.aload_n 0, 1) := by decide +kernel
theorem dX10_step_2 : decode cX10_step 2 = .ok (.getfield 30, 3) := by decide +kernel
theorem dX10_step_5 : decode cX10_step 5 = .ok (.aload_n 0, 1) := by decide +kernel
theorem dX10_step_6 : decode cX10_step 6 = .ok (.getfield 15, 3) := by decide +kernel
theorem dX10_step_9 : decode cX10_step 9 = .ok (.aload_n 0, 1) := by decide +kernel
theorem dX10_step_10 : decode cX10_step 10 = .ok (.getfield 9, 3) := by decide +kernel
theorem dX10_step_13 : decode cX10_step 13 = .ok (.iconst 0, 1) := by decide +kernel
theorem dX10_step_14 : decode cX10_step 14 = .ok (.invokevirtual 34, 3) := by decide +kernel
theorem dX10_step_17 : decode cX10_step 17 = .ok (.putfield 15, 3) := by decide +kernel
theorem dX10_step_20 : decode cX10_step 20 = .ok (.aload_n 0, 1) := by decide +kernel
theorem dX10_step_21 : decode cX10_step 21 = .ok (.dup, 1) := by decide +kernel
theorem dX10_step_22 : decode cX10_step 22 = .ok (.getfield 18, 3) := by decide +kernel
theorem dX10_step_25 : decode cX10_step 25 = .ok (.iconst 1, 1) := by decide +kernel
theorem dX10_step_26 : decode cX10_step 26 = .ok (.iadd, 1) := by decide +kernel
theorem dX10_step_27 : decode cX10_step 27 = .ok (.putfield 18, 3) := by decide +kernel
theorem dX10_step_30 : decode cX10_step 30 = .ok (.aload_n 0, 1) := by decide +kernel
theorem dX10_step_31 : decode cX10_step 31 = .ok (.getfield 15, 3) := by decide +kernel
theorem dX10_step_34 : decode cX10_step 34 = .ok (.aload_n 0, 1) := by decide +kernel
theorem dX10_step_35 : decode cX10_step 35 = .ok (.getfield 21, 3) := by decide +kernel
theorem dX10_step_38 : decode cX10_step 38 = .ok (.if_icmp .ne 5, 3) := by decide +kernel
theorem dX10_step_41 : decode cX10_step 41 = .ok (.iconst 0, 1) := by decide +kernel
theorem dX10_step_42 : decode cX10_step 42 = .ok (.ireturn, 1) := by decide +kernel
theorem dX10_step_43 : decode cX10_step 43 = .ok (.aload_n 0, 1) := by decide +kernel
theorem dX10_step_44 : decode cX10_step 44 = .ok (.getfield 18, 3) := by decide +kernel
theorem dX10_step_47 : decode cX10_step 47 = .ok (.aload_n 0, 1) := by decide +kernel
theorem dX10_step_48 : decode cX10_step 48 = .ok (.getfield 24, 3) := by decide +kernel
theorem dX10_step_51 : decode cX10_step 51 = .ok (.isub, 1) := by decide +kernel
theorem dX10_step_52 : decode cX10_step 52 = .ok (.aload_n 0, 1) := by decide +kernel
theorem dX10_step_53 : decode cX10_step 53 = .ok (.getfield 27, 3) := by decide +kernel
theorem dX10_step_56 : decode cX10_step 56 = .ok (.if_icmp .ne 29, 3) := by decide +kernel
theorem dX10_step_59 : decode cX10_step 59 = .ok (.aload_n 0, 1) := by decide +kernel
theorem dX10_step_60 : decode cX10_step 60 = .ok (.aload_n 0, 1) := by decide +kernel
theorem dX10_step_61 : decode cX10_step 61 = .ok (.getfield 15, 3) := by decide +kernel
theorem dX10_step_64 : decode cX10_step 64 = .ok (.putfield 21, 3) := by decide +kernel
theorem dX10_step_67 : decode cX10_step 67 = .ok (.aload_n 0, 1) := by decide +kernel
theorem dX10_step_68 : decode cX10_step 68 = .ok (.aload_n 0, 1) := by decide +kernel
theorem dX10_step_69 : decode cX10_step 69 = .ok (.getfield 18, 3) := by decide +kernel
theorem dX10_step_72 : decode cX10_step 72 = .ok (.putfield 24, 3) := by decide +kernel
theorem dX10_step_75 : decode cX10_step 75 = .ok (.aload_n 0, 1) := by decide +kernel
theorem dX10_step_76 : decode cX10_step 76 = .ok (.dup, 1) := by decide +kernel
theorem dX10_step_77 : decode cX10_step 77 = .ok (.getfield 27, 3) := by decide +kernel
theorem dX10_step_80 : decode cX10_step 80 = .ok (.iconst 2, 1) := by decide +kernel
theorem dX10_step_81 : decode cX10_step 81 = .ok (.imul, 1) := by decide +kernel
theorem dX10_step_82 : decode cX10_step 82 = .ok (.putfield 27, 3) := by decide +kernel
theorem dX10_step_85 : decode cX10_step 85 = .ok (.iconst 1, 1) := by decide +kernel
theorem dX10_step_86 : decode cX10_step 86 = .ok (.ireturn, 1) := by decide +kernel
theorem dX10_stateBehind_0 : decode cX10_stateBehind 0 = .ok (.aload_n 0, 1) := by decide +kernel
theorem dX10_stateBehind_1 : decode cX10_stateBehind 1 = .ok (.iload_n 1, 1) := by decide +kernel
theorem dX10_stateBehind_2 : decode cX10_stateBehind 2 = .ok (.iload_n 2, 1) := by decide +kernel
theorem dX10_stateBehind_3 : decode cX10_stateBehind 3 = .ok (.invokevirtual 40, 3) := by decide +kernel
theorem dX10_stateBehind_6 : decode cX10_stateBehind 6 = .ok (.iconst 1, 1) := by decide +kernel
theorem dX10_stateBehind_7 : decode cX10_stateBehind 7 = .ok (.istore 4, 2) := by decide +kernel
theorem dX10_stateBehind_9 : decode cX10_stateBehind 9 = .ok (.iconst 0, 1) := by decide +kernel
theorem dX10_stateBehind_10 : decode cX10_stateBehind 10 = .ok (.istore 5, 2) := by decide +kernel
theorem dX10_stateBehind_12 : decode cX10_stateBehind 12 = .ok (.iload 5, 2) := by decide +kernel
theorem dX10_stateBehind_14 : decode cX10_stateBehind 14 = .ok (.iload_n 3, 1) := by decide +kernel
theorem dX10_stateBehind_15 : decode cX10_stateBehind 15 = .ok (.if_icmp .ge 20, 3) := by decide +kernel
theorem dX10_stateBehind_18 : decode cX10_stateBehind 18 = .ok (.iload 4, 2) := by decide +kernel
theorem dX10_stateBehind_20 : decode cX10_stateBehind 20 = .ok (.ifCond .eq 15, 3) := by decide +kernel
theorem dX10_stateBehind_23 : decode cX10_stateBehind 23 = .ok (.aload_n 0, 1) := by decide +kernel
theorem dX10_stateBehind_24 : decode cX10_stateBehind 24 = .ok (.invokevirtual 44, 3) := by decide +kernel
theorem dX10_stateBehind_27 : decode cX10_stateBehind 27 = .ok (.istore 4, 2) := by decide +kernel
theorem dX10_stateBehind_29 : decode cX10_stateBehind 29 = .ok (.iinc 5 1, 3) := by decide +kernel
theorem dX10_stateBehind_32 : decode cX10_stateBehind 32 = .ok (.goto (-20), 3) := by decide +kernel
theorem dX10_stateBehind_35 : decode cX10_stateBehind 35 = .ok (.aload_n 0, 1) := by decide +kernel
theorem dX10_stateBehind_36 : decode cX10_stateBehind 36 = .ok (.getfield 18, 3) := by decide +kernel
theorem dX10_stateBehind_39 : decode cX10_stateBehind 39 = .ok (.aload_n 0, 1) := by decide +kernel
theorem dX10_stateBehind_40 : decode cX10_stateBehind 40 = .ok (.getfield 24, 3) := by decide +kernel
theorem dX10_stateBehind_43 : decode cX10_stateBehind 43 = .ok (.isub, 1) := by decide +kernel
theorem dX10_stateBehind_44 : decode cX10_stateBehind 44 = .ok (.istore 5, 2) := by decide +kernel
theorem dX10_stateBehind_46 : decode cX10_stateBehind 46 = .ok (.iload 4, 2) := by decide +kernel
theorem dX10_stateBehind_48 : decode cX10_stateBehind 48 = .ok (.ifCond .ne 8, 3) := by decide +kernel
theorem dX10_stateBehind_51 : decode cX10_stateBehind 51 = .ok (.iload 5, 2) := by decide +kernel
theorem dX10_stateBehind_53 : decode cX10_stateBehind 53 = .ok (.ifCond .gt 7, 3) := by decide +kernel
theorem dX10_stateBehind_56 : decode cX10_stateBehind 56 = .ok (.iconst 0, 1) := by decide +kernel
theorem dX10_stateBehind_57 : decode cX10_stateBehind 57 = .ok (.goto 12, 3) := by decide +kernel
theorem dX10_stateBehind_60 : decode cX10_stateBehind 60 = .ok (.iload_n 3, 1) := by decide +kernel
theorem dX10_stateBehind_61 : decode cX10_stateBehind 61 = .ok (.aload_n 0, 1) := by decide +kernel
theorem dX10_stateBehind_62 : decode cX10_stateBehind 62 = .ok (.getfield 18, 3) := by decide +kernel
theorem dX10_stateBehind_65 : decode cX10_stateBehind 65 = .ok (.isub, 1) := by decide +kernel
theorem dX10_stateBehind_66 : decode cX10_stateBehind 66 = .ok (.iload 5, 2) := by decide +kernel
theorem dX10_stateBehind_68 : decode cX10_stateBehind 68 = .ok (.irem, 1) := by decide +kernel
theorem dX10_stateBehind_69 : decode cX10_stateBehind 69 = .ok (.istore 6, 2) := by decide +kernel
theorem dX10_stateBehind_71 : decode cX10_stateBehind 71 = .ok (.iconst 0, 1) := by decide +kernel
theorem dX10_stateBehind_72 : decode cX10_stateBehind 72 = .ok (.istore 7, 2) := by decide +kernel
theorem dX10_stateBehind_74 : decode cX10_stateBehind 74 = .ok (.iload 7, 2) := by decide +kernel
theorem dX10_stateBehind_76 : decode cX10_stateBehind 76 = .ok (.iload 6, 2) := by decide +kernel
theorem dX10_stateBehind_78 : decode cX10_stateBehind 78 = .ok (.if_icmp .ge 29, 3) := by decide +kernel
theorem dX10_stateBehind_81 : decode cX10_stateBehind 81 = .ok (.aload_n 0, 1) := by decide +kernel
theorem dX10_stateBehind_82 : decode cX10_stateBehind 82 = .ok (.aload_n 0, 1) := by decide +kernel
theorem dX10_stateBehind_83 : decode cX10_stateBehind 83 = .ok (.getfield 30, 3) := by decide +kernel
theorem dX10_stateBehind_86 : decode cX10_stateBehind 86 = .ok (.aload_n 0, 1) := by decide +kernel
theorem dX10_stateBehind_87 : decode cX10_stateBehind 87 = .ok (.getfield 15, 3) := by decide +kernel
theorem dX10_stateBehind_90 : decode cX10_stateBehind 90 = .ok (.aload_n 0, 1) := by decide +kernel
theorem dX10_stateBehind_91 : decode cX10_stateBehind 91 = .ok (.getfield 9, 3) := by decide +kernel
theorem dX10_stateBehind_94 : decode cX10_stateBehind 94 = .ok (.iconst 0, 1) := by decide +kernel
theorem dX10_stateBehind_95 : decode cX10_stateBehind 95 = .ok (.invokevirtual 34, 3) := by decide +kernel
theorem dX10_stateBehind_98 : decode cX10_stateBehind 98 = .ok (.putfield 15, 3) := by decide +kernel
theorem dX10_stateBehind_101 : decode cX10_stateBehind 101 = .ok (.iinc 7 1, 3) := by decide +kernel
theorem dX10_stateBehind_104 : decode cX10_stateBehind 104 = .ok (.goto (-30), 3) := by decide +kernel
theorem dX10_stateBehind_107 : decode cX10_stateBehind 107 = .ok (.aload_n 0, 1) := by decide +kernel
theorem dX10_stateBehind_108 : decode cX10_stateBehind 108 = .ok (.getfield 15, 3) := by decide +kernel
theorem dX10_stateBehind_111 : decode cX10_stateBehind 111 = .ok (.ireturn, 1) := by decide +kernel
theorem dX10_tellMeetings_0 : decode cX10_tellMeetings 0 = .ok (.aload_n 3, 1) := by decide +kernel
theorem dX10_tellMeetings_1 : decode cX10_tellMeetings 1 = .ok (.iconst (-1), 1) := by decide +kernel
theorem dX10_tellMeetings_2 : decode cX10_tellMeetings 2 = .ok (.invokestatic 48, 3) := by decide +kernel
theorem dX10_tellMeetings_5 : decode cX10_tellMeetings 5 = .ok (.aload_n 0, 1) := by decide +kernel
theorem dX10_tellMeetings_6 : decode cX10_tellMeetings 6 = .ok (.iload_n 1, 1) := by decide +kernel
theorem dX10_tellMeetings_7 : decode cX10_tellMeetings 7 = .ok (.iload_n 2, 1) := by decide +kernel
theorem dX10_tellMeetings_8 : decode cX10_tellMeetings 8 = .ok (.invokevirtual 40, 3) := by decide +kernel
theorem dX10_tellMeetings_11 : decode cX10_tellMeetings 11 = .ok (.aload_n 0, 1) := by decide +kernel
theorem dX10_tellMeetings_12 : decode cX10_tellMeetings 12 = .ok (.getfield 30, 3) := by decide +kernel
theorem dX10_tellMeetings_15 : decode cX10_tellMeetings 15 = .ok (.invokevirtual 54, 3) := by decide +kernel
theorem dX10_tellMeetings_18 : decode cX10_tellMeetings 18 = .ok (.astore 4, 2) := by decide +kernel
theorem dX10_tellMeetings_20 : decode cX10_tellMeetings 20 = .ok (.iconst 1, 1) := by decide +kernel
theorem dX10_tellMeetings_21 : decode cX10_tellMeetings 21 = .ok (.istore 5, 2) := by decide +kernel
theorem dX10_tellMeetings_23 : decode cX10_tellMeetings 23 = .ok (.iconst 0, 1) := by decide +kernel
theorem dX10_tellMeetings_24 : decode cX10_tellMeetings 24 = .ok (.istore 6, 2) := by decide +kernel
theorem dX10_tellMeetings_26 : decode cX10_tellMeetings 26 = .ok (.iload 6, 2) := by decide +kernel
theorem dX10_tellMeetings_28 : decode cX10_tellMeetings 28 = .ok (.ldc 58, 2) := by decide +kernel
theorem dX10_tellMeetings_30 : decode cX10_tellMeetings 30 = .ok (.if_icmp .gt 94, 3) := by decide +kernel
theorem dX10_tellMeetings_33 : decode cX10_tellMeetings 33 = .ok (.iload 5, 2) := by decide +kernel
theorem dX10_tellMeetings_35 : decode cX10_tellMeetings 35 = .ok (.ifCond .eq 89, 3) := by decide +kernel
theorem dX10_tellMeetings_38 : decode cX10_tellMeetings 38 = .ok (.iconst 0, 1) := by decide +kernel
theorem dX10_tellMeetings_39 : decode cX10_tellMeetings 39 = .ok (.istore 7, 2) := by decide +kernel
theorem dX10_tellMeetings_41 : decode cX10_tellMeetings 41 = .ok (.iload 7, 2) := by decide +kernel
theorem dX10_tellMeetings_43 : decode cX10_tellMeetings 43 = .ok (.aload 4, 2) := by decide +kernel
theorem dX10_tellMeetings_45 : decode cX10_tellMeetings 45 = .ok (.getfield 59, 3) := by decide +kernel
theorem dX10_tellMeetings_48 : decode cX10_tellMeetings 48 = .ok (.if_icmp .ge 44, 3) := by decide +kernel
theorem dX10_tellMeetings_51 : decode cX10_tellMeetings 51 = .ok (.iload 7, 2) := by decide +kernel
theorem dX10_tellMeetings_53 : decode cX10_tellMeetings 53 = .ok (.aload_n 3, 1) := by decide +kernel
theorem dX10_tellMeetings_54 : decode cX10_tellMeetings 54 = .ok (.arraylength, 1) := by decide +kernel
theorem dX10_tellMeetings_55 : decode cX10_tellMeetings 55 = .ok (.if_icmp .ge 37, 3) := by decide +kernel
theorem dX10_tellMeetings_58 : decode cX10_tellMeetings 58 = .ok (.aload_n 3, 1) := by decide +kernel
theorem dX10_tellMeetings_59 : decode cX10_tellMeetings 59 = .ok (.iload 7, 2) := by decide +kernel
theorem dX10_tellMeetings_61 : decode cX10_tellMeetings 61 = .ok (.iaload, 1) := by decide +kernel
theorem dX10_tellMeetings_62 : decode cX10_tellMeetings 62 = .ok (.iconst (-1), 1) := by decide +kernel
theorem dX10_tellMeetings_63 : decode cX10_tellMeetings 63 = .ok (.if_icmp .ne 23, 3) := by decide +kernel
theorem dX10_tellMeetings_66 : decode cX10_tellMeetings 66 = .ok (.aload_n 0, 1) := by decide +kernel
theorem dX10_tellMeetings_67 : decode cX10_tellMeetings 67 = .ok (.getfield 15, 3) := by decide +kernel
theorem dX10_tellMeetings_70 : decode cX10_tellMeetings 70 = .ok (.iload 7, 2) := by decide +kernel
theorem dX10_tellMeetings_72 : decode cX10_tellMeetings 72 = .ok (.invokestatic 64, 3) := by decide +kernel
theorem dX10_tellMeetings_75 : decode cX10_tellMeetings 75 = .ok (.ifCond .ne 11, 3) := by decide +kernel
theorem dX10_tellMeetings_78 : decode cX10_tellMeetings 78 = .ok (.aload_n 3, 1) := by decide +kernel
theorem dX10_tellMeetings_79 : decode cX10_tellMeetings 79 = .ok (.iload 7, 2) := by decide +kernel
theorem dX10_tellMeetings_81 : decode cX10_tellMeetings 81 = .ok (.aload_n 0, 1) := by decide +kernel
theorem dX10_tellMeetings_82 : decode cX10_tellMeetings 82 = .ok (.getfield 18, 3) := by decide +kernel
theorem dX10_tellMeetings_85 : decode cX10_tellMeetings 85 = .ok (.iastore, 1) := by decide +kernel
theorem dX10_tellMeetings_86 : decode cX10_tellMeetings 86 = .ok (.iinc 7 1, 3) := by decide +kernel
theorem dX10_tellMeetings_89 : decode cX10_tellMeetings 89 = .ok (.goto (-48), 3) := by decide +kernel
theorem dX10_tellMeetings_92 : decode cX10_tellMeetings 92 = .ok (.aload 4, 2) := by decide +kernel
theorem dX10_tellMeetings_94 : decode cX10_tellMeetings 94 = .ok (.aload_n 0, 1) := by decide +kernel
theorem dX10_tellMeetings_95 : decode cX10_tellMeetings 95 = .ok (.getfield 15, 3) := by decide +kernel
theorem dX10_tellMeetings_98 : decode cX10_tellMeetings 98 = .ok (.invokevirtual 68, 3) := by decide +kernel
theorem dX10_tellMeetings_101 : decode cX10_tellMeetings 101 = .ok (.ifCond .le 14, 3) := by decide +kernel
theorem dX10_tellMeetings_104 : decode cX10_tellMeetings 104 = .ok (.aload_n 0, 1) := by decide +kernel
theorem dX10_tellMeetings_105 : decode cX10_tellMeetings 105 = .ok (.invokevirtual 44, 3) := by decide +kernel
theorem dX10_tellMeetings_108 : decode cX10_tellMeetings 108 = .ok (.ifCond .eq 7, 3) := by decide +kernel
theorem dX10_tellMeetings_111 : decode cX10_tellMeetings 111 = .ok (.iconst 1, 1) := by decide +kernel
theorem dX10_tellMeetings_112 : decode cX10_tellMeetings 112 = .ok (.goto 4, 3) := by decide +kernel
theorem dX10_tellMeetings_115 : decode cX10_tellMeetings 115 = .ok (.iconst 0, 1) := by decide +kernel
theorem dX10_tellMeetings_116 : decode cX10_tellMeetings 116 = .ok (.istore 5, 2) := by decide +kernel
theorem dX10_tellMeetings_118 : decode cX10_tellMeetings 118 = .ok (.iinc 6 1, 3) := by decide +kernel
theorem dX10_tellMeetings_121 : decode cX10_tellMeetings 121 = .ok (.goto (-95), 3) := by decide +kernel
theorem dX10_tellMeetings_124 : decode cX10_tellMeetings 124 = .ok (.return_, 1) := by decide +kernel
theorem dX10_yearsTillFall_0 : decode cX10_yearsTillFall 0 = .ok (.aload_n 0, 1) := by decide +kernel
theorem dX10_yearsTillFall_1 : decode cX10_yearsTillFall 1 = .ok (.iload_n 1, 1) := by decide +kernel
theorem dX10_yearsTillFall_2 : decode cX10_yearsTillFall 2 = .ok (.iload_n 2, 1) := by decide +kernel
theorem dX10_yearsTillFall_3 : decode cX10_yearsTillFall 3 = .ok (.invokevirtual 40, 3) := by decide +kernel
theorem dX10_yearsTillFall_6 : decode cX10_yearsTillFall 6 = .ok (.iconst 1, 1) := by decide +kernel
theorem dX10_yearsTillFall_7 : decode cX10_yearsTillFall 7 = .ok (.istore_n 3, 1) := by decide +kernel
theorem dX10_yearsTillFall_8 : decode cX10_yearsTillFall 8 = .ok (.iconst 0, 1) := by decide +kernel
theorem dX10_yearsTillFall_9 : decode cX10_yearsTillFall 9 = .ok (.istore 4, 2) := by decide +kernel
theorem dX10_yearsTillFall_11 : decode cX10_yearsTillFall 11 = .ok (.iload 4, 2) := by decide +kernel
theorem dX10_yearsTillFall_13 : decode cX10_yearsTillFall 13 = .ok (.ldc 58, 2) := by decide +kernel
theorem dX10_yearsTillFall_15 : decode cX10_yearsTillFall 15 = .ok (.if_icmp .gt 33, 3) := by decide +kernel
theorem dX10_yearsTillFall_18 : decode cX10_yearsTillFall 18 = .ok (.iload_n 3, 1) := by decide +kernel
theorem dX10_yearsTillFall_19 : decode cX10_yearsTillFall 19 = .ok (.ifCond .eq 29, 3) := by decide +kernel
theorem dX10_yearsTillFall_22 : decode cX10_yearsTillFall 22 = .ok (.aload_n 0, 1) := by decide +kernel
theorem dX10_yearsTillFall_23 : decode cX10_yearsTillFall 23 = .ok (.getfield 15, 3) := by decide +kernel
theorem dX10_yearsTillFall_26 : decode cX10_yearsTillFall 26 = .ok (.sipush 10000, 3) := by decide +kernel
theorem dX10_yearsTillFall_29 : decode cX10_yearsTillFall 29 = .ok (.if_icmp .lt 8, 3) := by decide +kernel
theorem dX10_yearsTillFall_32 : decode cX10_yearsTillFall 32 = .ok (.aload_n 0, 1) := by decide +kernel
theorem dX10_yearsTillFall_33 : decode cX10_yearsTillFall 33 = .ok (.getfield 18, 3) := by decide +kernel
theorem dX10_yearsTillFall_36 : decode cX10_yearsTillFall 36 = .ok (.ireturn, 1) := by decide +kernel
theorem dX10_yearsTillFall_37 : decode cX10_yearsTillFall 37 = .ok (.aload_n 0, 1) := by decide +kernel
theorem dX10_yearsTillFall_38 : decode cX10_yearsTillFall 38 = .ok (.invokevirtual 44, 3) := by decide +kernel
theorem dX10_yearsTillFall_41 : decode cX10_yearsTillFall 41 = .ok (.istore_n 3, 1) := by decide +kernel
theorem dX10_yearsTillFall_42 : decode cX10_yearsTillFall 42 = .ok (.iinc 4 1, 3) := by decide +kernel
theorem dX10_yearsTillFall_45 : decode cX10_yearsTillFall 45 = .ok (.goto (-34), 3) := by decide +kernel
theorem dX10_yearsTillFall_48 : decode cX10_yearsTillFall 48 = .ok (.iconst (-1), 1) := by decide +kernel
theorem dX10_yearsTillFall_49 : decode cX10_yearsTillFall 49 = .ok (.ireturn, 1) := by decide +kernel
theorem dX10_isSeenSo_0 : decode cX10_isSeenSo 0 = .ok (.iload_n 3, 1) := by decide +kernel
theorem dX10_isSeenSo_1 : decode cX10_isSeenSo 1 = .ok (.istore 5, 2) := by decide +kernel
theorem dX10_isSeenSo_3 : decode cX10_isSeenSo 3 = .ok (.iconst 0, 1) := by decide +kernel
theorem dX10_isSeenSo_4 : decode cX10_isSeenSo 4 = .ok (.istore 6, 2) := by decide +kernel
theorem dX10_isSeenSo_6 : decode cX10_isSeenSo 6 = .ok (.iload 6, 2) := by decide +kernel
theorem dX10_isSeenSo_8 : decode cX10_isSeenSo 8 = .ok (.aload_n 1, 1) := by decide +kernel
theorem dX10_isSeenSo_9 : decode cX10_isSeenSo 9 = .ok (.getfield 72, 3) := by decide +kernel
theorem dX10_isSeenSo_12 : decode cX10_isSeenSo 12 = .ok (.if_icmp .ge 55, 3) := by decide +kernel
theorem dX10_isSeenSo_15 : decode cX10_isSeenSo 15 = .ok (.aload_n 0, 1) := by decide +kernel
theorem dX10_isSeenSo_16 : decode cX10_isSeenSo 16 = .ok (.getfield 30, 3) := by decide +kernel
theorem dX10_isSeenSo_19 : decode cX10_isSeenSo 19 = .ok (.iload 5, 2) := by decide +kernel
theorem dX10_isSeenSo_21 : decode cX10_isSeenSo 21 = .ok (.iload 4, 2) := by decide +kernel
theorem dX10_isSeenSo_23 : decode cX10_isSeenSo 23 = .ok (.iconst 0, 1) := by decide +kernel
theorem dX10_isSeenSo_24 : decode cX10_isSeenSo 24 = .ok (.invokevirtual 34, 3) := by decide +kernel
theorem dX10_isSeenSo_27 : decode cX10_isSeenSo 27 = .ok (.istore 5, 2) := by decide +kernel
theorem dX10_isSeenSo_29 : decode cX10_isSeenSo 29 = .ok (.aload_n 1, 1) := by decide +kernel
theorem dX10_isSeenSo_30 : decode cX10_isSeenSo 30 = .ok (.iload 6, 2) := by decide +kernel
theorem dX10_isSeenSo_32 : decode cX10_isSeenSo 32 = .ok (.invokevirtual 77, 3) := by decide +kernel
theorem dX10_isSeenSo_35 : decode cX10_isSeenSo 35 = .ok (.ldc2_w 81, 3) := by decide +kernel
theorem dX10_isSeenSo_38 : decode cX10_isSeenSo 38 = .ok (.lcmp, 1) := by decide +kernel
theorem dX10_isSeenSo_39 : decode cX10_isSeenSo 39 = .ok (.ifCond .eq 22, 3) := by decide +kernel
theorem dX10_isSeenSo_42 : decode cX10_isSeenSo 42 = .ok (.aload_n 1, 1) := by decide +kernel
theorem dX10_isSeenSo_43 : decode cX10_isSeenSo 43 = .ok (.iload 6, 2) := by decide +kernel
theorem dX10_isSeenSo_45 : decode cX10_isSeenSo 45 = .ok (.invokevirtual 77, 3) := by decide +kernel
theorem dX10_isSeenSo_48 : decode cX10_isSeenSo 48 = .ok (.iload 5, 2) := by decide +kernel
theorem dX10_isSeenSo_50 : decode cX10_isSeenSo 50 = .ok (.iload_n 2, 1) := by decide +kernel
theorem dX10_isSeenSo_51 : decode cX10_isSeenSo 51 = .ok (.invokestatic 64, 3) := by decide +kernel
theorem dX10_isSeenSo_54 : decode cX10_isSeenSo 54 = .ok (.i2l, 1) := by decide +kernel
theorem dX10_isSeenSo_55 : decode cX10_isSeenSo 55 = .ok (.lcmp, 1) := by decide +kernel
theorem dX10_isSeenSo_56 : decode cX10_isSeenSo 56 = .ok (.ifCond .eq 5, 3) := by decide +kernel
theorem dX10_isSeenSo_59 : decode cX10_isSeenSo 59 = .ok (.iconst 0, 1) := by decide +kernel
theorem dX10_isSeenSo_60 : decode cX10_isSeenSo 60 = .ok (.ireturn, 1) := by decide +kernel
theorem dX10_isSeenSo_61 : decode cX10_isSeenSo 61 = .ok (.iinc 6 1, 3) := by decide +kernel
theorem dX10_isSeenSo_64 : decode cX10_isSeenSo 64 = .ok (.goto (-58), 3) := by decide +kernel
theorem dX10_isSeenSo_67 : decode cX10_isSeenSo 67 = .ok (.iconst 1, 1) := by decide +kernel
theorem dX10_isSeenSo_68 : decode cX10_isSeenSo 68 = .ok (.ireturn, 1) := by decide +kernel
theorem dX11_init_0 : decode cX11_init 0 = .ok (.aload_n 0, 1) := by decide +kernel
theorem dX11_init_1 : decode cX11_init 1 = .ok (.invokespecial 1, 3) := by decide +kernel
theorem dX11_init_4 : decode cX11_init 4 = .ok (.aload_n 0, 1) := by decide +kernel
theorem dX11_init_5 : decode cX11_init 5 = .ok (.sipush 900, 3) := by decide +kernel
theorem dX11_init_8 : decode cX11_init 8 = .ok (.newarray .byte, 2) := by decide +kernel
theorem dX11_init_10 : decode cX11_init 10 = .ok (.putfield 9, 3) := by decide +kernel
theorem dX11_init_13 : decode cX11_init 13 = .ok (.aload_n 0, 1) := by decide +kernel
theorem dX11_init_14 : decode cX11_init 14 = .ok (.iconst 0, 1) := by decide +kernel
theorem dX11_init_15 : decode cX11_init 15 = .ok (.putfield 13, 3) := by decide +kernel
theorem dX11_init_18 : decode cX11_init 18 = .ok (.aload_n 0, 1) := by decide +kernel
theorem dX11_init_19 : decode cX11_init 19 = .ok (.new 17, 3) := by decide +kernel
theorem dX11_init_22 : decode cX11_init 22 = .ok (.dup, 1) := by decide +kernel
theorem dX11_init_23 : decode cX11_init 23 = .ok (.invokespecial 19, 3) := by decide +kernel
theorem dX11_init_26 : decode cX11_init 26 = .ok (.putfield 20, 3) := by decide +kernel
theorem dX11_init_29 : decode cX11_init 29 = .ok (.aload_n 0, 1) := by decide +kernel
theorem dX11_init_30 : decode cX11_init 30 = .ok (.new 24, 3) := by decide +kernel
theorem dX11_init_33 : decode cX11_init 33 = .ok (.dup, 1) := by decide +kernel
theorem dX11_init_34 : decode cX11_init 34 = .ok (.aload_n 0, 1) := by decide +kernel
theorem dX11_init_35 : decode cX11_init 35 = .ok (.getfield 20, 3) := by decide +kernel
theorem dX11_init_38 : decode cX11_init 38 = .ok (.invokespecial 26, 3) := by decide +kernel
theorem dX11_init_41 : decode cX11_init 41 = .ok (.putfield 29, 3) := by decide +kernel
theorem dX11_init_44 : decode cX11_init 44 = .ok (.aload_n 0, 1) := by decide +kernel
theorem dX11_init_45 : decode cX11_init 45 = .ok (.new 33, 3) := by decide +kernel
theorem dX11_init_48 : decode cX11_init 48 = .ok (.dup, 1) := by decide +kernel
theorem dX11_init_49 : decode cX11_init 49 = .ok (.invokespecial 35, 3) := by decide +kernel
theorem dX11_init_52 : decode cX11_init 52 = .ok (.putfield 36, 3) := by decide +kernel
theorem dX11_init_55 : decode cX11_init 55 = .ok (.aload_n 0, 1) := by decide +kernel
theorem dX11_init_56 : decode cX11_init 56 = .ok (.new 33, 3) := by decide +kernel
theorem dX11_init_59 : decode cX11_init 59 = .ok (.dup, 1) := by decide +kernel
theorem dX11_init_60 : decode cX11_init 60 = .ok (.invokespecial 35, 3) := by decide +kernel
theorem dX11_init_63 : decode cX11_init 63 = .ok (.putfield 40, 3) := by decide +kernel
theorem dX11_init_66 : decode cX11_init 66 = .ok (.aload_n 0, 1) := by decide +kernel
theorem dX11_init_67 : decode cX11_init 67 = .ok (.new 33, 3) := by decide +kernel
theorem dX11_init_70 : decode cX11_init 70 = .ok (.dup, 1) := by decide +kernel
theorem dX11_init_71 : decode cX11_init 71 = .ok (.invokespecial 35, 3) := by decide +kernel
theorem dX11_init_74 : decode cX11_init 74 = .ok (.putfield 43, 3) := by decide +kernel
theorem dX11_init_77 : decode cX11_init 77 = .ok (.aload_n 0, 1) := by decide +kernel
theorem dX11_init_78 : decode cX11_init 78 = .ok (.new 46, 3) := by decide +kernel
theorem dX11_init_81 : decode cX11_init 81 = .ok (.dup, 1) := by decide +kernel
theorem dX11_init_82 : decode cX11_init 82 = .ok (.invokespecial 48, 3) := by decide +kernel
theorem dX11_init_85 : decode cX11_init 85 = .ok (.putfield 49, 3) := by decide +kernel
theorem dX11_init_88 : decode cX11_init 88 = .ok (.aload_n 0, 1) := by decide +kernel
theorem dX11_init_89 : decode cX11_init 89 = .ok (.iconst 4, 1) := by decide +kernel
theorem dX11_init_90 : decode cX11_init 90 = .ok (.anewarray 53, 3) := by decide +kernel
theorem dX11_init_93 : decode cX11_init 93 = .ok (.putfield 55, 3) := by decide +kernel
theorem dX11_init_96 : decode cX11_init 96 = .ok (.aload_n 0, 1) := by decide +kernel
theorem dX11_init_97 : decode cX11_init 97 = .ok (.iconst 2, 1) := by decide +kernel
theorem dX11_init_98 : decode cX11_init 98 = .ok (.anewarray 24, 3) := by decide +kernel
theorem dX11_init_101 : decode cX11_init 101 = .ok (.putfield 59, 3) := by decide +kernel
theorem dX11_init_104 : decode cX11_init 104 = .ok (.aload_n 0, 1) := by decide +kernel
theorem dX11_init_105 : decode cX11_init 105 = .ok (.iconst 2, 1) := by decide +kernel
theorem dX11_init_106 : decode cX11_init 106 = .ok (.anewarray 33, 3) := by decide +kernel
theorem dX11_init_109 : decode cX11_init 109 = .ok (.putfield 63, 3) := by decide +kernel
theorem dX11_init_112 : decode cX11_init 112 = .ok (.aload_n 0, 1) := by decide +kernel
theorem dX11_init_113 : decode cX11_init 113 = .ok (.new 67, 3) := by decide +kernel
theorem dX11_init_116 : decode cX11_init 116 = .ok (.dup, 1) := by decide +kernel
theorem dX11_init_117 : decode cX11_init 117 = .ok (.aload_n 0, 1) := by decide +kernel
theorem dX11_init_118 : decode cX11_init 118 = .ok (.getfield 29, 3) := by decide +kernel
theorem dX11_init_121 : decode cX11_init 121 = .ok (.invokespecial 69, 3) := by decide +kernel
theorem dX11_init_124 : decode cX11_init 124 = .ok (.putfield 72, 3) := by decide +kernel
theorem dX11_init_127 : decode cX11_init 127 = .ok (.aload_n 0, 1) := by decide +kernel
theorem dX11_init_128 : decode cX11_init 128 = .ok (.new 76, 3) := by decide +kernel
theorem dX11_init_131 : decode cX11_init 131 = .ok (.dup, 1) := by decide +kernel
theorem dX11_init_132 : decode cX11_init 132 = .ok (.aload_n 0, 1) := by decide +kernel
theorem dX11_init_133 : decode cX11_init 133 = .ok (.getfield 72, 3) := by decide +kernel
theorem dX11_init_136 : decode cX11_init 136 = .ok (.invokespecial 78, 3) := by decide +kernel
theorem dX11_init_139 : decode cX11_init 139 = .ok (.putfield 81, 3) := by decide +kernel
theorem dX11_init_142 : decode cX11_init 142 = .ok (.aload_n 0, 1) := by decide +kernel
theorem dX11_init_143 : decode cX11_init 143 = .ok (.new 85, 3) := by decide +kernel
theorem dX11_init_146 : decode cX11_init 146 = .ok (.dup, 1) := by decide +kernel
theorem dX11_init_147 : decode cX11_init 147 = .ok (.aload_n 0, 1) := by decide +kernel
theorem dX11_init_148 : decode cX11_init 148 = .ok (.getfield 72, 3) := by decide +kernel
theorem dX11_init_151 : decode cX11_init 151 = .ok (.invokespecial 87, 3) := by decide +kernel
theorem dX11_init_154 : decode cX11_init 154 = .ok (.putfield 88, 3) := by decide +kernel
theorem dX11_init_157 : decode cX11_init 157 = .ok (.aload_n 0, 1) := by decide +kernel
theorem dX11_init_158 : decode cX11_init 158 = .ok (.new 92, 3) := by decide +kernel
theorem dX11_init_161 : decode cX11_init 161 = .ok (.dup, 1) := by decide +kernel
theorem dX11_init_162 : decode cX11_init 162 = .ok (.aload_n 0, 1) := by decide +kernel
theorem dX11_init_163 : decode cX11_init 163 = .ok (.getfield 72, 3) := by decide +kernel
theorem dX11_init_166 : decode cX11_init 166 = .ok (.aload_n 0, 1) := by decide +kernel
theorem dX11_init_167 : decode cX11_init 167 = .ok (.getfield 29, 3) := by decide +kernel
theorem dX11_init_170 : decode cX11_init 170 = .ok (.invokespecial 94, 3) := by decide +kernel
theorem dX11_init_173 : decode cX11_init 173 = .ok (.putfield 97, 3) := by decide +kernel
theorem dX11_init_176 : decode cX11_init 176 = .ok (.aload_n 0, 1) := by decide +kernel
theorem dX11_init_177 : decode cX11_init 177 = .ok (.iconst 4, 1) := by decide +kernel
theorem dX11_init_178 : decode cX11_init 178 = .ok (.newarray .int, 2) := by decide +kernel
theorem dX11_init_180 : decode cX11_init 180 = .ok (.putfield 101, 3) := by decide +kernel
theorem dX11_init_183 : decode cX11_init 183 = .ok (.aload_n 0, 1) := by decide +kernel
theorem dX11_init_184 : decode cX11_init 184 = .ok (.iconst 4, 1) := by decide +kernel
theorem dX11_init_185 : decode cX11_init 185 = .ok (.newarray .int, 2) := by decide +kernel
theorem dX11_init_187 : decode cX11_init 187 = .ok (.putfield 105, 3) := by decide +kernel
theorem dX11_init_190 : decode cX11_init 190 = .ok (.aload_n 0, 1) := by decide +kernel
theorem dX11_init_191 : decode cX11_init 191 = .ok (.bipush 19, 2) := by decide +kernel
theorem dX11_init_193 : decode cX11_init 193 = .ok (.newarray .int, 2) := by decide +kernel
theorem dX11_init_195 : decode cX11_init 195 = .ok (.putfield 108, 3) := by decide +kernel
theorem dX11_init_198 : decode cX11_init 198 = .ok (.aload_n 0, 1) := by decide +kernel
theorem dX11_init_199 : decode cX11_init 199 = .ok (.iconst 0, 1) := by decide +kernel
theorem dX11_init_200 : decode cX11_init 200 = .ok (.putfield 111, 3) := by decide +kernel
theorem dX11_init_203 : decode cX11_init 203 = .ok (.iconst 0, 1) := by decide +kernel
theorem dX11_init_204 : decode cX11_init 204 = .ok (.istore_n 1, 1) := by decide +kernel
theorem dX11_init_205 : decode cX11_init 205 = .ok (.iload_n 1, 1) := by decide +kernel
theorem dX11_init_206 : decode cX11_init 206 = .ok (.iconst 4, 1) := by decide +kernel
theorem dX11_init_207 : decode cX11_init 207 = .ok (.if_icmp .ge 22, 3) := by decide +kernel
theorem dX11_init_210 : decode cX11_init 210 = .ok (.aload_n 0, 1) := by decide +kernel
theorem dX11_init_211 : decode cX11_init 211 = .ok (.getfield 55, 3) := by decide +kernel
theorem dX11_init_214 : decode cX11_init 214 = .ok (.iload_n 1, 1) := by decide +kernel
theorem dX11_init_215 : decode cX11_init 215 = .ok (.new 53, 3) := by decide +kernel
theorem dX11_init_218 : decode cX11_init 218 = .ok (.dup, 1) := by decide +kernel
theorem dX11_init_219 : decode cX11_init 219 = .ok (.invokespecial 114, 3) := by decide +kernel
theorem dX11_init_222 : decode cX11_init 222 = .ok (.aastore, 1) := by decide +kernel
theorem dX11_init_223 : decode cX11_init 223 = .ok (.iinc 1 1, 3) := by decide +kernel
theorem dX11_init_226 : decode cX11_init 226 = .ok (.goto (-21), 3) := by decide +kernel
theorem dX11_init_229 : decode cX11_init 229 = .ok (.iconst 0, 1) := by decide +kernel
theorem dX11_init_230 : decode cX11_init 230 = .ok (.istore_n 1, 1) := by decide +kernel
theorem dX11_init_231 : decode cX11_init 231 = .ok (.iload_n 1, 1) := by decide +kernel
theorem dX11_init_232 : decode cX11_init 232 = .ok (.iconst 2, 1) := by decide +kernel
theorem dX11_init_233 : decode cX11_init 233 = .ok (.if_icmp .ge 22, 3) := by decide +kernel
theorem dX11_init_236 : decode cX11_init 236 = .ok (.aload_n 0, 1) := by decide +kernel
theorem dX11_init_237 : decode cX11_init 237 = .ok (.getfield 63, 3) := by decide +kernel
theorem dX11_init_240 : decode cX11_init 240 = .ok (.iload_n 1, 1) := by decide +kernel
theorem dX11_init_241 : decode cX11_init 241 = .ok (.new 33, 3) := by decide +kernel
theorem dX11_init_244 : decode cX11_init 244 = .ok (.dup, 1) := by decide +kernel
theorem dX11_init_245 : decode cX11_init 245 = .ok (.invokespecial 35, 3) := by decide +kernel
theorem dX11_init_248 : decode cX11_init 248 = .ok (.aastore, 1) := by decide +kernel
theorem dX11_init_249 : decode cX11_init 249 = .ok (.iinc 1 1, 3) := by decide +kernel
theorem dX11_init_252 : decode cX11_init 252 = .ok (.goto (-21), 3) := by decide +kernel
theorem dX11_init_255 : decode cX11_init 255 = .ok (.return_, 1) := by decide +kernel
theorem dX11_feed_0 : decode cX11_feed 0 = .ok (.aload_n 0, 1) := by decide +kernel
theorem dX11_feed_1 : decode cX11_feed 1 = .ok (.getfield 13, 3) := by decide +kernel
theorem dX11_feed_4 : decode cX11_feed 4 = .ok (.bipush 20, 2) := by decide +kernel
theorem dX11_feed_6 : decode cX11_feed 6 = .ok (.iadd, 1) := by decide +kernel
theorem dX11_feed_7 : decode cX11_feed 7 = .ok (.sipush 900, 3) := by decide +kernel
theorem dX11_feed_10 : decode cX11_feed 10 = .ok (.if_icmp .le 6, 3) := by decide +kernel
theorem dX11_feed_13 : decode cX11_feed 13 = .ok (.bipush (-5), 2) := by decide +kernel
theorem dX11_feed_15 : decode cX11_feed 15 = .ok (.ireturn, 1) := by decide +kernel
theorem dX11_feed_16 : decode cX11_feed 16 = .ok (.aload_n 0, 1) := by decide +kernel
theorem dX11_feed_17 : decode cX11_feed 17 = .ok (.iload_n 1, 1) := by decide +kernel
theorem dX11_feed_18 : decode cX11_feed 18 = .ok (.invokevirtual 115, 3) := by decide +kernel
theorem dX11_feed_21 : decode cX11_feed 21 = .ok (.aload_n 0, 1) := by decide +kernel
theorem dX11_feed_22 : decode cX11_feed 22 = .ok (.iload_n 2, 1) := by decide +kernel
theorem dX11_feed_23 : decode cX11_feed 23 = .ok (.invokevirtual 115, 3) := by decide +kernel
theorem dX11_feed_26 : decode cX11_feed 26 = .ok (.aload_n 0, 1) := by decide +kernel
theorem dX11_feed_27 : decode cX11_feed 27 = .ok (.iload_n 3, 1) := by decide +kernel
theorem dX11_feed_28 : decode cX11_feed 28 = .ok (.invokevirtual 115, 3) := by decide +kernel
theorem dX11_feed_31 : decode cX11_feed 31 = .ok (.aload_n 0, 1) := by decide +kernel
theorem dX11_feed_32 : decode cX11_feed 32 = .ok (.iload 4, 2) := by decide +kernel
theorem dX11_feed_34 : decode cX11_feed 34 = .ok (.invokevirtual 115, 3) := by decide +kernel
theorem dX11_feed_37 : decode cX11_feed 37 = .ok (.aload_n 0, 1) := by decide +kernel
theorem dX11_feed_38 : decode cX11_feed 38 = .ok (.iload 5, 2) := by decide +kernel
theorem dX11_feed_40 : decode cX11_feed 40 = .ok (.invokevirtual 115, 3) := by decide +kernel
theorem dX11_feed_43 : decode cX11_feed 43 = .ok (.aload_n 0, 1) := by decide +kernel
theorem dX11_feed_44 : decode cX11_feed 44 = .ok (.getfield 13, 3) := by decide +kernel
theorem dX11_feed_47 : decode cX11_feed 47 = .ok (.ireturn, 1) := by decide +kernel
theorem dX11_tapeFour_0 : decode cX11_tapeFour 0 = .ok (.bipush 24, 2) := by decide +kernel
theorem dX11_tapeFour_2 : decode cX11_tapeFour 2 = .ok (.istore_n 2, 1) := by decide +kernel
theorem dX11_tapeFour_3 : decode cX11_tapeFour 3 = .ok (.iload_n 2, 1) := by decide +kernel
theorem dX11_tapeFour_4 : decode cX11_tapeFour 4 = .ok (.ifCond .lt 42, 3) := by decide +kernel
theorem dX11_tapeFour_7 : decode cX11_tapeFour 7 = .ok (.aload_n 0, 1) := by decide +kernel
theorem dX11_tapeFour_8 : decode cX11_tapeFour 8 = .ok (.getfield 13, 3) := by decide +kernel
theorem dX11_tapeFour_11 : decode cX11_tapeFour 11 = .ok (.sipush 900, 3) := by decide +kernel
theorem dX11_tapeFour_14 : decode cX11_tapeFour 14 = .ok (.if_icmp .ge 32, 3) := by decide +kernel
theorem dX11_tapeFour_17 : decode cX11_tapeFour 17 = .ok (.aload_n 0, 1) := by decide +kernel
theorem dX11_tapeFour_18 : decode cX11_tapeFour 18 = .ok (.getfield 9, 3) := by decide +kernel
theorem dX11_tapeFour_21 : decode cX11_tapeFour 21 = .ok (.aload_n 0, 1) := by decide +kernel
theorem dX11_tapeFour_22 : decode cX11_tapeFour 22 = .ok (.getfield 13, 3) := by decide +kernel
theorem dX11_tapeFour_25 : decode cX11_tapeFour 25 = .ok (.iload_n 1, 1) := by decide +kernel
theorem dX11_tapeFour_26 : decode cX11_tapeFour 26 = .ok (.iload_n 2, 1) := by decide +kernel
theorem dX11_tapeFour_27 : decode cX11_tapeFour 27 = .ok (.ishr, 1) := by decide +kernel
theorem dX11_tapeFour_28 : decode cX11_tapeFour 28 = .ok (.i2b, 1) := by decide +kernel
theorem dX11_tapeFour_29 : decode cX11_tapeFour 29 = .ok (.bastore, 1) := by decide +kernel
theorem dX11_tapeFour_30 : decode cX11_tapeFour 30 = .ok (.aload_n 0, 1) := by decide +kernel
theorem dX11_tapeFour_31 : decode cX11_tapeFour 31 = .ok (.dup, 1) := by decide +kernel
theorem dX11_tapeFour_32 : decode cX11_tapeFour 32 = .ok (.getfield 13, 3) := by decide +kernel
theorem dX11_tapeFour_35 : decode cX11_tapeFour 35 = .ok (.iconst 1, 1) := by decide +kernel
theorem dX11_tapeFour_36 : decode cX11_tapeFour 36 = .ok (.iadd, 1) := by decide +kernel
theorem dX11_tapeFour_37 : decode cX11_tapeFour 37 = .ok (.putfield 13, 3) := by decide +kernel
theorem dX11_tapeFour_40 : decode cX11_tapeFour 40 = .ok (.iinc 2 (-8), 3) := by decide +kernel
theorem dX11_tapeFour_43 : decode cX11_tapeFour 43 = .ok (.goto (-40), 3) := by decide +kernel
theorem dX11_tapeFour_46 : decode cX11_tapeFour 46 = .ok (.return_, 1) := by decide +kernel
theorem dX11_cave_0 : decode cX11_cave 0 = .ok (.iload_n 1, 1) := by decide +kernel
theorem dX11_cave_1 : decode cX11_cave 1 = .ok (.ifCond .lt 11, 3) := by decide +kernel
theorem dX11_cave_4 : decode cX11_cave 4 = .ok (.iload_n 1, 1) := by decide +kernel
theorem dX11_cave_5 : decode cX11_cave 5 = .ok (.aload_n 0, 1) := by decide +kernel
theorem dX11_cave_6 : decode cX11_cave 6 = .ok (.getfield 13, 3) := by decide +kernel
theorem dX11_cave_9 : decode cX11_cave 9 = .ok (.if_icmp .le 6, 3) := by decide +kernel
theorem dX11_cave_12 : decode cX11_cave 12 = .ok (.bipush (-3), 2) := by decide +kernel
theorem dX11_cave_14 : decode cX11_cave 14 = .ok (.ireturn, 1) := by decide +kernel
theorem dX11_cave_15 : decode cX11_cave 15 = .ok (.aload_n 0, 1) := by decide +kernel
theorem dX11_cave_16 : decode cX11_cave 16 = .ok (.iconst 0, 1) := by decide +kernel
theorem dX11_cave_17 : decode cX11_cave 17 = .ok (.putfield 13, 3) := by decide +kernel
theorem dX11_cave_20 : decode cX11_cave 20 = .ok (.aload_n 0, 1) := by decide +kernel
theorem dX11_cave_21 : decode cX11_cave 21 = .ok (.getfield 20, 3) := by decide +kernel
theorem dX11_cave_24 : decode cX11_cave 24 = .ok (.aload_n 0, 1) := by decide +kernel
theorem dX11_cave_25 : decode cX11_cave 25 = .ok (.getfield 9, 3) := by decide +kernel
theorem dX11_cave_28 : decode cX11_cave 28 = .ok (.iload_n 1, 1) := by decide +kernel
theorem dX11_cave_29 : decode cX11_cave 29 = .ok (.invokevirtual 119, 3) := by decide +kernel
theorem dX11_cave_32 : decode cX11_cave 32 = .ok (.astore_n 2, 1) := by decide +kernel
theorem dX11_cave_33 : decode cX11_cave 33 = .ok (.aload_n 2, 1) := by decide +kernel
theorem dX11_cave_34 : decode cX11_cave 34 = .ok (.ifnonnull 14, 3) := by decide +kernel
theorem dX11_cave_37 : decode cX11_cave 37 = .ok (.bipush (-30), 2) := by decide +kernel
theorem dX11_cave_39 : decode cX11_cave 39 = .ok (.aload_n 0, 1) := by decide +kernel
theorem dX11_cave_40 : decode cX11_cave 40 = .ok (.getfield 20, 3) := by decide +kernel
theorem dX11_cave_43 : decode cX11_cave 43 = .ok (.getfield 123, 3) := by decide +kernel
theorem dX11_cave_46 : decode cX11_cave 46 = .ok (.isub, 1) := by decide +kernel
theorem dX11_cave_47 : decode cX11_cave 47 = .ok (.ireturn, 1) := by decide +kernel
theorem dX11_cave_48 : decode cX11_cave 48 = .ok (.aload_n 0, 1) := by decide +kernel
theorem dX11_cave_49 : decode cX11_cave 49 = .ok (.aload_n 2, 1) := by decide +kernel
theorem dX11_cave_50 : decode cX11_cave 50 = .ok (.putfield 29, 3) := by decide +kernel
theorem dX11_cave_53 : decode cX11_cave 53 = .ok (.aload_n 0, 1) := by decide +kernel
theorem dX11_cave_54 : decode cX11_cave 54 = .ok (.getfield 36, 3) := by decide +kernel
theorem dX11_cave_57 : decode cX11_cave 57 = .ok (.aload_n 2, 1) := by decide +kernel
theorem dX11_cave_58 : decode cX11_cave 58 = .ok (.invokevirtual 126, 3) := by decide +kernel
theorem dX11_cave_61 : decode cX11_cave 61 = .ok (.aload_n 0, 1) := by decide +kernel
theorem dX11_cave_62 : decode cX11_cave 62 = .ok (.getfield 49, 3) := by decide +kernel
theorem dX11_cave_65 : decode cX11_cave 65 = .ok (.invokevirtual 129, 3) := by decide +kernel
theorem dX11_cave_68 : decode cX11_cave 68 = .ok (.aload_n 2, 1) := by decide +kernel
theorem dX11_cave_69 : decode cX11_cave 69 = .ok (.getfield 132, 3) := by decide +kernel
theorem dX11_cave_72 : decode cX11_cave 72 = .ok (.ireturn, 1) := by decide +kernel
theorem dX11_fault_0 : decode cX11_fault 0 = .ok (.iload_n 1, 1) := by decide +kernel
theorem dX11_fault_1 : decode cX11_fault 1 = .ok (.ifCond .ne 11, 3) := by decide +kernel
theorem dX11_fault_4 : decode cX11_fault 4 = .ok (.aload_n 0, 1) := by decide +kernel
theorem dX11_fault_5 : decode cX11_fault 5 = .ok (.getfield 20, 3) := by decide +kernel
theorem dX11_fault_8 : decode cX11_fault 8 = .ok (.getfield 123, 3) := by decide +kernel
theorem dX11_fault_11 : decode cX11_fault 11 = .ok (.ireturn, 1) := by decide +kernel
theorem dX11_fault_12 : decode cX11_fault 12 = .ok (.iload_n 1, 1) := by decide +kernel
theorem dX11_fault_13 : decode cX11_fault 13 = .ok (.iconst 1, 1) := by decide +kernel
theorem dX11_fault_14 : decode cX11_fault 14 = .ok (.if_icmp .ne 13, 3) := by decide +kernel
theorem dX11_fault_17 : decode cX11_fault 17 = .ok (.aload_n 0, 1) := by decide +kernel
theorem dX11_fault_18 : decode cX11_fault 18 = .ok (.getfield 20, 3) := by decide +kernel
theorem dX11_fault_21 : decode cX11_fault 21 = .ok (.getfield 135, 3) := by decide +kernel
theorem dX11_fault_24 : decode cX11_fault 24 = .ok (.goto 4, 3) := by decide +kernel
theorem dX11_fault_27 : decode cX11_fault 27 = .ok (.iconst (-1), 1) := by decide +kernel
theorem dX11_fault_28 : decode cX11_fault 28 = .ok (.ireturn, 1) := by decide +kernel
theorem dX11_pair_0 : decode cX11_pair 0 = .ok (.aload_n 0, 1) := by decide +kernel
theorem dX11_pair_1 : decode cX11_pair 1 = .ok (.iload_n 1, 1) := by decide +kernel
theorem dX11_pair_2 : decode cX11_pair 2 = .ok (.invokevirtual 138, 3) := by decide +kernel
theorem dX11_pair_5 : decode cX11_pair 5 = .ok (.ifCond .ne 6, 3) := by decide +kernel
theorem dX11_pair_8 : decode cX11_pair 8 = .ok (.bipush (-2), 2) := by decide +kernel
theorem dX11_pair_10 : decode cX11_pair 10 = .ok (.ireturn, 1) := by decide +kernel
theorem dX11_pair_11 : decode cX11_pair 11 = .ok (.iload_n 2, 1) := by decide +kernel
theorem dX11_pair_12 : decode cX11_pair 12 = .ok (.tableswitch 80 0 3 #[32, 44, 56, 68], 32) := by decide +kernel
theorem dX11_pair_44 : decode cX11_pair 44 = .ok (.aload_n 0, 1) := by decide +kernel
theorem dX11_pair_45 : decode cX11_pair 45 = .ok (.getfield 36, 3) := by decide +kernel
theorem dX11_pair_48 : decode cX11_pair 48 = .ok (.getfield 142, 3) := by decide +kernel
theorem dX11_pair_51 : decode cX11_pair 51 = .ok (.iload_n 1, 1) := by decide +kernel
theorem dX11_pair_52 : decode cX11_pair 52 = .ok (.invokestatic 145, 3) := by decide +kernel
theorem dX11_pair_55 : decode cX11_pair 55 = .ok (.ireturn, 1) := by decide +kernel
theorem dX11_pair_56 : decode cX11_pair 56 = .ok (.aload_n 0, 1) := by decide +kernel
theorem dX11_pair_57 : decode cX11_pair 57 = .ok (.getfield 36, 3) := by decide +kernel
theorem dX11_pair_60 : decode cX11_pair 60 = .ok (.getfield 149, 3) := by decide +kernel
theorem dX11_pair_63 : decode cX11_pair 63 = .ok (.iload_n 1, 1) := by decide +kernel
theorem dX11_pair_64 : decode cX11_pair 64 = .ok (.invokestatic 145, 3) := by decide +kernel
theorem dX11_pair_67 : decode cX11_pair 67 = .ok (.ireturn, 1) := by decide +kernel
theorem dX11_pair_68 : decode cX11_pair 68 = .ok (.aload_n 0, 1) := by decide +kernel
theorem dX11_pair_69 : decode cX11_pair 69 = .ok (.getfield 36, 3) := by decide +kernel
theorem dX11_pair_72 : decode cX11_pair 72 = .ok (.getfield 152, 3) := by decide +kernel
theorem dX11_pair_75 : decode cX11_pair 75 = .ok (.iload_n 1, 1) := by decide +kernel
theorem dX11_pair_76 : decode cX11_pair 76 = .ok (.invokestatic 155, 3) := by decide +kernel
theorem dX11_pair_79 : decode cX11_pair 79 = .ok (.ireturn, 1) := by decide +kernel
theorem dX11_pair_80 : decode cX11_pair 80 = .ok (.aload_n 0, 1) := by decide +kernel
theorem dX11_pair_81 : decode cX11_pair 81 = .ok (.getfield 29, 3) := by decide +kernel
theorem dX11_pair_84 : decode cX11_pair 84 = .ok (.getfield 158, 3) := by decide +kernel
theorem dX11_pair_87 : decode cX11_pair 87 = .ok (.iload_n 1, 1) := by decide +kernel
theorem dX11_pair_88 : decode cX11_pair 88 = .ok (.invokestatic 145, 3) := by decide +kernel
theorem dX11_pair_91 : decode cX11_pair 91 = .ok (.ireturn, 1) := by decide +kernel
theorem dX11_pair_92 : decode cX11_pair 92 = .ok (.bipush (-2), 2) := by decide +kernel
theorem dX11_pair_94 : decode cX11_pair 94 = .ok (.ireturn, 1) := by decide +kernel
theorem dX11_grown_0 : decode cX11_grown 0 = .ok (.aload_n 0, 1) := by decide +kernel
theorem dX11_grown_1 : decode cX11_grown 1 = .ok (.iload_n 1, 1) := by decide +kernel
theorem dX11_grown_2 : decode cX11_grown 2 = .ok (.invokevirtual 138, 3) := by decide +kernel
theorem dX11_grown_5 : decode cX11_grown 5 = .ok (.ifCond .ne 6, 3) := by decide +kernel
theorem dX11_grown_8 : decode cX11_grown 8 = .ok (.ldc 161, 2) := by decide +kernel
theorem dX11_grown_10 : decode cX11_grown 10 = .ok (.ireturn, 1) := by decide +kernel
theorem dX11_grown_11 : decode cX11_grown 11 = .ok (.iload_n 2, 1) := by decide +kernel
theorem dX11_grown_12 : decode cX11_grown 12 = .ok (.ifCond .lt 15, 3) := by decide +kernel
theorem dX11_grown_15 : decode cX11_grown 15 = .ok (.iload_n 2, 1) := by decide +kernel
theorem dX11_grown_16 : decode cX11_grown 16 = .ok (.iconst 4, 1) := by decide +kernel
theorem dX11_grown_17 : decode cX11_grown 17 = .ok (.if_icmp .gt 10, 3) := by decide +kernel
theorem dX11_grown_20 : decode cX11_grown 20 = .ok (.iload_n 3, 1) := by decide +kernel
theorem dX11_grown_21 : decode cX11_grown 21 = .ok (.invokestatic 162, 3) := by decide +kernel
theorem dX11_grown_24 : decode cX11_grown 24 = .ok (.ifCond .ne 6, 3) := by decide +kernel
theorem dX11_grown_27 : decode cX11_grown 27 = .ok (.ldc 165, 2) := by decide +kernel
theorem dX11_grown_29 : decode cX11_grown 29 = .ok (.ireturn, 1) := by decide +kernel
theorem dX11_grown_30 : decode cX11_grown 30 = .ok (.aload_n 0, 1) := by decide +kernel
theorem dX11_grown_31 : decode cX11_grown 31 = .ok (.getfield 36, 3) := by decide +kernel
theorem dX11_grown_34 : decode cX11_grown 34 = .ok (.getfield 142, 3) := by decide +kernel
theorem dX11_grown_37 : decode cX11_grown 37 = .ok (.iload_n 1, 1) := by decide +kernel
theorem dX11_grown_38 : decode cX11_grown 38 = .ok (.invokestatic 145, 3) := by decide +kernel
theorem dX11_grown_41 : decode cX11_grown 41 = .ok (.istore 4, 2) := by decide +kernel
theorem dX11_grown_43 : decode cX11_grown 43 = .ok (.iload 4, 2) := by decide +kernel
theorem dX11_grown_45 : decode cX11_grown 45 = .ok (.ifCond .ne 7, 3) := by decide +kernel
theorem dX11_grown_48 : decode cX11_grown 48 = .ok (.iconst 0, 1) := by decide +kernel
theorem dX11_grown_49 : decode cX11_grown 49 = .ok (.goto 29, 3) := by decide +kernel
theorem dX11_grown_52 : decode cX11_grown 52 = .ok (.aload_n 0, 1) := by decide +kernel
theorem dX11_grown_53 : decode cX11_grown 53 = .ok (.invokevirtual 166, 3) := by decide +kernel
theorem dX11_grown_56 : decode cX11_grown 56 = .ok (.iload_n 1, 1) := by decide +kernel
theorem dX11_grown_57 : decode cX11_grown 57 = .ok (.iload_n 2, 1) := by decide +kernel
theorem dX11_grown_58 : decode cX11_grown 58 = .ok (.iload 4, 2) := by decide +kernel
theorem dX11_grown_60 : decode cX11_grown 60 = .ok (.aload_n 0, 1) := by decide +kernel
theorem dX11_grown_61 : decode cX11_grown 61 = .ok (.getfield 29, 3) := by decide +kernel
theorem dX11_grown_64 : decode cX11_grown 64 = .ok (.aload_n 0, 1) := by decide +kernel
theorem dX11_grown_65 : decode cX11_grown 65 = .ok (.getfield 36, 3) := by decide +kernel
theorem dX11_grown_68 : decode cX11_grown 68 = .ok (.getfield 142, 3) := by decide +kernel
theorem dX11_grown_71 : decode cX11_grown 71 = .ok (.invokevirtual 170, 3) := by decide +kernel
theorem dX11_grown_74 : decode cX11_grown 74 = .ok (.iload_n 3, 1) := by decide +kernel
theorem dX11_grown_75 : decode cX11_grown 75 = .ok (.invokevirtual 174, 3) := by decide +kernel
theorem dX11_grown_78 : decode cX11_grown 78 = .ok (.ireturn, 1) := by decide +kernel
theorem dX11_leadings_0 : decode cX11_leadings 0 = .ok (.aload_n 0, 1) := by decide +kernel
theorem dX11_leadings_1 : decode cX11_leadings 1 = .ok (.getfield 29, 3) := by decide +kernel
theorem dX11_leadings_4 : decode cX11_leadings 4 = .ok (.getfield 178, 3) := by decide +kernel
theorem dX11_leadings_7 : decode cX11_leadings 7 = .ok (.arraylength, 1) := by decide +kernel
theorem dX11_leadings_8 : decode cX11_leadings 8 = .ok (.ireturn, 1) := by decide +kernel
theorem dX11_isPair_0 : decode cX11_isPair 0 = .ok (.iload_n 1, 1) := by decide +kernel
theorem dX11_isPair_1 : decode cX11_isPair 1 = .ok (.ifCond .lt 18, 3) := by decide +kernel
theorem dX11_isPair_4 : decode cX11_isPair 4 = .ok (.iload_n 1, 1) := by decide +kernel
theorem dX11_isPair_5 : decode cX11_isPair 5 = .ok (.aload_n 0, 1) := by decide +kernel
theorem dX11_isPair_6 : decode cX11_isPair 6 = .ok (.getfield 29, 3) := by decide +kernel
theorem dX11_isPair_9 : decode cX11_isPair 9 = .ok (.getfield 181, 3) := by decide +kernel
theorem dX11_isPair_12 : decode cX11_isPair 12 = .ok (.if_icmp .ge 7, 3) := by decide +kernel
theorem dX11_isPair_15 : decode cX11_isPair 15 = .ok (.iconst 1, 1) := by decide +kernel
theorem dX11_isPair_16 : decode cX11_isPair 16 = .ok (.goto 4, 3) := by decide +kernel
theorem dX11_isPair_19 : decode cX11_isPair 19 = .ok (.iconst 0, 1) := by decide +kernel
theorem dX11_isPair_20 : decode cX11_isPair 20 = .ok (.ireturn, 1) := by decide +kernel
theorem dX11_isDryness_0 : decode cX11_isDryness 0 = .ok (.iload_n 0, 1) := by decide +kernel
theorem dX11_isDryness_1 : decode cX11_isDryness 1 = .ok (.ifCond .eq 8, 3) := by decide +kernel
theorem dX11_isDryness_4 : decode cX11_isDryness 4 = .ok (.iload_n 0, 1) := by decide +kernel
theorem dX11_isDryness_5 : decode cX11_isDryness 5 = .ok (.iconst 1, 1) := by decide +kernel
theorem dX11_isDryness_6 : decode cX11_isDryness 6 = .ok (.if_icmp .ne 7, 3) := by decide +kernel
theorem dX11_isDryness_9 : decode cX11_isDryness 9 = .ok (.iconst 1, 1) := by decide +kernel
theorem dX11_isDryness_10 : decode cX11_isDryness 10 = .ok (.goto 4, 3) := by decide +kernel
theorem dX11_isDryness_13 : decode cX11_isDryness 13 = .ok (.iconst 0, 1) := by decide +kernel
theorem dX11_isDryness_14 : decode cX11_isDryness 14 = .ok (.ireturn, 1) := by decide +kernel
theorem dX11_tuned_0 : decode cX11_tuned 0 = .ok (.aload_n 0, 1) := by decide +kernel
theorem dX11_tuned_1 : decode cX11_tuned 1 = .ok (.getfield 72, 3) := by decide +kernel
theorem dX11_tuned_4 : decode cX11_tuned 4 = .ok (.aload_n 0, 1) := by decide +kernel
theorem dX11_tuned_5 : decode cX11_tuned 5 = .ok (.getfield 29, 3) := by decide +kernel
theorem dX11_tuned_8 : decode cX11_tuned 8 = .ok (.aload_n 0, 1) := by decide +kernel
theorem dX11_tuned_9 : decode cX11_tuned 9 = .ok (.getfield 36, 3) := by decide +kernel
theorem dX11_tuned_12 : decode cX11_tuned 12 = .ok (.getfield 149, 3) := by decide +kernel
theorem dX11_tuned_15 : decode cX11_tuned 15 = .ok (.invokevirtual 184, 3) := by decide +kernel
theorem dX11_tuned_18 : decode cX11_tuned 18 = .ok (.aload_n 0, 1) := by decide +kernel
theorem dX11_tuned_19 : decode cX11_tuned 19 = .ok (.getfield 72, 3) := by decide +kernel
theorem dX11_tuned_22 : decode cX11_tuned 22 = .ok (.areturn, 1) := by decide +kernel
theorem dX11_year_0 : decode cX11_year 0 = .ok (.aload_n 0, 1) := by decide +kernel
theorem dX11_year_1 : decode cX11_year 1 = .ok (.getfield 40, 3) := by decide +kernel
theorem dX11_year_4 : decode cX11_year 4 = .ok (.aload_n 0, 1) := by decide +kernel
theorem dX11_year_5 : decode cX11_year 5 = .ok (.getfield 36, 3) := by decide +kernel
theorem dX11_year_8 : decode cX11_year 8 = .ok (.invokevirtual 188, 3) := by decide +kernel
theorem dX11_year_11 : decode cX11_year 11 = .ok (.aload_n 0, 1) := by decide +kernel
theorem dX11_year_12 : decode cX11_year 12 = .ok (.aload_n 0, 1) := by decide +kernel
theorem dX11_year_13 : decode cX11_year 13 = .ok (.getfield 36, 3) := by decide +kernel
theorem dX11_year_16 : decode cX11_year 16 = .ok (.iload_n 1, 1) := by decide +kernel
theorem dX11_year_17 : decode cX11_year 17 = .ok (.invokevirtual 192, 3) := by decide +kernel
theorem dX11_year_20 : decode cX11_year 20 = .ok (.istore_n 2, 1) := by decide +kernel
theorem dX11_year_21 : decode cX11_year 21 = .ok (.iload_n 2, 1) := by decide +kernel
theorem dX11_year_22 : decode cX11_year 22 = .ok (.ifCond .eq 8, 3) := by decide +kernel
theorem dX11_year_25 : decode cX11_year 25 = .ok (.bipush (-10), 2) := by decide +kernel
theorem dX11_year_27 : decode cX11_year 27 = .ok (.iload_n 2, 1) := by decide +kernel
theorem dX11_year_28 : decode cX11_year 28 = .ok (.isub, 1) := by decide +kernel
theorem dX11_year_29 : decode cX11_year 29 = .ok (.ireturn, 1) := by decide +kernel
theorem dX11_year_30 : decode cX11_year 30 = .ok (.aload_n 0, 1) := by decide +kernel
theorem dX11_year_31 : decode cX11_year 31 = .ok (.getfield 49, 3) := by decide +kernel
theorem dX11_year_34 : decode cX11_year 34 = .ok (.aload_n 0, 1) := by decide +kernel
theorem dX11_year_35 : decode cX11_year 35 = .ok (.getfield 40, 3) := by decide +kernel
theorem dX11_year_38 : decode cX11_year 38 = .ok (.invokevirtual 196, 3) := by decide +kernel
theorem dX11_year_41 : decode cX11_year 41 = .ok (.aload_n 0, 1) := by decide +kernel
theorem dX11_year_42 : decode cX11_year 42 = .ok (.getfield 29, 3) := by decide +kernel
theorem dX11_year_45 : decode cX11_year 45 = .ok (.aload_n 0, 1) := by decide +kernel
theorem dX11_year_46 : decode cX11_year 46 = .ok (.getfield 36, 3) := by decide +kernel
theorem dX11_year_49 : decode cX11_year 49 = .ok (.getfield 142, 3) := by decide +kernel
theorem dX11_year_52 : decode cX11_year 52 = .ok (.invokevirtual 170, 3) := by decide +kernel
theorem dX11_year_55 : decode cX11_year 55 = .ok (.aload_n 0, 1) := by decide +kernel
theorem dX11_year_56 : decode cX11_year 56 = .ok (.getfield 29, 3) := by decide +kernel
theorem dX11_year_59 : decode cX11_year 59 = .ok (.aload_n 0, 1) := by decide +kernel
theorem dX11_year_60 : decode cX11_year 60 = .ok (.getfield 40, 3) := by decide +kernel
theorem dX11_year_63 : decode cX11_year 63 = .ok (.getfield 142, 3) := by decide +kernel
theorem dX11_year_66 : decode cX11_year 66 = .ok (.invokevirtual 170, 3) := by decide +kernel
theorem dX11_year_69 : decode cX11_year 69 = .ok (.isub, 1) := by decide +kernel
theorem dX11_year_70 : decode cX11_year 70 = .ok (.ireturn, 1) := by decide +kernel
theorem dX11_lead_0 : decode cX11_lead 0 = .ok (.aload_n 0, 1) := by decide +kernel
theorem dX11_lead_1 : decode cX11_lead 1 = .ok (.getfield 40, 3) := by decide +kernel
theorem dX11_lead_4 : decode cX11_lead 4 = .ok (.aload_n 0, 1) := by decide +kernel
theorem dX11_lead_5 : decode cX11_lead 5 = .ok (.getfield 36, 3) := by decide +kernel
theorem dX11_lead_8 : decode cX11_lead 8 = .ok (.invokevirtual 188, 3) := by decide +kernel
theorem dX11_lead_11 : decode cX11_lead 11 = .ok (.aload_n 0, 1) := by decide +kernel
theorem dX11_lead_12 : decode cX11_lead 12 = .ok (.aload_n 0, 1) := by decide +kernel
theorem dX11_lead_13 : decode cX11_lead 13 = .ok (.getfield 36, 3) := by decide +kernel
theorem dX11_lead_16 : decode cX11_lead 16 = .ok (.iload_n 1, 1) := by decide +kernel
theorem dX11_lead_17 : decode cX11_lead 17 = .ok (.invokevirtual 199, 3) := by decide +kernel
theorem dX11_lead_20 : decode cX11_lead 20 = .ok (.istore_n 2, 1) := by decide +kernel
theorem dX11_lead_21 : decode cX11_lead 21 = .ok (.iload_n 2, 1) := by decide +kernel
theorem dX11_lead_22 : decode cX11_lead 22 = .ok (.ifCond .eq 8, 3) := by decide +kernel
theorem dX11_lead_25 : decode cX11_lead 25 = .ok (.bipush (-10), 2) := by decide +kernel
theorem dX11_lead_27 : decode cX11_lead 27 = .ok (.iload_n 2, 1) := by decide +kernel
theorem dX11_lead_28 : decode cX11_lead 28 = .ok (.isub, 1) := by decide +kernel
theorem dX11_lead_29 : decode cX11_lead 29 = .ok (.ireturn, 1) := by decide +kernel
theorem dX11_lead_30 : decode cX11_lead 30 = .ok (.aload_n 0, 1) := by decide +kernel
theorem dX11_lead_31 : decode cX11_lead 31 = .ok (.getfield 49, 3) := by decide +kernel
theorem dX11_lead_34 : decode cX11_lead 34 = .ok (.aload_n 0, 1) := by decide +kernel
theorem dX11_lead_35 : decode cX11_lead 35 = .ok (.getfield 40, 3) := by decide +kernel
theorem dX11_lead_38 : decode cX11_lead 38 = .ok (.invokevirtual 196, 3) := by decide +kernel
theorem dX11_lead_41 : decode cX11_lead 41 = .ok (.aload_n 0, 1) := by decide +kernel
theorem dX11_lead_42 : decode cX11_lead 42 = .ok (.getfield 40, 3) := by decide +kernel
theorem dX11_lead_45 : decode cX11_lead 45 = .ok (.getfield 152, 3) := by decide +kernel
theorem dX11_lead_48 : decode cX11_lead 48 = .ok (.ireturn, 1) := by decide +kernel
theorem dX11_saw_0 : decode cX11_saw 0 = .ok (.aload_n 0, 1) := by decide +kernel
theorem dX11_saw_1 : decode cX11_saw 1 = .ok (.getfield 40, 3) := by decide +kernel
theorem dX11_saw_4 : decode cX11_saw 4 = .ok (.aload_n 0, 1) := by decide +kernel
theorem dX11_saw_5 : decode cX11_saw 5 = .ok (.getfield 36, 3) := by decide +kernel
theorem dX11_saw_8 : decode cX11_saw 8 = .ok (.invokevirtual 188, 3) := by decide +kernel
theorem dX11_saw_11 : decode cX11_saw 11 = .ok (.aload_n 0, 1) := by decide +kernel
theorem dX11_saw_12 : decode cX11_saw 12 = .ok (.aload_n 0, 1) := by decide +kernel
theorem dX11_saw_13 : decode cX11_saw 13 = .ok (.getfield 36, 3) := by decide +kernel
theorem dX11_saw_16 : decode cX11_saw 16 = .ok (.iload_n 1, 1) := by decide +kernel
theorem dX11_saw_17 : decode cX11_saw 17 = .ok (.invokevirtual 202, 3) := by decide +kernel
theorem dX11_saw_20 : decode cX11_saw 20 = .ok (.istore_n 2, 1) := by decide +kernel
theorem dX11_saw_21 : decode cX11_saw 21 = .ok (.iload_n 2, 1) := by decide +kernel
theorem dX11_saw_22 : decode cX11_saw 22 = .ok (.ifCond .eq 8, 3) := by decide +kernel
theorem dX11_saw_25 : decode cX11_saw 25 = .ok (.bipush (-10), 2) := by decide +kernel
theorem dX11_saw_27 : decode cX11_saw 27 = .ok (.iload_n 2, 1) := by decide +kernel
theorem dX11_saw_28 : decode cX11_saw 28 = .ok (.isub, 1) := by decide +kernel
theorem dX11_saw_29 : decode cX11_saw 29 = .ok (.ireturn, 1) := by decide +kernel
theorem dX11_saw_30 : decode cX11_saw 30 = .ok (.aload_n 0, 1) := by decide +kernel
theorem dX11_saw_31 : decode cX11_saw 31 = .ok (.getfield 49, 3) := by decide +kernel
theorem dX11_saw_34 : decode cX11_saw 34 = .ok (.aload_n 0, 1) := by decide +kernel
theorem dX11_saw_35 : decode cX11_saw 35 = .ok (.getfield 40, 3) := by decide +kernel
theorem dX11_saw_38 : decode cX11_saw 38 = .ok (.invokevirtual 196, 3) := by decide +kernel
theorem dX11_saw_41 : decode cX11_saw 41 = .ok (.aload_n 0, 1) := by decide +kernel
theorem dX11_saw_42 : decode cX11_saw 42 = .ok (.getfield 40, 3) := by decide +kernel
theorem dX11_saw_45 : decode cX11_saw 45 = .ok (.getfield 142, 3) := by decide +kernel
theorem dX11_saw_48 : decode cX11_saw 48 = .ok (.iload_n 1, 1) := by decide +kernel
theorem dX11_saw_49 : decode cX11_saw 49 = .ok (.invokestatic 145, 3) := by decide +kernel
theorem dX11_saw_52 : decode cX11_saw 52 = .ok (.ireturn, 1) := by decide +kernel
theorem dX11_chalk_0 : decode cX11_chalk 0 = .ok (.aload_n 0, 1) := by decide +kernel
theorem dX11_chalk_1 : decode cX11_chalk 1 = .ok (.getfield 40, 3) := by decide +kernel
theorem dX11_chalk_4 : decode cX11_chalk 4 = .ok (.aload_n 0, 1) := by decide +kernel
theorem dX11_chalk_5 : decode cX11_chalk 5 = .ok (.getfield 36, 3) := by decide +kernel
theorem dX11_chalk_8 : decode cX11_chalk 8 = .ok (.invokevirtual 188, 3) := by decide +kernel
theorem dX11_chalk_11 : decode cX11_chalk 11 = .ok (.aload_n 0, 1) := by decide +kernel
theorem dX11_chalk_12 : decode cX11_chalk 12 = .ok (.aload_n 0, 1) := by decide +kernel
theorem dX11_chalk_13 : decode cX11_chalk 13 = .ok (.getfield 36, 3) := by decide +kernel
theorem dX11_chalk_16 : decode cX11_chalk 16 = .ok (.iload_n 1, 1) := by decide +kernel
theorem dX11_chalk_17 : decode cX11_chalk 17 = .ok (.iload_n 2, 1) := by decide +kernel
theorem dX11_chalk_18 : decode cX11_chalk 18 = .ok (.invokevirtual 205, 3) := by decide +kernel
theorem dX11_chalk_21 : decode cX11_chalk 21 = .ok (.istore_n 3, 1) := by decide +kernel
theorem dX11_chalk_22 : decode cX11_chalk 22 = .ok (.iload_n 3, 1) := by decide +kernel
theorem dX11_chalk_23 : decode cX11_chalk 23 = .ok (.ifCond .eq 8, 3) := by decide +kernel
theorem dX11_chalk_26 : decode cX11_chalk 26 = .ok (.bipush (-10), 2) := by decide +kernel
theorem dX11_chalk_28 : decode cX11_chalk 28 = .ok (.iload_n 3, 1) := by decide +kernel
theorem dX11_chalk_29 : decode cX11_chalk 29 = .ok (.isub, 1) := by decide +kernel
theorem dX11_chalk_30 : decode cX11_chalk 30 = .ok (.ireturn, 1) := by decide +kernel
theorem dX11_chalk_31 : decode cX11_chalk 31 = .ok (.aload_n 0, 1) := by decide +kernel
theorem dX11_chalk_32 : decode cX11_chalk 32 = .ok (.getfield 49, 3) := by decide +kernel
theorem dX11_chalk_35 : decode cX11_chalk 35 = .ok (.aload_n 0, 1) := by decide +kernel
theorem dX11_chalk_36 : decode cX11_chalk 36 = .ok (.getfield 40, 3) := by decide +kernel
theorem dX11_chalk_39 : decode cX11_chalk 39 = .ok (.invokevirtual 196, 3) := by decide +kernel
theorem dX11_chalk_42 : decode cX11_chalk 42 = .ok (.aload_n 0, 1) := by decide +kernel
theorem dX11_chalk_43 : decode cX11_chalk 43 = .ok (.getfield 40, 3) := by decide +kernel
theorem dX11_chalk_46 : decode cX11_chalk 46 = .ok (.getfield 149, 3) := by decide +kernel
theorem dX11_chalk_49 : decode cX11_chalk 49 = .ok (.iload_n 1, 1) := by decide +kernel
theorem dX11_chalk_50 : decode cX11_chalk 50 = .ok (.invokestatic 145, 3) := by decide +kernel
theorem dX11_chalk_53 : decode cX11_chalk 53 = .ok (.ireturn, 1) := by decide +kernel
theorem dX11_undo_0 : decode cX11_undo 0 = .ok (.iload_n 1, 1) := by decide +kernel
theorem dX11_undo_1 : decode cX11_undo 1 = .ok (.iconst 1, 1) := by decide +kernel
theorem dX11_undo_2 : decode cX11_undo 2 = .ok (.if_icmp .lt 14, 3) := by decide +kernel
theorem dX11_undo_5 : decode cX11_undo 5 = .ok (.iload_n 1, 1) := by decide +kernel
theorem dX11_undo_6 : decode cX11_undo 6 = .ok (.aload_n 0, 1) := by decide +kernel
theorem dX11_undo_7 : decode cX11_undo 7 = .ok (.getfield 49, 3) := by decide +kernel
theorem dX11_undo_10 : decode cX11_undo 10 = .ok (.getfield 209, 3) := by decide +kernel
theorem dX11_undo_13 : decode cX11_undo 13 = .ok (.if_icmp .le 6, 3) := by decide +kernel
theorem dX11_undo_16 : decode cX11_undo 16 = .ok (.bipush (-3), 2) := by decide +kernel
theorem dX11_undo_18 : decode cX11_undo 18 = .ok (.ireturn, 1) := by decide +kernel
theorem dX11_undo_19 : decode cX11_undo 19 = .ok (.iconst 0, 1) := by decide +kernel
theorem dX11_undo_20 : decode cX11_undo 20 = .ok (.istore_n 2, 1) := by decide +kernel
theorem dX11_undo_21 : decode cX11_undo 21 = .ok (.iload_n 2, 1) := by decide +kernel
theorem dX11_undo_22 : decode cX11_undo 22 = .ok (.iload_n 1, 1) := by decide +kernel
theorem dX11_undo_23 : decode cX11_undo 23 = .ok (.if_icmp .ge 20, 3) := by decide +kernel
theorem dX11_undo_26 : decode cX11_undo 26 = .ok (.aload_n 0, 1) := by decide +kernel
theorem dX11_undo_27 : decode cX11_undo 27 = .ok (.getfield 49, 3) := by decide +kernel
theorem dX11_undo_30 : decode cX11_undo 30 = .ok (.aload_n 0, 1) := by decide +kernel
theorem dX11_undo_31 : decode cX11_undo 31 = .ok (.getfield 36, 3) := by decide +kernel
theorem dX11_undo_34 : decode cX11_undo 34 = .ok (.invokevirtual 212, 3) := by decide +kernel
theorem dX11_undo_37 : decode cX11_undo 37 = .ok (.iinc 2 1, 3) := by decide +kernel
theorem dX11_undo_40 : decode cX11_undo 40 = .ok (.goto (-19), 3) := by decide +kernel
theorem dX11_undo_43 : decode cX11_undo 43 = .ok (.aload_n 0, 1) := by decide +kernel
theorem dX11_undo_44 : decode cX11_undo 44 = .ok (.getfield 49, 3) := by decide +kernel
theorem dX11_undo_47 : decode cX11_undo 47 = .ok (.getfield 209, 3) := by decide +kernel
theorem dX11_undo_50 : decode cX11_undo 50 = .ok (.ireturn, 1) := by decide +kernel
theorem dX11_judge_0 : decode cX11_judge 0 = .ok (.iload_n 1, 1) := by decide +kernel
theorem dX11_judge_1 : decode cX11_judge 1 = .ok (.invokestatic 215, 3) := by decide +kernel
theorem dX11_judge_4 : decode cX11_judge 4 = .ok (.ifCond .eq 12, 3) := by decide +kernel
theorem dX11_judge_7 : decode cX11_judge 7 = .ok (.iload_n 2, 1) := by decide +kernel
theorem dX11_judge_8 : decode cX11_judge 8 = .ok (.ifCond .lt 8, 3) := by decide +kernel
theorem dX11_judge_11 : decode cX11_judge 11 = .ok (.iload_n 2, 1) := by decide +kernel
theorem dX11_judge_12 : decode cX11_judge 12 = .ok (.iconst 3, 1) := by decide +kernel
theorem dX11_judge_13 : decode cX11_judge 13 = .ok (.if_icmp .le 6, 3) := by decide +kernel
theorem dX11_judge_16 : decode cX11_judge 16 = .ok (.bipush (-2), 2) := by decide +kernel
theorem dX11_judge_18 : decode cX11_judge 18 = .ok (.ireturn, 1) := by decide +kernel
theorem dX11_judge_19 : decode cX11_judge 19 = .ok (.aload_n 0, 1) := by decide +kernel
theorem dX11_judge_20 : decode cX11_judge 20 = .ok (.getfield 55, 3) := by decide +kernel
theorem dX11_judge_23 : decode cX11_judge 23 = .ok (.iload_n 1, 1) := by decide +kernel
theorem dX11_judge_24 : decode cX11_judge 24 = .ok (.aaload, 1) := by decide +kernel
theorem dX11_judge_25 : decode cX11_judge 25 = .ok (.astore_n 3, 1) := by decide +kernel
theorem dX11_judge_26 : decode cX11_judge 26 = .ok (.aload_n 3, 1) := by decide +kernel
theorem dX11_judge_27 : decode cX11_judge 27 = .ok (.getfield 218, 3) := by decide +kernel
theorem dX11_judge_30 : decode cX11_judge 30 = .ok (.ifCond .eq 6, 3) := by decide +kernel
theorem dX11_judge_33 : decode cX11_judge 33 = .ok (.bipush (-6), 2) := by decide +kernel
theorem dX11_judge_35 : decode cX11_judge 35 = .ok (.ireturn, 1) := by decide +kernel
theorem dX11_judge_36 : decode cX11_judge 36 = .ok (.aload_n 0, 1) := by decide +kernel
theorem dX11_judge_37 : decode cX11_judge 37 = .ok (.getfield 43, 3) := by decide +kernel
theorem dX11_judge_40 : decode cX11_judge 40 = .ok (.aload_n 0, 1) := by decide +kernel
theorem dX11_judge_41 : decode cX11_judge 41 = .ok (.getfield 36, 3) := by decide +kernel
theorem dX11_judge_44 : decode cX11_judge 44 = .ok (.invokevirtual 188, 3) := by decide +kernel
theorem dX11_judge_47 : decode cX11_judge 47 = .ok (.iconst 0, 1) := by decide +kernel
theorem dX11_judge_48 : decode cX11_judge 48 = .ok (.istore 4, 2) := by decide +kernel
theorem dX11_judge_50 : decode cX11_judge 50 = .ok (.iconst 0, 1) := by decide +kernel
theorem dX11_judge_51 : decode cX11_judge 51 = .ok (.istore 5, 2) := by decide +kernel
theorem dX11_judge_53 : decode cX11_judge 53 = .ok (.iload 4, 2) := by decide +kernel
theorem dX11_judge_55 : decode cX11_judge 55 = .ok (.aload_n 3, 1) := by decide +kernel
theorem dX11_judge_56 : decode cX11_judge 56 = .ok (.getfield 222, 3) := by decide +kernel
theorem dX11_judge_59 : decode cX11_judge 59 = .ok (.if_icmp .ge 30, 3) := by decide +kernel
theorem dX11_judge_62 : decode cX11_judge 62 = .ok (.iload 5, 2) := by decide +kernel
theorem dX11_judge_64 : decode cX11_judge 64 = .ok (.ifCond .ne 25, 3) := by decide +kernel
theorem dX11_judge_67 : decode cX11_judge 67 = .ok (.aload_n 0, 1) := by decide +kernel
theorem dX11_judge_68 : decode cX11_judge 68 = .ok (.aload_n 0, 1) := by decide +kernel
theorem dX11_judge_69 : decode cX11_judge 69 = .ok (.getfield 43, 3) := by decide +kernel
theorem dX11_judge_72 : decode cX11_judge 72 = .ok (.aload_n 3, 1) := by decide +kernel
theorem dX11_judge_73 : decode cX11_judge 73 = .ok (.iload 4, 2) := by decide +kernel
theorem dX11_judge_75 : decode cX11_judge 75 = .ok (.invokevirtual 223, 3) := by decide +kernel
theorem dX11_judge_78 : decode cX11_judge 78 = .ok (.invokevirtual 227, 3) := by decide +kernel
theorem dX11_judge_81 : decode cX11_judge 81 = .ok (.istore 5, 2) := by decide +kernel
theorem dX11_judge_83 : decode cX11_judge 83 = .ok (.iinc 4 1, 3) := by decide +kernel
theorem dX11_judge_86 : decode cX11_judge 86 = .ok (.goto (-33), 3) := by decide +kernel
theorem dX11_judge_89 : decode cX11_judge 89 = .ok (.iload_n 2, 1) := by decide +kernel
theorem dX11_judge_90 : decode cX11_judge 90 = .ok (.tableswitch 58 0 2 #[26, 40, 43], 26) := by decide +kernel
theorem dX11_judge_116 : decode cX11_judge 116 = .ok (.iload 5, 2) := by decide +kernel
theorem dX11_judge_118 : decode cX11_judge 118 = .ok (.ifCond .ne 7, 3) := by decide +kernel
theorem dX11_judge_121 : decode cX11_judge 121 = .ok (.iconst (-1), 1) := by decide +kernel
theorem dX11_judge_122 : decode cX11_judge 122 = .ok (.goto 7, 3) := by decide +kernel
theorem dX11_judge_125 : decode cX11_judge 125 = .ok (.iload 4, 2) := by decide +kernel
theorem dX11_judge_127 : decode cX11_judge 127 = .ok (.iconst 1, 1) := by decide +kernel
theorem dX11_judge_128 : decode cX11_judge 128 = .ok (.isub, 1) := by decide +kernel
theorem dX11_judge_129 : decode cX11_judge 129 = .ok (.ireturn, 1) := by decide +kernel
theorem dX11_judge_130 : decode cX11_judge 130 = .ok (.iload 5, 2) := by decide +kernel
theorem dX11_judge_132 : decode cX11_judge 132 = .ok (.ireturn, 1) := by decide +kernel
theorem dX11_judge_133 : decode cX11_judge 133 = .ok (.aload_n 0, 1) := by decide +kernel
theorem dX11_judge_134 : decode cX11_judge 134 = .ok (.getfield 29, 3) := by decide +kernel
theorem dX11_judge_137 : decode cX11_judge 137 = .ok (.aload_n 0, 1) := by decide +kernel
theorem dX11_judge_138 : decode cX11_judge 138 = .ok (.getfield 43, 3) := by decide +kernel
theorem dX11_judge_141 : decode cX11_judge 141 = .ok (.getfield 142, 3) := by decide +kernel
theorem dX11_judge_144 : decode cX11_judge 144 = .ok (.invokevirtual 231, 3) := by decide +kernel
theorem dX11_judge_147 : decode cX11_judge 147 = .ok (.ireturn, 1) := by decide +kernel
theorem dX11_judge_148 : decode cX11_judge 148 = .ok (.aload_n 0, 1) := by decide +kernel
theorem dX11_judge_149 : decode cX11_judge 149 = .ok (.getfield 29, 3) := by decide +kernel
theorem dX11_judge_152 : decode cX11_judge 152 = .ok (.aload_n 0, 1) := by decide +kernel
theorem dX11_judge_153 : decode cX11_judge 153 = .ok (.getfield 43, 3) := by decide +kernel
theorem dX11_judge_156 : decode cX11_judge 156 = .ok (.getfield 142, 3) := by decide +kernel
theorem dX11_judge_159 : decode cX11_judge 159 = .ok (.invokevirtual 234, 3) := by decide +kernel
theorem dX11_judge_162 : decode cX11_judge 162 = .ok (.ireturn, 1) := by decide +kernel
theorem dX11_perform_0 : decode cX11_perform 0 = .ok (.iload_n 1, 1) := by decide +kernel
theorem dX11_perform_1 : decode cX11_perform 1 = .ok (.invokestatic 215, 3) := by decide +kernel
theorem dX11_perform_4 : decode cX11_perform 4 = .ok (.ifCond .ne 6, 3) := by decide +kernel
theorem dX11_perform_7 : decode cX11_perform 7 = .ok (.bipush (-2), 2) := by decide +kernel
theorem dX11_perform_9 : decode cX11_perform 9 = .ok (.ireturn, 1) := by decide +kernel
theorem dX11_perform_10 : decode cX11_perform 10 = .ok (.aload_n 0, 1) := by decide +kernel
theorem dX11_perform_11 : decode cX11_perform 11 = .ok (.getfield 55, 3) := by decide +kernel
theorem dX11_perform_14 : decode cX11_perform 14 = .ok (.iload_n 1, 1) := by decide +kernel
theorem dX11_perform_15 : decode cX11_perform 15 = .ok (.aaload, 1) := by decide +kernel
theorem dX11_perform_16 : decode cX11_perform 16 = .ok (.astore_n 2, 1) := by decide +kernel
theorem dX11_perform_17 : decode cX11_perform 17 = .ok (.aload_n 2, 1) := by decide +kernel
theorem dX11_perform_18 : decode cX11_perform 18 = .ok (.getfield 218, 3) := by decide +kernel
theorem dX11_perform_21 : decode cX11_perform 21 = .ok (.ifCond .eq 6, 3) := by decide +kernel
theorem dX11_perform_24 : decode cX11_perform 24 = .ok (.bipush (-6), 2) := by decide +kernel
theorem dX11_perform_26 : decode cX11_perform 26 = .ok (.ireturn, 1) := by decide +kernel
theorem dX11_perform_27 : decode cX11_perform 27 = .ok (.aload_n 0, 1) := by decide +kernel
theorem dX11_perform_28 : decode cX11_perform 28 = .ok (.getfield 40, 3) := by decide +kernel
theorem dX11_perform_31 : decode cX11_perform 31 = .ok (.aload_n 0, 1) := by decide +kernel
theorem dX11_perform_32 : decode cX11_perform 32 = .ok (.getfield 36, 3) := by decide +kernel
theorem dX11_perform_35 : decode cX11_perform 35 = .ok (.invokevirtual 188, 3) := by decide +kernel
theorem dX11_perform_38 : decode cX11_perform 38 = .ok (.iconst 0, 1) := by decide +kernel
theorem dX11_perform_39 : decode cX11_perform 39 = .ok (.istore_n 3, 1) := by decide +kernel
theorem dX11_perform_40 : decode cX11_perform 40 = .ok (.iload_n 3, 1) := by decide +kernel
theorem dX11_perform_41 : decode cX11_perform 41 = .ok (.aload_n 2, 1) := by decide +kernel
theorem dX11_perform_42 : decode cX11_perform 42 = .ok (.getfield 222, 3) := by decide +kernel
theorem dX11_perform_45 : decode cX11_perform 45 = .ok (.if_icmp .ge 25, 3) := by decide +kernel
theorem dX11_perform_48 : decode cX11_perform 48 = .ok (.aload_n 0, 1) := by decide +kernel
theorem dX11_perform_49 : decode cX11_perform 49 = .ok (.aload_n 0, 1) := by decide +kernel
theorem dX11_perform_50 : decode cX11_perform 50 = .ok (.getfield 36, 3) := by decide +kernel
theorem dX11_perform_53 : decode cX11_perform 53 = .ok (.aload_n 2, 1) := by decide +kernel
theorem dX11_perform_54 : decode cX11_perform 54 = .ok (.iload_n 3, 1) := by decide +kernel
theorem dX11_perform_55 : decode cX11_perform 55 = .ok (.invokevirtual 223, 3) := by decide +kernel
theorem dX11_perform_58 : decode cX11_perform 58 = .ok (.invokevirtual 227, 3) := by decide +kernel
theorem dX11_perform_61 : decode cX11_perform 61 = .ok (.ifCond .ne 9, 3) := by decide +kernel
theorem dX11_perform_64 : decode cX11_perform 64 = .ok (.iinc 3 1, 3) := by decide +kernel
theorem dX11_perform_67 : decode cX11_perform 67 = .ok (.goto (-27), 3) := by decide +kernel
theorem dX11_perform_70 : decode cX11_perform 70 = .ok (.iload_n 3, 1) := by decide +kernel
theorem dX11_perform_71 : decode cX11_perform 71 = .ok (.ifCond .le 14, 3) := by decide +kernel
theorem dX11_perform_74 : decode cX11_perform 74 = .ok (.aload_n 0, 1) := by decide +kernel
theorem dX11_perform_75 : decode cX11_perform 75 = .ok (.getfield 49, 3) := by decide +kernel
theorem dX11_perform_78 : decode cX11_perform 78 = .ok (.aload_n 0, 1) := by decide +kernel
theorem dX11_perform_79 : decode cX11_perform 79 = .ok (.getfield 40, 3) := by decide +kernel
theorem dX11_perform_82 : decode cX11_perform 82 = .ok (.invokevirtual 196, 3) := by decide +kernel
theorem dX11_perform_85 : decode cX11_perform 85 = .ok (.iload_n 3, 1) := by decide +kernel
theorem dX11_perform_86 : decode cX11_perform 86 = .ok (.ireturn, 1) := by decide +kernel
theorem dX11_age_0 : decode cX11_age 0 = .ok (.iload_n 2, 1) := by decide +kernel
theorem dX11_age_1 : decode cX11_age 1 = .ok (.iconst 1, 1) := by decide +kernel
theorem dX11_age_2 : decode cX11_age 2 = .ok (.if_icmp .lt 9, 3) := by decide +kernel
theorem dX11_age_5 : decode cX11_age 5 = .ok (.iload_n 2, 1) := by decide +kernel
theorem dX11_age_6 : decode cX11_age 6 = .ok (.bipush 40, 2) := by decide +kernel
theorem dX11_age_8 : decode cX11_age 8 = .ok (.if_icmp .le 6, 3) := by decide +kernel
theorem dX11_age_11 : decode cX11_age 11 = .ok (.bipush (-3), 2) := by decide +kernel
theorem dX11_age_13 : decode cX11_age 13 = .ok (.ireturn, 1) := by decide +kernel
theorem dX11_age_14 : decode cX11_age 14 = .ok (.aload_n 0, 1) := by decide +kernel
theorem dX11_age_15 : decode cX11_age 15 = .ok (.getfield 40, 3) := by decide +kernel
theorem dX11_age_18 : decode cX11_age 18 = .ok (.aload_n 0, 1) := by decide +kernel
theorem dX11_age_19 : decode cX11_age 19 = .ok (.getfield 36, 3) := by decide +kernel
theorem dX11_age_22 : decode cX11_age 22 = .ok (.invokevirtual 188, 3) := by decide +kernel
theorem dX11_age_25 : decode cX11_age 25 = .ok (.aload_n 0, 1) := by decide +kernel
theorem dX11_age_26 : decode cX11_age 26 = .ok (.iload_n 1, 1) := by decide +kernel
theorem dX11_age_27 : decode cX11_age 27 = .ok (.putfield 111, 3) := by decide +kernel
theorem dX11_age_30 : decode cX11_age 30 = .ok (.iconst 0, 1) := by decide +kernel
theorem dX11_age_31 : decode cX11_age 31 = .ok (.istore_n 3, 1) := by decide +kernel
theorem dX11_age_32 : decode cX11_age 32 = .ok (.iconst 0, 1) := by decide +kernel
theorem dX11_age_33 : decode cX11_age 33 = .ok (.istore 4, 2) := by decide +kernel
theorem dX11_age_35 : decode cX11_age 35 = .ok (.iload 4, 2) := by decide +kernel
theorem dX11_age_37 : decode cX11_age 37 = .ok (.iload_n 2, 1) := by decide +kernel
theorem dX11_age_38 : decode cX11_age 38 = .ok (.if_icmp .ge 28, 3) := by decide +kernel
theorem dX11_age_41 : decode cX11_age 41 = .ok (.aload_n 0, 1) := by decide +kernel
theorem dX11_age_42 : decode cX11_age 42 = .ok (.aload_n 0, 1) := by decide +kernel
theorem dX11_age_43 : decode cX11_age 43 = .ok (.getfield 36, 3) := by decide +kernel
theorem dX11_age_46 : decode cX11_age 46 = .ok (.aload_n 0, 1) := by decide +kernel
theorem dX11_age_47 : decode cX11_age 47 = .ok (.invokevirtual 237, 3) := by decide +kernel
theorem dX11_age_50 : decode cX11_age 50 = .ok (.i2l, 1) := by decide +kernel
theorem dX11_age_51 : decode cX11_age 51 = .ok (.invokevirtual 227, 3) := by decide +kernel
theorem dX11_age_54 : decode cX11_age 54 = .ok (.ifCond .ne 6, 3) := by decide +kernel
theorem dX11_age_57 : decode cX11_age 57 = .ok (.iinc 3 1, 3) := by decide +kernel
theorem dX11_age_60 : decode cX11_age 60 = .ok (.iinc 4 1, 3) := by decide +kernel
theorem dX11_age_63 : decode cX11_age 63 = .ok (.goto (-28), 3) := by decide +kernel
theorem dX11_age_66 : decode cX11_age 66 = .ok (.iload_n 3, 1) := by decide +kernel
theorem dX11_age_67 : decode cX11_age 67 = .ok (.ifCond .le 14, 3) := by decide +kernel
theorem dX11_age_70 : decode cX11_age 70 = .ok (.aload_n 0, 1) := by decide +kernel
theorem dX11_age_71 : decode cX11_age 71 = .ok (.getfield 49, 3) := by decide +kernel
theorem dX11_age_74 : decode cX11_age 74 = .ok (.aload_n 0, 1) := by decide +kernel
theorem dX11_age_75 : decode cX11_age 75 = .ok (.getfield 40, 3) := by decide +kernel
theorem dX11_age_78 : decode cX11_age 78 = .ok (.invokevirtual 196, 3) := by decide +kernel
theorem dX11_age_81 : decode cX11_age 81 = .ok (.iload_n 3, 1) := by decide +kernel
theorem dX11_age_82 : decode cX11_age 82 = .ok (.ireturn, 1) := by decide +kernel
theorem dX11_drawDeed_0 : decode cX11_drawDeed 0 = .ok (.aload_n 0, 1) := by decide +kernel
theorem dX11_drawDeed_1 : decode cX11_drawDeed 1 = .ok (.invokevirtual 241, 3) := by decide +kernel
theorem dX11_drawDeed_4 : decode cX11_drawDeed 4 = .ok (.bipush 6, 2) := by decide +kernel
theorem dX11_drawDeed_6 : decode cX11_drawDeed 6 = .ok (.irem, 1) := by decide +kernel
theorem dX11_drawDeed_7 : decode cX11_drawDeed 7 = .ok (.istore_n 1, 1) := by decide +kernel
theorem dX11_drawDeed_8 : decode cX11_drawDeed 8 = .ok (.iload_n 1, 1) := by decide +kernel
theorem dX11_drawDeed_9 : decode cX11_drawDeed 9 = .ok (.iconst 2, 1) := by decide +kernel
theorem dX11_drawDeed_10 : decode cX11_drawDeed 10 = .ok (.if_icmp .gt 18, 3) := by decide +kernel
theorem dX11_drawDeed_13 : decode cX11_drawDeed 13 = .ok (.aload_n 0, 1) := by decide +kernel
theorem dX11_drawDeed_14 : decode cX11_drawDeed 14 = .ok (.invokevirtual 241, 3) := by decide +kernel
theorem dX11_drawDeed_17 : decode cX11_drawDeed 17 = .ok (.iconst 3, 1) := by decide +kernel
theorem dX11_drawDeed_18 : decode cX11_drawDeed 18 = .ok (.irem, 1) := by decide +kernel
theorem dX11_drawDeed_19 : decode cX11_drawDeed 19 = .ok (.ifCond .ne 7, 3) := by decide +kernel
theorem dX11_drawDeed_22 : decode cX11_drawDeed 22 = .ok (.iconst 1, 1) := by decide +kernel
theorem dX11_drawDeed_23 : decode cX11_drawDeed 23 = .ok (.goto 4, 3) := by decide +kernel
theorem dX11_drawDeed_26 : decode cX11_drawDeed 26 = .ok (.iconst 0, 1) := by decide +kernel
theorem dX11_drawDeed_27 : decode cX11_drawDeed 27 = .ok (.ireturn, 1) := by decide +kernel
theorem dX11_drawDeed_28 : decode cX11_drawDeed 28 = .ok (.iload_n 1, 1) := by decide +kernel
theorem dX11_drawDeed_29 : decode cX11_drawDeed 29 = .ok (.iconst 3, 1) := by decide +kernel
theorem dX11_drawDeed_30 : decode cX11_drawDeed 30 = .ok (.if_icmp .ne 13, 3) := by decide +kernel
theorem dX11_drawDeed_33 : decode cX11_drawDeed 33 = .ok (.bipush 10, 2) := by decide +kernel
theorem dX11_drawDeed_35 : decode cX11_drawDeed 35 = .ok (.aload_n 0, 1) := by decide +kernel
theorem dX11_drawDeed_36 : decode cX11_drawDeed 36 = .ok (.invokevirtual 241, 3) := by decide +kernel
theorem dX11_drawDeed_39 : decode cX11_drawDeed 39 = .ok (.iconst 4, 1) := by decide +kernel
theorem dX11_drawDeed_40 : decode cX11_drawDeed 40 = .ok (.irem, 1) := by decide +kernel
theorem dX11_drawDeed_41 : decode cX11_drawDeed 41 = .ok (.iadd, 1) := by decide +kernel
theorem dX11_drawDeed_42 : decode cX11_drawDeed 42 = .ok (.ireturn, 1) := by decide +kernel
theorem dX11_drawDeed_43 : decode cX11_drawDeed 43 = .ok (.iload_n 1, 1) := by decide +kernel
theorem dX11_drawDeed_44 : decode cX11_drawDeed 44 = .ok (.iconst 4, 1) := by decide +kernel
theorem dX11_drawDeed_45 : decode cX11_drawDeed 45 = .ok (.if_icmp .ne 26, 3) := by decide +kernel
theorem dX11_drawDeed_48 : decode cX11_drawDeed 48 = .ok (.aload_n 0, 1) := by decide +kernel
theorem dX11_drawDeed_49 : decode cX11_drawDeed 49 = .ok (.invokevirtual 241, 3) := by decide +kernel
theorem dX11_drawDeed_52 : decode cX11_drawDeed 52 = .ok (.iconst 4, 1) := by decide +kernel
theorem dX11_drawDeed_53 : decode cX11_drawDeed 53 = .ok (.irem, 1) := by decide +kernel
theorem dX11_drawDeed_54 : decode cX11_drawDeed 54 = .ok (.istore_n 2, 1) := by decide +kernel
theorem dX11_drawDeed_55 : decode cX11_drawDeed 55 = .ok (.bipush 100, 2) := by decide +kernel
theorem dX11_drawDeed_57 : decode cX11_drawDeed 57 = .ok (.bipush 10, 2) := by decide +kernel
theorem dX11_drawDeed_59 : decode cX11_drawDeed 59 = .ok (.iload_n 2, 1) := by decide +kernel
theorem dX11_drawDeed_60 : decode cX11_drawDeed 60 = .ok (.imul, 1) := by decide +kernel
theorem dX11_drawDeed_61 : decode cX11_drawDeed 61 = .ok (.iadd, 1) := by decide +kernel
theorem dX11_drawDeed_62 : decode cX11_drawDeed 62 = .ok (.aload_n 0, 1) := by decide +kernel
theorem dX11_drawDeed_63 : decode cX11_drawDeed 63 = .ok (.invokevirtual 241, 3) := by decide +kernel
theorem dX11_drawDeed_66 : decode cX11_drawDeed 66 = .ok (.bipush 10, 2) := by decide +kernel
theorem dX11_drawDeed_68 : decode cX11_drawDeed 68 = .ok (.irem, 1) := by decide +kernel
theorem dX11_drawDeed_69 : decode cX11_drawDeed 69 = .ok (.iadd, 1) := by decide +kernel
theorem dX11_drawDeed_70 : decode cX11_drawDeed 70 = .ok (.ireturn, 1) := by decide +kernel
theorem dX11_drawDeed_71 : decode cX11_drawDeed 71 = .ok (.sipush 1000, 3) := by decide +kernel
theorem dX11_drawDeed_74 : decode cX11_drawDeed 74 = .ok (.aload_n 0, 1) := by decide +kernel
theorem dX11_drawDeed_75 : decode cX11_drawDeed 75 = .ok (.invokevirtual 241, 3) := by decide +kernel
theorem dX11_drawDeed_78 : decode cX11_drawDeed 78 = .ok (.sipush 625, 3) := by decide +kernel
theorem dX11_drawDeed_81 : decode cX11_drawDeed 81 = .ok (.irem, 1) := by decide +kernel
theorem dX11_drawDeed_82 : decode cX11_drawDeed 82 = .ok (.iadd, 1) := by decide +kernel
theorem dX11_drawDeed_83 : decode cX11_drawDeed 83 = .ok (.ireturn, 1) := by decide +kernel
theorem dX11_draw_0 : decode cX11_draw 0 = .ok (.aload_n 0, 1) := by decide +kernel
theorem dX11_draw_1 : decode cX11_draw 1 = .ok (.ldc 244, 2) := by decide +kernel
theorem dX11_draw_3 : decode cX11_draw 3 = .ok (.aload_n 0, 1) := by decide +kernel
theorem dX11_draw_4 : decode cX11_draw 4 = .ok (.getfield 111, 3) := by decide +kernel
theorem dX11_draw_7 : decode cX11_draw 7 = .ok (.imul, 1) := by decide +kernel
theorem dX11_draw_8 : decode cX11_draw 8 = .ok (.sipush 12345, 3) := by decide +kernel
theorem dX11_draw_11 : decode cX11_draw 11 = .ok (.iadd, 1) := by decide +kernel
theorem dX11_draw_12 : decode cX11_draw 12 = .ok (.putfield 111, 3) := by decide +kernel
theorem dX11_draw_15 : decode cX11_draw 15 = .ok (.aload_n 0, 1) := by decide +kernel
theorem dX11_draw_16 : decode cX11_draw 16 = .ok (.getfield 111, 3) := by decide +kernel
theorem dX11_draw_19 : decode cX11_draw 19 = .ok (.bipush 16, 2) := by decide +kernel
theorem dX11_draw_21 : decode cX11_draw 21 = .ok (.iushr, 1) := by decide +kernel
theorem dX11_draw_22 : decode cX11_draw 22 = .ok (.ireturn, 1) := by decide +kernel
theorem dX11_act_0 : decode cX11_act 0 = .ok (.lload_n 2, 1) := by decide +kernel
theorem dX11_act_1 : decode cX11_act 1 = .ok (.lconst 0, 1) := by decide +kernel
theorem dX11_act_2 : decode cX11_act 2 = .ok (.lcmp, 1) := by decide +kernel
theorem dX11_act_3 : decode cX11_act 3 = .ok (.ifCond .eq 9, 3) := by decide +kernel
theorem dX11_act_6 : decode cX11_act 6 = .ok (.lload_n 2, 1) := by decide +kernel
theorem dX11_act_7 : decode cX11_act 7 = .ok (.lconst 1, 1) := by decide +kernel
theorem dX11_act_8 : decode cX11_act 8 = .ok (.lcmp, 1) := by decide +kernel
theorem dX11_act_9 : decode cX11_act 9 = .ok (.ifCond .ne 11, 3) := by decide +kernel
theorem dX11_act_12 : decode cX11_act 12 = .ok (.aload_n 0, 1) := by decide +kernel
theorem dX11_act_13 : decode cX11_act 13 = .ok (.aload_n 1, 1) := by decide +kernel
theorem dX11_act_14 : decode cX11_act 14 = .ok (.lload_n 2, 1) := by decide +kernel
theorem dX11_act_15 : decode cX11_act 15 = .ok (.l2i, 1) := by decide +kernel
theorem dX11_act_16 : decode cX11_act 16 = .ok (.invokevirtual 192, 3) := by decide +kernel
theorem dX11_act_19 : decode cX11_act 19 = .ok (.ireturn, 1) := by decide +kernel
theorem dX11_act_20 : decode cX11_act 20 = .ok (.lload_n 2, 1) := by decide +kernel
theorem dX11_act_21 : decode cX11_act 21 = .ok (.ldc2_w 245, 3) := by decide +kernel
theorem dX11_act_24 : decode cX11_act 24 = .ok (.lcmp, 1) := by decide +kernel
theorem dX11_act_25 : decode cX11_act 25 = .ok (.ifCond .lt 22, 3) := by decide +kernel
theorem dX11_act_28 : decode cX11_act 28 = .ok (.lload_n 2, 1) := by decide +kernel
theorem dX11_act_29 : decode cX11_act 29 = .ok (.ldc2_w 247, 3) := by decide +kernel
theorem dX11_act_32 : decode cX11_act 32 = .ok (.lcmp, 1) := by decide +kernel
theorem dX11_act_33 : decode cX11_act 33 = .ok (.ifCond .gt 14, 3) := by decide +kernel
theorem dX11_act_36 : decode cX11_act 36 = .ok (.aload_n 0, 1) := by decide +kernel
theorem dX11_act_37 : decode cX11_act 37 = .ok (.aload_n 1, 1) := by decide +kernel
theorem dX11_act_38 : decode cX11_act 38 = .ok (.lload_n 2, 1) := by decide +kernel
theorem dX11_act_39 : decode cX11_act 39 = .ok (.l2i, 1) := by decide +kernel
theorem dX11_act_40 : decode cX11_act 40 = .ok (.bipush 10, 2) := by decide +kernel
theorem dX11_act_42 : decode cX11_act 42 = .ok (.isub, 1) := by decide +kernel
theorem dX11_act_43 : decode cX11_act 43 = .ok (.invokevirtual 202, 3) := by decide +kernel
theorem dX11_act_46 : decode cX11_act 46 = .ok (.ireturn, 1) := by decide +kernel
theorem dX11_act_47 : decode cX11_act 47 = .ok (.lload_n 2, 1) := by decide +kernel
theorem dX11_act_48 : decode cX11_act 48 = .ok (.ldc2_w 249, 3) := by decide +kernel
theorem dX11_act_51 : decode cX11_act 51 = .ok (.lcmp, 1) := by decide +kernel
theorem dX11_act_52 : decode cX11_act 52 = .ok (.ifCond .lt 34, 3) := by decide +kernel
theorem dX11_act_55 : decode cX11_act 55 = .ok (.lload_n 2, 1) := by decide +kernel
theorem dX11_act_56 : decode cX11_act 56 = .ok (.ldc2_w 251, 3) := by decide +kernel
theorem dX11_act_59 : decode cX11_act 59 = .ok (.lcmp, 1) := by decide +kernel
theorem dX11_act_60 : decode cX11_act 60 = .ok (.ifCond .gt 26, 3) := by decide +kernel
theorem dX11_act_63 : decode cX11_act 63 = .ok (.lload_n 2, 1) := by decide +kernel
theorem dX11_act_64 : decode cX11_act 64 = .ok (.l2i, 1) := by decide +kernel
theorem dX11_act_65 : decode cX11_act 65 = .ok (.bipush 100, 2) := by decide +kernel
theorem dX11_act_67 : decode cX11_act 67 = .ok (.isub, 1) := by decide +kernel
theorem dX11_act_68 : decode cX11_act 68 = .ok (.istore 4, 2) := by decide +kernel
theorem dX11_act_70 : decode cX11_act 70 = .ok (.aload_n 0, 1) := by decide +kernel
theorem dX11_act_71 : decode cX11_act 71 = .ok (.aload_n 1, 1) := by decide +kernel
theorem dX11_act_72 : decode cX11_act 72 = .ok (.iload 4, 2) := by decide +kernel
theorem dX11_act_74 : decode cX11_act 74 = .ok (.bipush 10, 2) := by decide +kernel
theorem dX11_act_76 : decode cX11_act 76 = .ok (.idiv, 1) := by decide +kernel
theorem dX11_act_77 : decode cX11_act 77 = .ok (.iload 4, 2) := by decide +kernel
theorem dX11_act_79 : decode cX11_act 79 = .ok (.bipush 10, 2) := by decide +kernel
theorem dX11_act_81 : decode cX11_act 81 = .ok (.irem, 1) := by decide +kernel
theorem dX11_act_82 : decode cX11_act 82 = .ok (.invokevirtual 205, 3) := by decide +kernel
theorem dX11_act_85 : decode cX11_act 85 = .ok (.ireturn, 1) := by decide +kernel
theorem dX11_act_86 : decode cX11_act 86 = .ok (.lload_n 2, 1) := by decide +kernel
theorem dX11_act_87 : decode cX11_act 87 = .ok (.ldc2_w 253, 3) := by decide +kernel
theorem dX11_act_90 : decode cX11_act 90 = .ok (.lcmp, 1) := by decide +kernel
theorem dX11_act_91 : decode cX11_act 91 = .ok (.ifCond .lt 23, 3) := by decide +kernel
theorem dX11_act_94 : decode cX11_act 94 = .ok (.lload_n 2, 1) := by decide +kernel
theorem dX11_act_95 : decode cX11_act 95 = .ok (.ldc2_w 255, 3) := by decide +kernel
theorem dX11_act_98 : decode cX11_act 98 = .ok (.lcmp, 1) := by decide +kernel
theorem dX11_act_99 : decode cX11_act 99 = .ok (.ifCond .gt 15, 3) := by decide +kernel
theorem dX11_act_102 : decode cX11_act 102 = .ok (.aload_n 0, 1) := by decide +kernel
theorem dX11_act_103 : decode cX11_act 103 = .ok (.aload_n 1, 1) := by decide +kernel
theorem dX11_act_104 : decode cX11_act 104 = .ok (.lload_n 2, 1) := by decide +kernel
theorem dX11_act_105 : decode cX11_act 105 = .ok (.l2i, 1) := by decide +kernel
theorem dX11_act_106 : decode cX11_act 106 = .ok (.sipush 1000, 3) := by decide +kernel
theorem dX11_act_109 : decode cX11_act 109 = .ok (.isub, 1) := by decide +kernel
theorem dX11_act_110 : decode cX11_act 110 = .ok (.invokevirtual 199, 3) := by decide +kernel
theorem dX11_act_113 : decode cX11_act 113 = .ok (.ireturn, 1) := by decide +kernel
theorem dX11_act_114 : decode cX11_act 114 = .ok (.iconst 1, 1) := by decide +kernel
theorem dX11_act_115 : decode cX11_act 115 = .ok (.ireturn, 1) := by decide +kernel
theorem dX11_passYear_0 : decode cX11_passYear 0 = .ok (.iload_n 2, 1) := by decide +kernel
theorem dX11_passYear_1 : decode cX11_passYear 1 = .ok (.invokestatic 162, 3) := by decide +kernel
theorem dX11_passYear_4 : decode cX11_passYear 4 = .ok (.ifCond .ne 5, 3) := by decide +kernel
theorem dX11_passYear_7 : decode cX11_passYear 7 = .ok (.iconst 1, 1) := by decide +kernel
theorem dX11_passYear_8 : decode cX11_passYear 8 = .ok (.ireturn, 1) := by decide +kernel
theorem dX11_passYear_9 : decode cX11_passYear 9 = .ok (.aload_n 0, 1) := by decide +kernel
theorem dX11_passYear_10 : decode cX11_passYear 10 = .ok (.getfield 72, 3) := by decide +kernel
theorem dX11_passYear_13 : decode cX11_passYear 13 = .ok (.aload_n 0, 1) := by decide +kernel
theorem dX11_passYear_14 : decode cX11_passYear 14 = .ok (.getfield 29, 3) := by decide +kernel
theorem dX11_passYear_17 : decode cX11_passYear 17 = .ok (.aload_n 1, 1) := by decide +kernel
theorem dX11_passYear_18 : decode cX11_passYear 18 = .ok (.getfield 149, 3) := by decide +kernel
theorem dX11_passYear_21 : decode cX11_passYear 21 = .ok (.invokevirtual 184, 3) := by decide +kernel
theorem dX11_passYear_24 : decode cX11_passYear 24 = .ok (.aload_n 1, 1) := by decide +kernel
theorem dX11_passYear_25 : decode cX11_passYear 25 = .ok (.aload_n 0, 1) := by decide +kernel
theorem dX11_passYear_26 : decode cX11_passYear 26 = .ok (.getfield 72, 3) := by decide +kernel
theorem dX11_passYear_29 : decode cX11_passYear 29 = .ok (.aload_n 1, 1) := by decide +kernel
theorem dX11_passYear_30 : decode cX11_passYear 30 = .ok (.getfield 142, 3) := by decide +kernel
theorem dX11_passYear_33 : decode cX11_passYear 33 = .ok (.aload_n 1, 1) := by decide +kernel
theorem dX11_passYear_34 : decode cX11_passYear 34 = .ok (.getfield 152, 3) := by decide +kernel
theorem dX11_passYear_37 : decode cX11_passYear 37 = .ok (.iload_n 2, 1) := by decide +kernel
theorem dX11_passYear_38 : decode cX11_passYear 38 = .ok (.invokevirtual 257, 3) := by decide +kernel
theorem dX11_passYear_41 : decode cX11_passYear 41 = .ok (.putfield 142, 3) := by decide +kernel
theorem dX11_passYear_44 : decode cX11_passYear 44 = .ok (.aload_n 1, 1) := by decide +kernel
theorem dX11_passYear_45 : decode cX11_passYear 45 = .ok (.dup, 1) := by decide +kernel
theorem dX11_passYear_46 : decode cX11_passYear 46 = .ok (.getfield 261, 3) := by decide +kernel
theorem dX11_passYear_49 : decode cX11_passYear 49 = .ok (.iconst 1, 1) := by decide +kernel
theorem dX11_passYear_50 : decode cX11_passYear 50 = .ok (.iadd, 1) := by decide +kernel
theorem dX11_passYear_51 : decode cX11_passYear 51 = .ok (.putfield 261, 3) := by decide +kernel
theorem dX11_passYear_54 : decode cX11_passYear 54 = .ok (.iconst 0, 1) := by decide +kernel
theorem dX11_passYear_55 : decode cX11_passYear 55 = .ok (.ireturn, 1) := by decide +kernel
theorem dX11_leadOtherwise_0 : decode cX11_leadOtherwise 0 = .ok (.aload_n 0, 1) := by decide +kernel
theorem dX11_leadOtherwise_1 : decode cX11_leadOtherwise 1 = .ok (.getfield 29, 3) := by decide +kernel
theorem dX11_leadOtherwise_4 : decode cX11_leadOtherwise 4 = .ok (.iload_n 2, 1) := by decide +kernel
theorem dX11_leadOtherwise_5 : decode cX11_leadOtherwise 5 = .ok (.invokevirtual 264, 3) := by decide +kernel
theorem dX11_leadOtherwise_8 : decode cX11_leadOtherwise 8 = .ok (.ifCond .ne 5, 3) := by decide +kernel
theorem dX11_leadOtherwise_11 : decode cX11_leadOtherwise 11 = .ok (.iconst 1, 1) := by decide +kernel
theorem dX11_leadOtherwise_12 : decode cX11_leadOtherwise 12 = .ok (.ireturn, 1) := by decide +kernel
theorem dX11_leadOtherwise_13 : decode cX11_leadOtherwise 13 = .ok (.aload_n 1, 1) := by decide +kernel
theorem dX11_leadOtherwise_14 : decode cX11_leadOtherwise 14 = .ok (.iload_n 2, 1) := by decide +kernel
theorem dX11_leadOtherwise_15 : decode cX11_leadOtherwise 15 = .ok (.putfield 152, 3) := by decide +kernel
theorem dX11_leadOtherwise_18 : decode cX11_leadOtherwise 18 = .ok (.iconst 0, 1) := by decide +kernel
theorem dX11_leadOtherwise_19 : decode cX11_leadOtherwise 19 = .ok (.ireturn, 1) := by decide +kernel
theorem dX11_sawOff_0 : decode cX11_sawOff 0 = .ok (.aload_n 0, 1) := by decide +kernel
theorem dX11_sawOff_1 : decode cX11_sawOff 1 = .ok (.iload_n 2, 1) := by decide +kernel
theorem dX11_sawOff_2 : decode cX11_sawOff 2 = .ok (.invokevirtual 138, 3) := by decide +kernel
theorem dX11_sawOff_5 : decode cX11_sawOff 5 = .ok (.ifCond .ne 5, 3) := by decide +kernel
theorem dX11_sawOff_8 : decode cX11_sawOff 8 = .ok (.iconst 1, 1) := by decide +kernel
theorem dX11_sawOff_9 : decode cX11_sawOff 9 = .ok (.ireturn, 1) := by decide +kernel
theorem dX11_sawOff_10 : decode cX11_sawOff 10 = .ok (.aload_n 1, 1) := by decide +kernel
theorem dX11_sawOff_11 : decode cX11_sawOff 11 = .ok (.getfield 142, 3) := by decide +kernel
theorem dX11_sawOff_14 : decode cX11_sawOff 14 = .ok (.sipush 10000, 3) := by decide +kernel
theorem dX11_sawOff_17 : decode cX11_sawOff 17 = .ok (.if_icmp .lt 5, 3) := by decide +kernel
theorem dX11_sawOff_20 : decode cX11_sawOff 20 = .ok (.iconst 2, 1) := by decide +kernel
theorem dX11_sawOff_21 : decode cX11_sawOff 21 = .ok (.ireturn, 1) := by decide +kernel
theorem dX11_sawOff_22 : decode cX11_sawOff 22 = .ok (.aload_n 1, 1) := by decide +kernel
theorem dX11_sawOff_23 : decode cX11_sawOff 23 = .ok (.aload_n 1, 1) := by decide +kernel
theorem dX11_sawOff_24 : decode cX11_sawOff 24 = .ok (.getfield 142, 3) := by decide +kernel
theorem dX11_sawOff_27 : decode cX11_sawOff 27 = .ok (.iload_n 2, 1) := by decide +kernel
theorem dX11_sawOff_28 : decode cX11_sawOff 28 = .ok (.aload_n 0, 1) := by decide +kernel
theorem dX11_sawOff_29 : decode cX11_sawOff 29 = .ok (.getfield 29, 3) := by decide +kernel
theorem dX11_sawOff_32 : decode cX11_sawOff 32 = .ok (.getfield 158, 3) := by decide +kernel
theorem dX11_sawOff_35 : decode cX11_sawOff 35 = .ok (.iload_n 2, 1) := by decide +kernel
theorem dX11_sawOff_36 : decode cX11_sawOff 36 = .ok (.invokestatic 145, 3) := by decide +kernel
theorem dX11_sawOff_39 : decode cX11_sawOff 39 = .ok (.invokestatic 267, 3) := by decide +kernel
theorem dX11_sawOff_42 : decode cX11_sawOff 42 = .ok (.putfield 142, 3) := by decide +kernel
theorem dX11_sawOff_45 : decode cX11_sawOff 45 = .ok (.iconst 0, 1) := by decide +kernel
theorem dX11_sawOff_46 : decode cX11_sawOff 46 = .ok (.ireturn, 1) := by decide +kernel
theorem dX11_giveChalk_0 : decode cX11_giveChalk 0 = .ok (.aload_n 0, 1) := by decide +kernel
theorem dX11_giveChalk_1 : decode cX11_giveChalk 1 = .ok (.iload_n 2, 1) := by decide +kernel
theorem dX11_giveChalk_2 : decode cX11_giveChalk 2 = .ok (.invokevirtual 138, 3) := by decide +kernel
theorem dX11_giveChalk_5 : decode cX11_giveChalk 5 = .ok (.ifCond .eq 13, 3) := by decide +kernel
theorem dX11_giveChalk_8 : decode cX11_giveChalk 8 = .ok (.iload_n 3, 1) := by decide +kernel
theorem dX11_giveChalk_9 : decode cX11_giveChalk 9 = .ok (.ifCond .lt 9, 3) := by decide +kernel
theorem dX11_giveChalk_12 : decode cX11_giveChalk 12 = .ok (.iload_n 3, 1) := by decide +kernel
theorem dX11_giveChalk_13 : decode cX11_giveChalk 13 = .ok (.bipush 9, 2) := by decide +kernel
theorem dX11_giveChalk_15 : decode cX11_giveChalk 15 = .ok (.if_icmp .le 5, 3) := by decide +kernel
theorem dX11_giveChalk_18 : decode cX11_giveChalk 18 = .ok (.iconst 1, 1) := by decide +kernel
theorem dX11_giveChalk_19 : decode cX11_giveChalk 19 = .ok (.ireturn, 1) := by decide +kernel
theorem dX11_giveChalk_20 : decode cX11_giveChalk 20 = .ok (.aload_n 1, 1) := by decide +kernel
theorem dX11_giveChalk_21 : decode cX11_giveChalk 21 = .ok (.aload_n 1, 1) := by decide +kernel
theorem dX11_giveChalk_22 : decode cX11_giveChalk 22 = .ok (.getfield 149, 3) := by decide +kernel
theorem dX11_giveChalk_25 : decode cX11_giveChalk 25 = .ok (.iload_n 2, 1) := by decide +kernel
theorem dX11_giveChalk_26 : decode cX11_giveChalk 26 = .ok (.iload_n 3, 1) := by decide +kernel
theorem dX11_giveChalk_27 : decode cX11_giveChalk 27 = .ok (.invokestatic 267, 3) := by decide +kernel
theorem dX11_giveChalk_30 : decode cX11_giveChalk 30 = .ok (.putfield 149, 3) := by decide +kernel
theorem dX11_giveChalk_33 : decode cX11_giveChalk 33 = .ok (.iconst 0, 1) := by decide +kernel
theorem dX11_giveChalk_34 : decode cX11_giveChalk 34 = .ok (.ireturn, 1) := by decide +kernel
theorem dX11_lies_0 : decode cX11_lies 0 = .ok (.aload_n 0, 1) := by decide +kernel
theorem dX11_lies_1 : decode cX11_lies 1 = .ok (.iload_n 1, 1) := by decide +kernel
theorem dX11_lies_2 : decode cX11_lies 2 = .ok (.invokevirtual 138, 3) := by decide +kernel
theorem dX11_lies_5 : decode cX11_lies 5 = .ok (.ifCond .ne 6, 3) := by decide +kernel
theorem dX11_lies_8 : decode cX11_lies 8 = .ok (.bipush (-2), 2) := by decide +kernel
theorem dX11_lies_10 : decode cX11_lies 10 = .ok (.ireturn, 1) := by decide +kernel
theorem dX11_lies_11 : decode cX11_lies 11 = .ok (.iload_n 2, 1) := by decide +kernel
theorem dX11_lies_12 : decode cX11_lies 12 = .ok (.ifCond .lt 10, 3) := by decide +kernel
theorem dX11_lies_15 : decode cX11_lies 15 = .ok (.iload_n 2, 1) := by decide +kernel
theorem dX11_lies_16 : decode cX11_lies 16 = .ok (.ldc_w 270, 3) := by decide +kernel
theorem dX11_lies_19 : decode cX11_lies 19 = .ok (.if_icmp .le 6, 3) := by decide +kernel
theorem dX11_lies_22 : decode cX11_lies 22 = .ok (.bipush (-3), 2) := by decide +kernel
theorem dX11_lies_24 : decode cX11_lies 24 = .ok (.ireturn, 1) := by decide +kernel
theorem dX11_lies_25 : decode cX11_lies 25 = .ok (.aload_n 0, 1) := by decide +kernel
theorem dX11_lies_26 : decode cX11_lies 26 = .ok (.invokevirtual 166, 3) := by decide +kernel
theorem dX11_lies_29 : decode cX11_lies 29 = .ok (.pop, 1) := by decide +kernel
theorem dX11_lies_30 : decode cX11_lies 30 = .ok (.aload_n 0, 1) := by decide +kernel
theorem dX11_lies_31 : decode cX11_lies 31 = .ok (.getfield 81, 3) := by decide +kernel
theorem dX11_lies_34 : decode cX11_lies 34 = .ok (.aload_n 0, 1) := by decide +kernel
theorem dX11_lies_35 : decode cX11_lies 35 = .ok (.getfield 36, 3) := by decide +kernel
theorem dX11_lies_38 : decode cX11_lies 38 = .ok (.getfield 142, 3) := by decide +kernel
theorem dX11_lies_41 : decode cX11_lies 41 = .ok (.aload_n 0, 1) := by decide +kernel
theorem dX11_lies_42 : decode cX11_lies 42 = .ok (.getfield 36, 3) := by decide +kernel
theorem dX11_lies_45 : decode cX11_lies 45 = .ok (.getfield 152, 3) := by decide +kernel
theorem dX11_lies_48 : decode cX11_lies 48 = .ok (.iload_n 2, 1) := by decide +kernel
theorem dX11_lies_49 : decode cX11_lies 49 = .ok (.invokevirtual 271, 3) := by decide +kernel
theorem dX11_lies_52 : decode cX11_lies 52 = .ok (.iload_n 1, 1) := by decide +kernel
theorem dX11_lies_53 : decode cX11_lies 53 = .ok (.invokestatic 145, 3) := by decide +kernel
theorem dX11_lies_56 : decode cX11_lies 56 = .ok (.ireturn, 1) := by decide +kernel
