theorem dX8_goOnFrom_99 : decode cX8_goOnFrom 99 = .ok (.iload 4, 2) := by decide +kernel
theorem dX8_goOnFrom_101 : decode cX8_goOnFrom 101 = .ok (.iastore, 1) := by decide +kernel
theorem dX8_goOnFrom_102 : decode cX8_goOnFrom 102 = .ok (.aload_n 0, 1) := by decide +kernel
theorem dX8_goOnFrom_103 : decode cX8_goOnFrom 103 = .ok (.dup, 1) := by decide +kernel
theorem dX8_goOnFrom_104 : decode cX8_goOnFrom 104 = .ok (.getfield 21, 3) := by decide +kernel
theorem dX8_goOnFrom_107 : decode cX8_goOnFrom 107 = .ok (.iconst 1, 1) := by decide +kernel
theorem dX8_goOnFrom_108 : decode cX8_goOnFrom 108 = .ok (.iadd, 1) := by decide +kernel
theorem dX8_goOnFrom_109 : decode cX8_goOnFrom 109 = .ok (.putfield 21, 3) := by decide +kernel
theorem dX8_goOnFrom_112 : decode cX8_goOnFrom 112 = .ok (.iinc 3 1, 3) := by decide +kernel
theorem dX8_goOnFrom_115 : decode cX8_goOnFrom 115 = .ok (.goto (-113), 3) := by decide +kernel
theorem dX8_goOnFrom_118 : decode cX8_goOnFrom 118 = .ok (.return_, 1) := by decide +kernel
theorem dX8_isNearer_0 : decode cX8_isNearer 0 = .ok (.aload_n 0, 1) := by decide +kernel
theorem dX8_isNearer_1 : decode cX8_isNearer 1 = .ok (.getfield 9, 3) := by decide +kernel
theorem dX8_isNearer_4 : decode cX8_isNearer 4 = .ok (.iload_n 1, 1) := by decide +kernel
theorem dX8_isNearer_5 : decode cX8_isNearer 5 = .ok (.iaload, 1) := by decide +kernel
theorem dX8_isNearer_6 : decode cX8_isNearer 6 = .ok (.iconst (-1), 1) := by decide +kernel
theorem dX8_isNearer_7 : decode cX8_isNearer 7 = .ok (.if_icmp .eq 27, 3) := by decide +kernel
theorem dX8_isNearer_10 : decode cX8_isNearer 10 = .ok (.iload_n 2, 1) := by decide +kernel
theorem dX8_isNearer_11 : decode cX8_isNearer 11 = .ok (.iconst (-1), 1) := by decide +kernel
theorem dX8_isNearer_12 : decode cX8_isNearer 12 = .ok (.if_icmp .eq 18, 3) := by decide +kernel
theorem dX8_isNearer_15 : decode cX8_isNearer 15 = .ok (.aload_n 0, 1) := by decide +kernel
theorem dX8_isNearer_16 : decode cX8_isNearer 16 = .ok (.getfield 9, 3) := by decide +kernel
theorem dX8_isNearer_19 : decode cX8_isNearer 19 = .ok (.iload_n 1, 1) := by decide +kernel
theorem dX8_isNearer_20 : decode cX8_isNearer 20 = .ok (.iaload, 1) := by decide +kernel
theorem dX8_isNearer_21 : decode cX8_isNearer 21 = .ok (.aload_n 0, 1) := by decide +kernel
theorem dX8_isNearer_22 : decode cX8_isNearer 22 = .ok (.getfield 9, 3) := by decide +kernel
theorem dX8_isNearer_25 : decode cX8_isNearer 25 = .ok (.iload_n 2, 1) := by decide +kernel
theorem dX8_isNearer_26 : decode cX8_isNearer 26 = .ok (.iaload, 1) := by decide +kernel
theorem dX8_isNearer_27 : decode cX8_isNearer 27 = .ok (.if_icmp .ge 7, 3) := by decide +kernel
theorem dX8_isNearer_30 : decode cX8_isNearer 30 = .ok (.iconst 1, 1) := by decide +kernel
theorem dX8_isNearer_31 : decode cX8_isNearer 31 = .ok (.goto 4, 3) := by decide +kernel
theorem dX8_isNearer_34 : decode cX8_isNearer 34 = .ok (.iconst 0, 1) := by decide +kernel
theorem dX8_isNearer_35 : decode cX8_isNearer 35 = .ok (.ireturn, 1) := by decide +kernel
theorem dX9_init_0 : decode cX9_init 0 = .ok (.aload_n 0, 1) := by decide +kernel
theorem dX9_init_1 : decode cX9_init 1 = .ok (.invokespecial 1, 3) := by decide +kernel
theorem dX9_init_4 : decode cX9_init 4 = .ok (.aload_n 0, 1) := by decide +kernel
theorem dX9_init_5 : decode cX9_init 5 = .ok (.new 7, 3) := by decide +kernel
theorem dX9_init_8 : decode cX9_init 8 = .ok (.dup, 1) := by decide +kernel
theorem dX9_init_9 : decode cX9_init 9 = .ok (.invokespecial 9, 3) := by decide +kernel
theorem dX9_init_12 : decode cX9_init 12 = .ok (.putfield 10, 3) := by decide +kernel
theorem dX9_init_15 : decode cX9_init 15 = .ok (.aload_n 0, 1) := by decide +kernel
theorem dX9_init_16 : decode cX9_init 16 = .ok (.new 7, 3) := by decide +kernel
theorem dX9_init_19 : decode cX9_init 19 = .ok (.dup, 1) := by decide +kernel
theorem dX9_init_20 : decode cX9_init 20 = .ok (.invokespecial 9, 3) := by decide +kernel
theorem dX9_init_23 : decode cX9_init 23 = .ok (.putfield 16, 3) := by decide +kernel
theorem dX9_init_26 : decode cX9_init 26 = .ok (.return_, 1) := by decide +kernel
theorem dX9_setGround_0 : decode cX9_setGround 0 = .ok (.iload_n 1, 1) := by decide +kernel
theorem dX9_setGround_1 : decode cX9_setGround 1 = .ok (.iload_n 2, 1) := by decide +kernel
theorem dX9_setGround_2 : decode cX9_setGround 2 = .ok (.invokestatic 19, 3) := by decide +kernel
theorem dX9_setGround_5 : decode cX9_setGround 5 = .ok (.iload_n 3, 1) := by decide +kernel
theorem dX9_setGround_6 : decode cX9_setGround 6 = .ok (.iconst 0, 1) := by decide +kernel
theorem dX9_setGround_7 : decode cX9_setGround 7 = .ok (.bipush 9, 2) := by decide +kernel
theorem dX9_setGround_9 : decode cX9_setGround 9 = .ok (.invokestatic 23, 3) := by decide +kernel
theorem dX9_setGround_12 : decode cX9_setGround 12 = .ok (.invokestatic 27, 3) := by decide +kernel
theorem dX9_setGround_15 : decode cX9_setGround 15 = .ok (.iload_n 1, 1) := by decide +kernel
theorem dX9_setGround_16 : decode cX9_setGround 16 = .ok (.iload_n 2, 1) := by decide +kernel
theorem dX9_setGround_17 : decode cX9_setGround 17 = .ok (.invokestatic 31, 3) := by decide +kernel
theorem dX9_setGround_20 : decode cX9_setGround 20 = .ok (.istore 4, 2) := by decide +kernel
theorem dX9_setGround_22 : decode cX9_setGround 22 = .ok (.aload_n 0, 1) := by decide +kernel
theorem dX9_setGround_23 : decode cX9_setGround 23 = .ok (.getfield 10, 3) := by decide +kernel
theorem dX9_setGround_26 : decode cX9_setGround 26 = .ok (.getfield 35, 3) := by decide +kernel
theorem dX9_setGround_29 : decode cX9_setGround 29 = .ok (.getfield 39, 3) := by decide +kernel
theorem dX9_setGround_32 : decode cX9_setGround 32 = .ok (.iload 4, 2) := by decide +kernel
theorem dX9_setGround_34 : decode cX9_setGround 34 = .ok (.iaload, 1) := by decide +kernel
theorem dX9_setGround_35 : decode cX9_setGround 35 = .ok (.istore 5, 2) := by decide +kernel
theorem dX9_setGround_37 : decode cX9_setGround 37 = .ok (.aload_n 0, 1) := by decide +kernel
theorem dX9_setGround_38 : decode cX9_setGround 38 = .ok (.getfield 10, 3) := by decide +kernel
theorem dX9_setGround_41 : decode cX9_setGround 41 = .ok (.getfield 35, 3) := by decide +kernel
theorem dX9_setGround_44 : decode cX9_setGround 44 = .ok (.getfield 39, 3) := by decide +kernel
theorem dX9_setGround_47 : decode cX9_setGround 47 = .ok (.iload 4, 2) := by decide +kernel
theorem dX9_setGround_49 : decode cX9_setGround 49 = .ok (.iload_n 3, 1) := by decide +kernel
theorem dX9_setGround_50 : decode cX9_setGround 50 = .ok (.iastore, 1) := by decide +kernel
theorem dX9_setGround_51 : decode cX9_setGround 51 = .ok (.iload 5, 2) := by decide +kernel
theorem dX9_setGround_53 : decode cX9_setGround 53 = .ok (.ireturn, 1) := by decide +kernel
theorem dX9_lay_0 : decode cX9_lay 0 = .ok (.iload_n 1, 1) := by decide +kernel
theorem dX9_lay_1 : decode cX9_lay 1 = .ok (.iload_n 2, 1) := by decide +kernel
theorem dX9_lay_2 : decode cX9_lay 2 = .ok (.invokestatic 19, 3) := by decide +kernel
theorem dX9_lay_5 : decode cX9_lay 5 = .ok (.iload_n 3, 1) := by decide +kernel
theorem dX9_lay_6 : decode cX9_lay 6 = .ok (.iconst 0, 1) := by decide +kernel
theorem dX9_lay_7 : decode cX9_lay 7 = .ok (.iconst 5, 1) := by decide +kernel
theorem dX9_lay_8 : decode cX9_lay 8 = .ok (.invokestatic 23, 3) := by decide +kernel
theorem dX9_lay_11 : decode cX9_lay 11 = .ok (.invokestatic 27, 3) := by decide +kernel
theorem dX9_lay_14 : decode cX9_lay 14 = .ok (.iload_n 1, 1) := by decide +kernel
theorem dX9_lay_15 : decode cX9_lay 15 = .ok (.iload_n 2, 1) := by decide +kernel
theorem dX9_lay_16 : decode cX9_lay 16 = .ok (.invokestatic 31, 3) := by decide +kernel
theorem dX9_lay_19 : decode cX9_lay 19 = .ok (.istore 4, 2) := by decide +kernel
theorem dX9_lay_21 : decode cX9_lay 21 = .ok (.aload_n 0, 1) := by decide +kernel
theorem dX9_lay_22 : decode cX9_lay 22 = .ok (.getfield 10, 3) := by decide +kernel
theorem dX9_lay_25 : decode cX9_lay 25 = .ok (.getfield 35, 3) := by decide +kernel
theorem dX9_lay_28 : decode cX9_lay 28 = .ok (.invokevirtual 45, 3) := by decide +kernel
theorem dX9_lay_31 : decode cX9_lay 31 = .ok (.aload_n 0, 1) := by decide +kernel
theorem dX9_lay_32 : decode cX9_lay 32 = .ok (.getfield 10, 3) := by decide +kernel
theorem dX9_lay_35 : decode cX9_lay 35 = .ok (.getfield 35, 3) := by decide +kernel
theorem dX9_lay_38 : decode cX9_lay 38 = .ok (.getfield 49, 3) := by decide +kernel
theorem dX9_lay_41 : decode cX9_lay 41 = .ok (.iload 4, 2) := by decide +kernel
theorem dX9_lay_43 : decode cX9_lay 43 = .ok (.iaload, 1) := by decide +kernel
theorem dX9_lay_44 : decode cX9_lay 44 = .ok (.isub, 1) := by decide +kernel
theorem dX9_lay_45 : decode cX9_lay 45 = .ok (.iload_n 3, 1) := by decide +kernel
theorem dX9_lay_46 : decode cX9_lay 46 = .ok (.iadd, 1) := by decide +kernel
theorem dX9_lay_47 : decode cX9_lay 47 = .ok (.istore 5, 2) := by decide +kernel
theorem dX9_lay_49 : decode cX9_lay 49 = .ok (.iload 5, 2) := by decide +kernel
theorem dX9_lay_51 : decode cX9_lay 51 = .ok (.bipush 40, 2) := by decide +kernel
theorem dX9_lay_53 : decode cX9_lay 53 = .ok (.if_icmp .gt 7, 3) := by decide +kernel
theorem dX9_lay_56 : decode cX9_lay 56 = .ok (.iconst 1, 1) := by decide +kernel
theorem dX9_lay_57 : decode cX9_lay 57 = .ok (.goto 4, 3) := by decide +kernel
theorem dX9_lay_60 : decode cX9_lay 60 = .ok (.iconst 0, 1) := by decide +kernel
theorem dX9_lay_61 : decode cX9_lay 61 = .ok (.invokestatic 52, 3) := by decide +kernel
theorem dX9_lay_64 : decode cX9_lay 64 = .ok (.aload_n 0, 1) := by decide +kernel
theorem dX9_lay_65 : decode cX9_lay 65 = .ok (.getfield 10, 3) := by decide +kernel
theorem dX9_lay_68 : decode cX9_lay 68 = .ok (.getfield 35, 3) := by decide +kernel
theorem dX9_lay_71 : decode cX9_lay 71 = .ok (.getfield 49, 3) := by decide +kernel
theorem dX9_lay_74 : decode cX9_lay 74 = .ok (.iload 4, 2) := by decide +kernel
theorem dX9_lay_76 : decode cX9_lay 76 = .ok (.iload_n 3, 1) := by decide +kernel
theorem dX9_lay_77 : decode cX9_lay 77 = .ok (.iastore, 1) := by decide +kernel
theorem dX9_lay_78 : decode cX9_lay 78 = .ok (.iload 5, 2) := by decide +kernel
theorem dX9_lay_80 : decode cX9_lay 80 = .ok (.ireturn, 1) := by decide +kernel
theorem dX9_setRiver_0 : decode cX9_setRiver 0 = .ok (.iload_n 1, 1) := by decide +kernel
theorem dX9_setRiver_1 : decode cX9_setRiver 1 = .ok (.iconst 0, 1) := by decide +kernel
theorem dX9_setRiver_2 : decode cX9_setRiver 2 = .ok (.bipush 11, 2) := by decide +kernel
theorem dX9_setRiver_4 : decode cX9_setRiver 4 = .ok (.invokestatic 23, 3) := by decide +kernel
theorem dX9_setRiver_7 : decode cX9_setRiver 7 = .ok (.invokestatic 55, 3) := by decide +kernel
theorem dX9_setRiver_10 : decode cX9_setRiver 10 = .ok (.iload_n 2, 1) := by decide +kernel
theorem dX9_setRiver_11 : decode cX9_setRiver 11 = .ok (.iconst 0, 1) := by decide +kernel
theorem dX9_setRiver_12 : decode cX9_setRiver 12 = .ok (.bipush 12, 2) := by decide +kernel
theorem dX9_setRiver_14 : decode cX9_setRiver 14 = .ok (.invokestatic 23, 3) := by decide +kernel
theorem dX9_setRiver_17 : decode cX9_setRiver 17 = .ok (.invokestatic 27, 3) := by decide +kernel
theorem dX9_setRiver_20 : decode cX9_setRiver 20 = .ok (.aload_n 0, 1) := by decide +kernel
theorem dX9_setRiver_21 : decode cX9_setRiver 21 = .ok (.getfield 10, 3) := by decide +kernel
theorem dX9_setRiver_24 : decode cX9_setRiver 24 = .ok (.getfield 35, 3) := by decide +kernel
theorem dX9_setRiver_27 : decode cX9_setRiver 27 = .ok (.getfield 58, 3) := by decide +kernel
theorem dX9_setRiver_30 : decode cX9_setRiver 30 = .ok (.iload_n 1, 1) := by decide +kernel
theorem dX9_setRiver_31 : decode cX9_setRiver 31 = .ok (.iaload, 1) := by decide +kernel
theorem dX9_setRiver_32 : decode cX9_setRiver 32 = .ok (.istore_n 3, 1) := by decide +kernel
theorem dX9_setRiver_33 : decode cX9_setRiver 33 = .ok (.aload_n 0, 1) := by decide +kernel
theorem dX9_setRiver_34 : decode cX9_setRiver 34 = .ok (.getfield 10, 3) := by decide +kernel
theorem dX9_setRiver_37 : decode cX9_setRiver 37 = .ok (.getfield 35, 3) := by decide +kernel
theorem dX9_setRiver_40 : decode cX9_setRiver 40 = .ok (.getfield 58, 3) := by decide +kernel
theorem dX9_setRiver_43 : decode cX9_setRiver 43 = .ok (.iload_n 1, 1) := by decide +kernel
theorem dX9_setRiver_44 : decode cX9_setRiver 44 = .ok (.iload_n 2, 1) := by decide +kernel
theorem dX9_setRiver_45 : decode cX9_setRiver 45 = .ok (.iastore, 1) := by decide +kernel
theorem dX9_setRiver_46 : decode cX9_setRiver 46 = .ok (.iload_n 3, 1) := by decide +kernel
theorem dX9_setRiver_47 : decode cX9_setRiver 47 = .ok (.ireturn, 1) := by decide +kernel
theorem dX9_addPump_0 : decode cX9_addPump 0 = .ok (.iload_n 1, 1) := by decide +kernel
theorem dX9_addPump_1 : decode cX9_addPump 1 = .ok (.iload_n 2, 1) := by decide +kernel
theorem dX9_addPump_2 : decode cX9_addPump 2 = .ok (.invokestatic 19, 3) := by decide +kernel
theorem dX9_addPump_5 : decode cX9_addPump 5 = .ok (.iload_n 3, 1) := by decide +kernel
theorem dX9_addPump_6 : decode cX9_addPump 6 = .ok (.iconst 1, 1) := by decide +kernel
theorem dX9_addPump_7 : decode cX9_addPump 7 = .ok (.iconst 5, 1) := by decide +kernel
theorem dX9_addPump_8 : decode cX9_addPump 8 = .ok (.invokestatic 23, 3) := by decide +kernel
theorem dX9_addPump_11 : decode cX9_addPump 11 = .ok (.ifCond .eq 18, 3) := by decide +kernel
theorem dX9_addPump_14 : decode cX9_addPump 14 = .ok (.iload 4, 2) := by decide +kernel
theorem dX9_addPump_16 : decode cX9_addPump 16 = .ok (.iconst 0, 1) := by decide +kernel
theorem dX9_addPump_17 : decode cX9_addPump 17 = .ok (.bipush 30, 2) := by decide +kernel
theorem dX9_addPump_19 : decode cX9_addPump 19 = .ok (.invokestatic 23, 3) := by decide +kernel
theorem dX9_addPump_22 : decode cX9_addPump 22 = .ok (.ifCond .eq 7, 3) := by decide +kernel
theorem dX9_addPump_25 : decode cX9_addPump 25 = .ok (.iconst 1, 1) := by decide +kernel
theorem dX9_addPump_26 : decode cX9_addPump 26 = .ok (.goto 4, 3) := by decide +kernel
theorem dX9_addPump_29 : decode cX9_addPump 29 = .ok (.iconst 0, 1) := by decide +kernel
theorem dX9_addPump_30 : decode cX9_addPump 30 = .ok (.invokestatic 27, 3) := by decide +kernel
theorem dX9_addPump_33 : decode cX9_addPump 33 = .ok (.aload_n 0, 1) := by decide +kernel
theorem dX9_addPump_34 : decode cX9_addPump 34 = .ok (.getfield 10, 3) := by decide +kernel
theorem dX9_addPump_37 : decode cX9_addPump 37 = .ok (.getfield 61, 3) := by decide +kernel
theorem dX9_addPump_40 : decode cX9_addPump 40 = .ok (.iload_n 1, 1) := by decide +kernel
theorem dX9_addPump_41 : decode cX9_addPump 41 = .ok (.iload_n 2, 1) := by decide +kernel
theorem dX9_addPump_42 : decode cX9_addPump 42 = .ok (.invokestatic 31, 3) := by decide +kernel
theorem dX9_addPump_45 : decode cX9_addPump 45 = .ok (.invokevirtual 65, 3) := by decide +kernel
theorem dX9_addPump_48 : decode cX9_addPump 48 = .ok (.invokestatic 52, 3) := by decide +kernel
theorem dX9_addPump_51 : decode cX9_addPump 51 = .ok (.aload_n 0, 1) := by decide +kernel
theorem dX9_addPump_52 : decode cX9_addPump 52 = .ok (.getfield 10, 3) := by decide +kernel
theorem dX9_addPump_55 : decode cX9_addPump 55 = .ok (.getfield 61, 3) := by decide +kernel
theorem dX9_addPump_58 : decode cX9_addPump 58 = .ok (.iload_n 1, 1) := by decide +kernel
theorem dX9_addPump_59 : decode cX9_addPump 59 = .ok (.iload_n 2, 1) := by decide +kernel
theorem dX9_addPump_60 : decode cX9_addPump 60 = .ok (.invokestatic 31, 3) := by decide +kernel
theorem dX9_addPump_63 : decode cX9_addPump 63 = .ok (.iload_n 3, 1) := by decide +kernel
theorem dX9_addPump_64 : decode cX9_addPump 64 = .ok (.iload 4, 2) := by decide +kernel
theorem dX9_addPump_66 : decode cX9_addPump 66 = .ok (.invokevirtual 71, 3) := by decide +kernel
theorem dX9_addPump_69 : decode cX9_addPump 69 = .ok (.ireturn, 1) := by decide +kernel
theorem dX9_run_0 : decode cX9_run 0 = .ok (.aload_n 0, 1) := by decide +kernel
theorem dX9_run_1 : decode cX9_run 1 = .ok (.getfield 10, 3) := by decide +kernel
theorem dX9_run_4 : decode cX9_run 4 = .ok (.getfield 61, 3) := by decide +kernel
theorem dX9_run_7 : decode cX9_run 7 = .ok (.iload_n 1, 1) := by decide +kernel
theorem dX9_run_8 : decode cX9_run 8 = .ok (.invokevirtual 75, 3) := by decide +kernel
theorem dX9_run_11 : decode cX9_run 11 = .ok (.invokestatic 55, 3) := by decide +kernel
theorem dX9_run_14 : decode cX9_run 14 = .ok (.aload_n 0, 1) := by decide +kernel
theorem dX9_run_15 : decode cX9_run 15 = .ok (.getfield 10, 3) := by decide +kernel
theorem dX9_run_18 : decode cX9_run 18 = .ok (.getfield 61, 3) := by decide +kernel
theorem dX9_run_21 : decode cX9_run 21 = .ok (.getfield 78, 3) := by decide +kernel
theorem dX9_run_24 : decode cX9_run 24 = .ok (.iload_n 1, 1) := by decide +kernel
theorem dX9_run_25 : decode cX9_run 25 = .ok (.aload_n 0, 1) := by decide +kernel
theorem dX9_run_26 : decode cX9_run 26 = .ok (.getfield 10, 3) := by decide +kernel
theorem dX9_run_29 : decode cX9_run 29 = .ok (.getfield 61, 3) := by decide +kernel
theorem dX9_run_32 : decode cX9_run 32 = .ok (.getfield 78, 3) := by decide +kernel
theorem dX9_run_35 : decode cX9_run 35 = .ok (.iload_n 1, 1) := by decide +kernel
theorem dX9_run_36 : decode cX9_run 36 = .ok (.baload, 1) := by decide +kernel
theorem dX9_run_37 : decode cX9_run 37 = .ok (.ifCond .ne 7, 3) := by decide +kernel
theorem dX9_run_40 : decode cX9_run 40 = .ok (.iconst 1, 1) := by decide +kernel
theorem dX9_run_41 : decode cX9_run 41 = .ok (.goto 4, 3) := by decide +kernel
theorem dX9_run_44 : decode cX9_run 44 = .ok (.iconst 0, 1) := by decide +kernel
theorem dX9_run_45 : decode cX9_run 45 = .ok (.bastore, 1) := by decide +kernel
theorem dX9_run_46 : decode cX9_run 46 = .ok (.aload_n 0, 1) := by decide +kernel
theorem dX9_run_47 : decode cX9_run 47 = .ok (.getfield 10, 3) := by decide +kernel
theorem dX9_run_50 : decode cX9_run 50 = .ok (.getfield 61, 3) := by decide +kernel
theorem dX9_run_53 : decode cX9_run 53 = .ok (.getfield 78, 3) := by decide +kernel
theorem dX9_run_56 : decode cX9_run 56 = .ok (.iload_n 1, 1) := by decide +kernel
theorem dX9_run_57 : decode cX9_run 57 = .ok (.baload, 1) := by decide +kernel
theorem dX9_run_58 : decode cX9_run 58 = .ok (.ireturn, 1) := by decide +kernel
theorem dX9_addGauge_0 : decode cX9_addGauge 0 = .ok (.iload_n 1, 1) := by decide +kernel
theorem dX9_addGauge_1 : decode cX9_addGauge 1 = .ok (.iload_n 2, 1) := by decide +kernel
theorem dX9_addGauge_2 : decode cX9_addGauge 2 = .ok (.invokestatic 19, 3) := by decide +kernel
theorem dX9_addGauge_5 : decode cX9_addGauge 5 = .ok (.iload_n 3, 1) := by decide +kernel
theorem dX9_addGauge_6 : decode cX9_addGauge 6 = .ok (.iconst 1, 1) := by decide +kernel
theorem dX9_addGauge_7 : decode cX9_addGauge 7 = .ok (.bipush 20, 2) := by decide +kernel
theorem dX9_addGauge_9 : decode cX9_addGauge 9 = .ok (.invokestatic 23, 3) := by decide +kernel
theorem dX9_addGauge_12 : decode cX9_addGauge 12 = .ok (.invokestatic 27, 3) := by decide +kernel
theorem dX9_addGauge_15 : decode cX9_addGauge 15 = .ok (.aload_n 0, 1) := by decide +kernel
theorem dX9_addGauge_16 : decode cX9_addGauge 16 = .ok (.getfield 10, 3) := by decide +kernel
theorem dX9_addGauge_19 : decode cX9_addGauge 19 = .ok (.getfield 82, 3) := by decide +kernel
theorem dX9_addGauge_22 : decode cX9_addGauge 22 = .ok (.iload_n 1, 1) := by decide +kernel
theorem dX9_addGauge_23 : decode cX9_addGauge 23 = .ok (.iload_n 2, 1) := by decide +kernel
theorem dX9_addGauge_24 : decode cX9_addGauge 24 = .ok (.invokestatic 31, 3) := by decide +kernel
theorem dX9_addGauge_27 : decode cX9_addGauge 27 = .ok (.invokevirtual 86, 3) := by decide +kernel
theorem dX9_addGauge_30 : decode cX9_addGauge 30 = .ok (.invokestatic 52, 3) := by decide +kernel
theorem dX9_addGauge_33 : decode cX9_addGauge 33 = .ok (.aload_n 0, 1) := by decide +kernel
theorem dX9_addGauge_34 : decode cX9_addGauge 34 = .ok (.getfield 10, 3) := by decide +kernel
theorem dX9_addGauge_37 : decode cX9_addGauge 37 = .ok (.getfield 82, 3) := by decide +kernel
theorem dX9_addGauge_40 : decode cX9_addGauge 40 = .ok (.iload_n 1, 1) := by decide +kernel
theorem dX9_addGauge_41 : decode cX9_addGauge 41 = .ok (.iload_n 2, 1) := by decide +kernel
theorem dX9_addGauge_42 : decode cX9_addGauge 42 = .ok (.invokestatic 31, 3) := by decide +kernel
theorem dX9_addGauge_45 : decode cX9_addGauge 45 = .ok (.iload_n 3, 1) := by decide +kernel
theorem dX9_addGauge_46 : decode cX9_addGauge 46 = .ok (.invokevirtual 89, 3) := by decide +kernel
theorem dX9_addGauge_49 : decode cX9_addGauge 49 = .ok (.ireturn, 1) := by decide +kernel
theorem dX9_addRefuge_0 : decode cX9_addRefuge 0 = .ok (.iload_n 1, 1) := by decide +kernel
theorem dX9_addRefuge_1 : decode cX9_addRefuge 1 = .ok (.iload_n 2, 1) := by decide +kernel
theorem dX9_addRefuge_2 : decode cX9_addRefuge 2 = .ok (.invokestatic 19, 3) := by decide +kernel
theorem dX9_addRefuge_5 : decode cX9_addRefuge 5 = .ok (.iload_n 3, 1) := by decide +kernel
theorem dX9_addRefuge_6 : decode cX9_addRefuge 6 = .ok (.iconst 1, 1) := by decide +kernel
theorem dX9_addRefuge_7 : decode cX9_addRefuge 7 = .ok (.bipush 20, 2) := by decide +kernel
theorem dX9_addRefuge_9 : decode cX9_addRefuge 9 = .ok (.invokestatic 23, 3) := by decide +kernel
theorem dX9_addRefuge_12 : decode cX9_addRefuge 12 = .ok (.invokestatic 27, 3) := by decide +kernel
theorem dX9_addRefuge_15 : decode cX9_addRefuge 15 = .ok (.aload_n 0, 1) := by decide +kernel
theorem dX9_addRefuge_16 : decode cX9_addRefuge 16 = .ok (.getfield 10, 3) := by decide +kernel
theorem dX9_addRefuge_19 : decode cX9_addRefuge 19 = .ok (.getfield 92, 3) := by decide +kernel
theorem dX9_addRefuge_22 : decode cX9_addRefuge 22 = .ok (.iload_n 1, 1) := by decide +kernel
theorem dX9_addRefuge_23 : decode cX9_addRefuge 23 = .ok (.iload_n 2, 1) := by decide +kernel
theorem dX9_addRefuge_24 : decode cX9_addRefuge 24 = .ok (.invokestatic 31, 3) := by decide +kernel
theorem dX9_addRefuge_27 : decode cX9_addRefuge 27 = .ok (.invokevirtual 96, 3) := by decide +kernel
theorem dX9_addRefuge_30 : decode cX9_addRefuge 30 = .ok (.invokestatic 52, 3) := by decide +kernel
theorem dX9_addRefuge_33 : decode cX9_addRefuge 33 = .ok (.aload_n 0, 1) := by decide +kernel
theorem dX9_addRefuge_34 : decode cX9_addRefuge 34 = .ok (.getfield 10, 3) := by decide +kernel
theorem dX9_addRefuge_37 : decode cX9_addRefuge 37 = .ok (.getfield 92, 3) := by decide +kernel
theorem dX9_addRefuge_40 : decode cX9_addRefuge 40 = .ok (.iload_n 1, 1) := by decide +kernel
theorem dX9_addRefuge_41 : decode cX9_addRefuge 41 = .ok (.iload_n 2, 1) := by decide +kernel
theorem dX9_addRefuge_42 : decode cX9_addRefuge 42 = .ok (.invokestatic 31, 3) := by decide +kernel
theorem dX9_addRefuge_45 : decode cX9_addRefuge 45 = .ok (.iload_n 3, 1) := by decide +kernel
theorem dX9_addRefuge_46 : decode cX9_addRefuge 46 = .ok (.invokevirtual 99, 3) := by decide +kernel
theorem dX9_addRefuge_49 : decode cX9_addRefuge 49 = .ok (.ireturn, 1) := by decide +kernel
theorem dX9_settle_0 : decode cX9_settle 0 = .ok (.iload_n 1, 1) := by decide +kernel
theorem dX9_settle_1 : decode cX9_settle 1 = .ok (.iload_n 2, 1) := by decide +kernel
theorem dX9_settle_2 : decode cX9_settle 2 = .ok (.invokestatic 19, 3) := by decide +kernel
theorem dX9_settle_5 : decode cX9_settle 5 = .ok (.iload_n 3, 1) := by decide +kernel
theorem dX9_settle_6 : decode cX9_settle 6 = .ok (.iconst 1, 1) := by decide +kernel
theorem dX9_settle_7 : decode cX9_settle 7 = .ok (.bipush 6, 2) := by decide +kernel
theorem dX9_settle_9 : decode cX9_settle 9 = .ok (.invokestatic 23, 3) := by decide +kernel
theorem dX9_settle_12 : decode cX9_settle 12 = .ok (.invokestatic 27, 3) := by decide +kernel
theorem dX9_settle_15 : decode cX9_settle 15 = .ok (.aload_n 0, 1) := by decide +kernel
theorem dX9_settle_16 : decode cX9_settle 16 = .ok (.getfield 10, 3) := by decide +kernel
theorem dX9_settle_19 : decode cX9_settle 19 = .ok (.getfield 102, 3) := by decide +kernel
theorem dX9_settle_22 : decode cX9_settle 22 = .ok (.invokevirtual 106, 3) := by decide +kernel
theorem dX9_settle_25 : decode cX9_settle 25 = .ok (.ifCond .ne 7, 3) := by decide +kernel
theorem dX9_settle_28 : decode cX9_settle 28 = .ok (.iconst 1, 1) := by decide +kernel
theorem dX9_settle_29 : decode cX9_settle 29 = .ok (.goto 4, 3) := by decide +kernel
theorem dX9_settle_32 : decode cX9_settle 32 = .ok (.iconst 0, 1) := by decide +kernel
theorem dX9_settle_33 : decode cX9_settle 33 = .ok (.invokestatic 52, 3) := by decide +kernel
theorem dX9_settle_36 : decode cX9_settle 36 = .ok (.aload_n 0, 1) := by decide +kernel
theorem dX9_settle_37 : decode cX9_settle 37 = .ok (.getfield 10, 3) := by decide +kernel
theorem dX9_settle_40 : decode cX9_settle 40 = .ok (.getfield 102, 3) := by decide +kernel
theorem dX9_settle_43 : decode cX9_settle 43 = .ok (.iload_n 1, 1) := by decide +kernel
theorem dX9_settle_44 : decode cX9_settle 44 = .ok (.iload_n 2, 1) := by decide +kernel
theorem dX9_settle_45 : decode cX9_settle 45 = .ok (.invokestatic 31, 3) := by decide +kernel
theorem dX9_settle_48 : decode cX9_settle 48 = .ok (.iload_n 3, 1) := by decide +kernel
theorem dX9_settle_49 : decode cX9_settle 49 = .ok (.invokevirtual 112, 3) := by decide +kernel
theorem dX9_settle_52 : decode cX9_settle 52 = .ok (.ireturn, 1) := by decide +kernel
theorem dX9_addCaller_0 : decode cX9_addCaller 0 = .ok (.iload_n 1, 1) := by decide +kernel
theorem dX9_addCaller_1 : decode cX9_addCaller 1 = .ok (.iload_n 2, 1) := by decide +kernel
theorem dX9_addCaller_2 : decode cX9_addCaller 2 = .ok (.invokestatic 19, 3) := by decide +kernel
theorem dX9_addCaller_5 : decode cX9_addCaller 5 = .ok (.aload_n 0, 1) := by decide +kernel
theorem dX9_addCaller_6 : decode cX9_addCaller 6 = .ok (.getfield 10, 3) := by decide +kernel
theorem dX9_addCaller_9 : decode cX9_addCaller 9 = .ok (.getfield 115, 3) := by decide +kernel
theorem dX9_addCaller_12 : decode cX9_addCaller 12 = .ok (.invokevirtual 119, 3) := by decide +kernel
theorem dX9_addCaller_15 : decode cX9_addCaller 15 = .ok (.ifCond .ne 7, 3) := by decide +kernel
theorem dX9_addCaller_18 : decode cX9_addCaller 18 = .ok (.iconst 1, 1) := by decide +kernel
theorem dX9_addCaller_19 : decode cX9_addCaller 19 = .ok (.goto 4, 3) := by decide +kernel
theorem dX9_addCaller_22 : decode cX9_addCaller 22 = .ok (.iconst 0, 1) := by decide +kernel
theorem dX9_addCaller_23 : decode cX9_addCaller 23 = .ok (.invokestatic 52, 3) := by decide +kernel
theorem dX9_addCaller_26 : decode cX9_addCaller 26 = .ok (.aload_n 0, 1) := by decide +kernel
theorem dX9_addCaller_27 : decode cX9_addCaller 27 = .ok (.getfield 10, 3) := by decide +kernel
theorem dX9_addCaller_30 : decode cX9_addCaller 30 = .ok (.getfield 115, 3) := by decide +kernel
theorem dX9_addCaller_33 : decode cX9_addCaller 33 = .ok (.iload_n 1, 1) := by decide +kernel
theorem dX9_addCaller_34 : decode cX9_addCaller 34 = .ok (.iload_n 2, 1) := by decide +kernel
theorem dX9_addCaller_35 : decode cX9_addCaller 35 = .ok (.invokestatic 31, 3) := by decide +kernel
theorem dX9_addCaller_38 : decode cX9_addCaller 38 = .ok (.invokevirtual 122, 3) := by decide +kernel
theorem dX9_addCaller_41 : decode cX9_addCaller 41 = .ok (.ireturn, 1) := by decide +kernel
theorem dX9_cell_0 : decode cX9_cell 0 = .ok (.iload_n 1, 1) := by decide +kernel
theorem dX9_cell_1 : decode cX9_cell 1 = .ok (.iload_n 2, 1) := by decide +kernel
theorem dX9_cell_2 : decode cX9_cell 2 = .ok (.invokestatic 19, 3) := by decide +kernel
theorem dX9_cell_5 : decode cX9_cell 5 = .ok (.iload_n 3, 1) := by decide +kernel
theorem dX9_cell_6 : decode cX9_cell 6 = .ok (.iconst 0, 1) := by decide +kernel
theorem dX9_cell_7 : decode cX9_cell 7 = .ok (.iconst 5, 1) := by decide +kernel
theorem dX9_cell_8 : decode cX9_cell 8 = .ok (.invokestatic 23, 3) := by decide +kernel
theorem dX9_cell_11 : decode cX9_cell 11 = .ok (.invokestatic 55, 3) := by decide +kernel
theorem dX9_cell_14 : decode cX9_cell 14 = .ok (.aload_n 0, 1) := by decide +kernel
theorem dX9_cell_15 : decode cX9_cell 15 = .ok (.getfield 10, 3) := by decide +kernel
theorem dX9_cell_18 : decode cX9_cell 18 = .ok (.iload_n 1, 1) := by decide +kernel
theorem dX9_cell_19 : decode cX9_cell 19 = .ok (.iload_n 2, 1) := by decide +kernel
theorem dX9_cell_20 : decode cX9_cell 20 = .ok (.invokestatic 31, 3) := by decide +kernel
theorem dX9_cell_23 : decode cX9_cell 23 = .ok (.iload_n 3, 1) := by decide +kernel
theorem dX9_cell_24 : decode cX9_cell 24 = .ok (.invokevirtual 126, 3) := by decide +kernel
theorem dX9_cell_27 : decode cX9_cell 27 = .ok (.ireturn, 1) := by decide +kernel
theorem dX9_pump_0 : decode cX9_pump 0 = .ok (.aload_n 0, 1) := by decide +kernel
theorem dX9_pump_1 : decode cX9_pump 1 = .ok (.getfield 10, 3) := by decide +kernel
theorem dX9_pump_4 : decode cX9_pump 4 = .ok (.getfield 61, 3) := by decide +kernel
theorem dX9_pump_7 : decode cX9_pump 7 = .ok (.iload_n 1, 1) := by decide +kernel
theorem dX9_pump_8 : decode cX9_pump 8 = .ok (.invokevirtual 75, 3) := by decide +kernel
theorem dX9_pump_11 : decode cX9_pump 11 = .ok (.ifCond .eq 16, 3) := by decide +kernel
theorem dX9_pump_14 : decode cX9_pump 14 = .ok (.iload_n 2, 1) := by decide +kernel
theorem dX9_pump_15 : decode cX9_pump 15 = .ok (.iconst 0, 1) := by decide +kernel
theorem dX9_pump_16 : decode cX9_pump 16 = .ok (.iconst 5, 1) := by decide +kernel
theorem dX9_pump_17 : decode cX9_pump 17 = .ok (.invokestatic 23, 3) := by decide +kernel
theorem dX9_pump_20 : decode cX9_pump 20 = .ok (.ifCond .eq 7, 3) := by decide +kernel
theorem dX9_pump_23 : decode cX9_pump 23 = .ok (.iconst 1, 1) := by decide +kernel
theorem dX9_pump_24 : decode cX9_pump 24 = .ok (.goto 4, 3) := by decide +kernel
theorem dX9_pump_27 : decode cX9_pump 27 = .ok (.iconst 0, 1) := by decide +kernel
theorem dX9_pump_28 : decode cX9_pump 28 = .ok (.invokestatic 55, 3) := by decide +kernel
theorem dX9_pump_31 : decode cX9_pump 31 = .ok (.aload_n 0, 1) := by decide +kernel
theorem dX9_pump_32 : decode cX9_pump 32 = .ok (.getfield 10, 3) := by decide +kernel
theorem dX9_pump_35 : decode cX9_pump 35 = .ok (.getfield 61, 3) := by decide +kernel
theorem dX9_pump_38 : decode cX9_pump 38 = .ok (.iload_n 1, 1) := by decide +kernel
theorem dX9_pump_39 : decode cX9_pump 39 = .ok (.iload_n 2, 1) := by decide +kernel
theorem dX9_pump_40 : decode cX9_pump 40 = .ok (.invokevirtual 129, 3) := by decide +kernel
theorem dX9_pump_43 : decode cX9_pump 43 = .ok (.ireturn, 1) := by decide +kernel
theorem dX9_gauge_0 : decode cX9_gauge 0 = .ok (.aload_n 0, 1) := by decide +kernel
theorem dX9_gauge_1 : decode cX9_gauge 1 = .ok (.getfield 10, 3) := by decide +kernel
theorem dX9_gauge_4 : decode cX9_gauge 4 = .ok (.getfield 82, 3) := by decide +kernel
theorem dX9_gauge_7 : decode cX9_gauge 7 = .ok (.iload_n 1, 1) := by decide +kernel
theorem dX9_gauge_8 : decode cX9_gauge 8 = .ok (.invokevirtual 132, 3) := by decide +kernel
theorem dX9_gauge_11 : decode cX9_gauge 11 = .ok (.ifCond .eq 16, 3) := by decide +kernel
theorem dX9_gauge_14 : decode cX9_gauge 14 = .ok (.iload_n 2, 1) := by decide +kernel
theorem dX9_gauge_15 : decode cX9_gauge 15 = .ok (.iconst 0, 1) := by decide +kernel
theorem dX9_gauge_16 : decode cX9_gauge 16 = .ok (.iconst 4, 1) := by decide +kernel
theorem dX9_gauge_17 : decode cX9_gauge 17 = .ok (.invokestatic 23, 3) := by decide +kernel
theorem dX9_gauge_20 : decode cX9_gauge 20 = .ok (.ifCond .eq 7, 3) := by decide +kernel
theorem dX9_gauge_23 : decode cX9_gauge 23 = .ok (.iconst 1, 1) := by decide +kernel
theorem dX9_gauge_24 : decode cX9_gauge 24 = .ok (.goto 4, 3) := by decide +kernel
theorem dX9_gauge_27 : decode cX9_gauge 27 = .ok (.iconst 0, 1) := by decide +kernel
theorem dX9_gauge_28 : decode cX9_gauge 28 = .ok (.invokestatic 55, 3) := by decide +kernel
theorem dX9_gauge_31 : decode cX9_gauge 31 = .ok (.aload_n 0, 1) := by decide +kernel
theorem dX9_gauge_32 : decode cX9_gauge 32 = .ok (.getfield 10, 3) := by decide +kernel
theorem dX9_gauge_35 : decode cX9_gauge 35 = .ok (.getfield 82, 3) := by decide +kernel
theorem dX9_gauge_38 : decode cX9_gauge 38 = .ok (.iload_n 1, 1) := by decide +kernel
theorem dX9_gauge_39 : decode cX9_gauge 39 = .ok (.iload_n 2, 1) := by decide +kernel
theorem dX9_gauge_40 : decode cX9_gauge 40 = .ok (.aload_n 0, 1) := by decide +kernel
theorem dX9_gauge_41 : decode cX9_gauge 41 = .ok (.getfield 10, 3) := by decide +kernel
theorem dX9_gauge_44 : decode cX9_gauge 44 = .ok (.getfield 35, 3) := by decide +kernel
theorem dX9_gauge_47 : decode cX9_gauge 47 = .ok (.invokevirtual 133, 3) := by decide +kernel
theorem dX9_gauge_50 : decode cX9_gauge 50 = .ok (.ireturn, 1) := by decide +kernel
theorem dX9_refuge_0 : decode cX9_refuge 0 = .ok (.aload_n 0, 1) := by decide +kernel
theorem dX9_refuge_1 : decode cX9_refuge 1 = .ok (.getfield 10, 3) := by decide +kernel
theorem dX9_refuge_4 : decode cX9_refuge 4 = .ok (.getfield 92, 3) := by decide +kernel
theorem dX9_refuge_7 : decode cX9_refuge 7 = .ok (.iload_n 1, 1) := by decide +kernel
theorem dX9_refuge_8 : decode cX9_refuge 8 = .ok (.invokevirtual 136, 3) := by decide +kernel
theorem dX9_refuge_11 : decode cX9_refuge 11 = .ok (.ifCond .eq 16, 3) := by decide +kernel
theorem dX9_refuge_14 : decode cX9_refuge 14 = .ok (.iload_n 2, 1) := by decide +kernel
theorem dX9_refuge_15 : decode cX9_refuge 15 = .ok (.iconst 0, 1) := by decide +kernel
theorem dX9_refuge_16 : decode cX9_refuge 16 = .ok (.iconst 4, 1) := by decide +kernel
theorem dX9_refuge_17 : decode cX9_refuge 17 = .ok (.invokestatic 23, 3) := by decide +kernel
theorem dX9_refuge_20 : decode cX9_refuge 20 = .ok (.ifCond .eq 7, 3) := by decide +kernel
theorem dX9_refuge_23 : decode cX9_refuge 23 = .ok (.iconst 1, 1) := by decide +kernel
theorem dX9_refuge_24 : decode cX9_refuge 24 = .ok (.goto 4, 3) := by decide +kernel
theorem dX9_refuge_27 : decode cX9_refuge 27 = .ok (.iconst 0, 1) := by decide +kernel
theorem dX9_refuge_28 : decode cX9_refuge 28 = .ok (.invokestatic 55, 3) := by decide +kernel
theorem dX9_refuge_31 : decode cX9_refuge 31 = .ok (.aload_n 0, 1) := by decide +kernel
theorem dX9_refuge_32 : decode cX9_refuge 32 = .ok (.getfield 10, 3) := by decide +kernel
theorem dX9_refuge_35 : decode cX9_refuge 35 = .ok (.getfield 92, 3) := by decide +kernel
theorem dX9_refuge_38 : decode cX9_refuge 38 = .ok (.iload_n 1, 1) := by decide +kernel
theorem dX9_refuge_39 : decode cX9_refuge 39 = .ok (.iload_n 2, 1) := by decide +kernel
theorem dX9_refuge_40 : decode cX9_refuge 40 = .ok (.invokevirtual 137, 3) := by decide +kernel
theorem dX9_refuge_43 : decode cX9_refuge 43 = .ok (.ireturn, 1) := by decide +kernel
theorem dX9_household_0 : decode cX9_household 0 = .ok (.aload_n 0, 1) := by decide +kernel
theorem dX9_household_1 : decode cX9_household 1 = .ok (.getfield 10, 3) := by decide +kernel
theorem dX9_household_4 : decode cX9_household 4 = .ok (.getfield 102, 3) := by decide +kernel
theorem dX9_household_7 : decode cX9_household 7 = .ok (.iload_n 1, 1) := by decide +kernel
theorem dX9_household_8 : decode cX9_household 8 = .ok (.invokevirtual 138, 3) := by decide +kernel
theorem dX9_household_11 : decode cX9_household 11 = .ok (.ifCond .eq 16, 3) := by decide +kernel
theorem dX9_household_14 : decode cX9_household 14 = .ok (.iload_n 2, 1) := by decide +kernel
theorem dX9_household_15 : decode cX9_household 15 = .ok (.iconst 0, 1) := by decide +kernel
theorem dX9_household_16 : decode cX9_household 16 = .ok (.iconst 4, 1) := by decide +kernel
theorem dX9_household_17 : decode cX9_household 17 = .ok (.invokestatic 23, 3) := by decide +kernel
theorem dX9_household_20 : decode cX9_household 20 = .ok (.ifCond .eq 7, 3) := by decide +kernel
theorem dX9_household_23 : decode cX9_household 23 = .ok (.iconst 1, 1) := by decide +kernel
theorem dX9_household_24 : decode cX9_household 24 = .ok (.goto 4, 3) := by decide +kernel
theorem dX9_household_27 : decode cX9_household 27 = .ok (.iconst 0, 1) := by decide +kernel
theorem dX9_household_28 : decode cX9_household 28 = .ok (.invokestatic 55, 3) := by decide +kernel
theorem dX9_household_31 : decode cX9_household 31 = .ok (.aload_n 0, 1) := by decide +kernel
theorem dX9_household_32 : decode cX9_household 32 = .ok (.getfield 10, 3) := by decide +kernel
theorem dX9_household_35 : decode cX9_household 35 = .ok (.iload_n 1, 1) := by decide +kernel
theorem dX9_household_36 : decode cX9_household 36 = .ok (.iload_n 2, 1) := by decide +kernel
theorem dX9_household_37 : decode cX9_household 37 = .ok (.invokevirtual 139, 3) := by decide +kernel
theorem dX9_household_40 : decode cX9_household 40 = .ok (.ireturn, 1) := by decide +kernel
theorem dX9_caller_0 : decode cX9_caller 0 = .ok (.aload_n 0, 1) := by decide +kernel
theorem dX9_caller_1 : decode cX9_caller 1 = .ok (.getfield 10, 3) := by decide +kernel
theorem dX9_caller_4 : decode cX9_caller 4 = .ok (.getfield 115, 3) := by decide +kernel
theorem dX9_caller_7 : decode cX9_caller 7 = .ok (.iload_n 1, 1) := by decide +kernel
theorem dX9_caller_8 : decode cX9_caller 8 = .ok (.invokevirtual 142, 3) := by decide +kernel
theorem dX9_caller_11 : decode cX9_caller 11 = .ok (.ifCond .eq 16, 3) := by decide +kernel
theorem dX9_caller_14 : decode cX9_caller 14 = .ok (.iload_n 2, 1) := by decide +kernel
theorem dX9_caller_15 : decode cX9_caller 15 = .ok (.iconst 0, 1) := by decide +kernel
theorem dX9_caller_16 : decode cX9_caller 16 = .ok (.iconst 2, 1) := by decide +kernel
theorem dX9_caller_17 : decode cX9_caller 17 = .ok (.invokestatic 23, 3) := by decide +kernel
theorem dX9_caller_20 : decode cX9_caller 20 = .ok (.ifCond .eq 7, 3) := by decide +kernel
theorem dX9_caller_23 : decode cX9_caller 23 = .ok (.iconst 1, 1) := by decide +kernel
theorem dX9_caller_24 : decode cX9_caller 24 = .ok (.goto 4, 3) := by decide +kernel
theorem dX9_caller_27 : decode cX9_caller 27 = .ok (.iconst 0, 1) := by decide +kernel
theorem dX9_caller_28 : decode cX9_caller 28 = .ok (.invokestatic 55, 3) := by decide +kernel
theorem dX9_caller_31 : decode cX9_caller 31 = .ok (.aload_n 0, 1) := by decide +kernel
theorem dX9_caller_32 : decode cX9_caller 32 = .ok (.getfield 10, 3) := by decide +kernel
theorem dX9_caller_35 : decode cX9_caller 35 = .ok (.getfield 115, 3) := by decide +kernel
theorem dX9_caller_38 : decode cX9_caller 38 = .ok (.iload_n 1, 1) := by decide +kernel
theorem dX9_caller_39 : decode cX9_caller 39 = .ok (.iload_n 2, 1) := by decide +kernel
theorem dX9_caller_40 : decode cX9_caller 40 = .ok (.invokevirtual 143, 3) := by decide +kernel
theorem dX9_caller_43 : decode cX9_caller 43 = .ok (.ireturn, 1) := by decide +kernel
theorem dX9_count_0 : decode cX9_count 0 = .ok (.iload_n 1, 1) := by decide +kernel
theorem dX9_count_1 : decode cX9_count 1 = .ok (.iconst 0, 1) := by decide +kernel
theorem dX9_count_2 : decode cX9_count 2 = .ok (.bipush 9, 2) := by decide +kernel
theorem dX9_count_4 : decode cX9_count 4 = .ok (.invokestatic 23, 3) := by decide +kernel
theorem dX9_count_7 : decode cX9_count 7 = .ok (.invokestatic 55, 3) := by decide +kernel
theorem dX9_count_10 : decode cX9_count 10 = .ok (.aload_n 0, 1) := by decide +kernel
theorem dX9_count_11 : decode cX9_count 11 = .ok (.getfield 10, 3) := by decide +kernel
theorem dX9_count_14 : decode cX9_count 14 = .ok (.iload_n 1, 1) := by decide +kernel
theorem dX9_count_15 : decode cX9_count 15 = .ok (.invokevirtual 144, 3) := by decide +kernel
theorem dX9_count_18 : decode cX9_count 18 = .ok (.ireturn, 1) := by decide +kernel
theorem dX9_pass_0 : decode cX9_pass 0 = .ok (.iload_n 1, 1) := by decide +kernel
theorem dX9_pass_1 : decode cX9_pass 1 = .ok (.iconst 1, 1) := by decide +kernel
theorem dX9_pass_2 : decode cX9_pass 2 = .ok (.bipush 36, 2) := by decide +kernel
theorem dX9_pass_4 : decode cX9_pass 4 = .ok (.invokestatic 23, 3) := by decide +kernel
theorem dX9_pass_7 : decode cX9_pass 7 = .ok (.invokestatic 27, 3) := by decide +kernel
theorem dX9_pass_10 : decode cX9_pass 10 = .ok (.aload_n 0, 1) := by decide +kernel
theorem dX9_pass_11 : decode cX9_pass 11 = .ok (.getfield 10, 3) := by decide +kernel
theorem dX9_pass_14 : decode cX9_pass 14 = .ok (.getfield 102, 3) := by decide +kernel
theorem dX9_pass_17 : decode cX9_pass 17 = .ok (.getfield 147, 3) := by decide +kernel
theorem dX9_pass_20 : decode cX9_pass 20 = .ok (.istore_n 2, 1) := by decide +kernel
theorem dX9_pass_21 : decode cX9_pass 21 = .ok (.aload_n 0, 1) := by decide +kernel
theorem dX9_pass_22 : decode cX9_pass 22 = .ok (.getfield 10, 3) := by decide +kernel
theorem dX9_pass_25 : decode cX9_pass 25 = .ok (.iload_n 1, 1) := by decide +kernel
theorem dX9_pass_26 : decode cX9_pass 26 = .ok (.invokevirtual 151, 3) := by decide +kernel
theorem dX9_pass_29 : decode cX9_pass 29 = .ok (.aload_n 0, 1) := by decide +kernel
theorem dX9_pass_30 : decode cX9_pass 30 = .ok (.getfield 10, 3) := by decide +kernel
theorem dX9_pass_33 : decode cX9_pass 33 = .ok (.getfield 102, 3) := by decide +kernel
theorem dX9_pass_36 : decode cX9_pass 36 = .ok (.getfield 147, 3) := by decide +kernel
theorem dX9_pass_39 : decode cX9_pass 39 = .ok (.iload_n 2, 1) := by decide +kernel
theorem dX9_pass_40 : decode cX9_pass 40 = .ok (.isub, 1) := by decide +kernel
theorem dX9_pass_41 : decode cX9_pass 41 = .ok (.ireturn, 1) := by decide +kernel
theorem dX9_foresee_0 : decode cX9_foresee 0 = .ok (.iload_n 1, 1) := by decide +kernel
theorem dX9_foresee_1 : decode cX9_foresee 1 = .ok (.iconst 1, 1) := by decide +kernel
theorem dX9_foresee_2 : decode cX9_foresee 2 = .ok (.bipush 36, 2) := by decide +kernel
theorem dX9_foresee_4 : decode cX9_foresee 4 = .ok (.invokestatic 23, 3) := by decide +kernel
theorem dX9_foresee_7 : decode cX9_foresee 7 = .ok (.invokestatic 27, 3) := by decide +kernel
theorem dX9_foresee_10 : decode cX9_foresee 10 = .ok (.iload_n 2, 1) := by decide +kernel
theorem dX9_foresee_11 : decode cX9_foresee 11 = .ok (.iconst 0, 1) := by decide +kernel
theorem dX9_foresee_12 : decode cX9_foresee 12 = .ok (.iconst 3, 1) := by decide +kernel
theorem dX9_foresee_13 : decode cX9_foresee 13 = .ok (.invokestatic 23, 3) := by decide +kernel
theorem dX9_foresee_16 : decode cX9_foresee 16 = .ok (.invokestatic 55, 3) := by decide +kernel
theorem dX9_foresee_19 : decode cX9_foresee 19 = .ok (.aload_n 0, 1) := by decide +kernel
theorem dX9_foresee_20 : decode cX9_foresee 20 = .ok (.getfield 16, 3) := by decide +kernel
theorem dX9_foresee_23 : decode cX9_foresee 23 = .ok (.aload_n 0, 1) := by decide +kernel
theorem dX9_foresee_24 : decode cX9_foresee 24 = .ok (.getfield 10, 3) := by decide +kernel
theorem dX9_foresee_27 : decode cX9_foresee 27 = .ok (.invokevirtual 155, 3) := by decide +kernel
theorem dX9_foresee_30 : decode cX9_foresee 30 = .ok (.aload_n 0, 1) := by decide +kernel
theorem dX9_foresee_31 : decode cX9_foresee 31 = .ok (.getfield 16, 3) := by decide +kernel
theorem dX9_foresee_34 : decode cX9_foresee 34 = .ok (.iload_n 1, 1) := by decide +kernel
theorem dX9_foresee_35 : decode cX9_foresee 35 = .ok (.invokevirtual 151, 3) := by decide +kernel
theorem dX9_foresee_38 : decode cX9_foresee 38 = .ok (.iload_n 2, 1) := by decide +kernel
theorem dX9_foresee_39 : decode cX9_foresee 39 = .ok (.tableswitch 70 0 2 #[25, 37, 59], 25) := by decide +kernel
theorem dX9_foresee_64 : decode cX9_foresee 64 = .ok (.aload_n 0, 1) := by decide +kernel
theorem dX9_foresee_65 : decode cX9_foresee 65 = .ok (.getfield 16, 3) := by decide +kernel
theorem dX9_foresee_68 : decode cX9_foresee 68 = .ok (.getfield 102, 3) := by decide +kernel
theorem dX9_foresee_71 : decode cX9_foresee 71 = .ok (.iconst 2, 1) := by decide +kernel
theorem dX9_foresee_72 : decode cX9_foresee 72 = .ok (.invokevirtual 159, 3) := by decide +kernel
theorem dX9_foresee_75 : decode cX9_foresee 75 = .ok (.ireturn, 1) := by decide +kernel
theorem dX9_foresee_76 : decode cX9_foresee 76 = .ok (.aload_n 0, 1) := by decide +kernel
theorem dX9_foresee_77 : decode cX9_foresee 77 = .ok (.getfield 16, 3) := by decide +kernel
theorem dX9_foresee_80 : decode cX9_foresee 80 = .ok (.getfield 102, 3) := by decide +kernel
theorem dX9_foresee_83 : decode cX9_foresee 83 = .ok (.getfield 147, 3) := by decide +kernel
theorem dX9_foresee_86 : decode cX9_foresee 86 = .ok (.aload_n 0, 1) := by decide +kernel
theorem dX9_foresee_87 : decode cX9_foresee 87 = .ok (.getfield 10, 3) := by decide +kernel
theorem dX9_foresee_90 : decode cX9_foresee 90 = .ok (.getfield 102, 3) := by decide +kernel
theorem dX9_foresee_93 : decode cX9_foresee 93 = .ok (.getfield 147, 3) := by decide +kernel
theorem dX9_foresee_96 : decode cX9_foresee 96 = .ok (.isub, 1) := by decide +kernel
theorem dX9_foresee_97 : decode cX9_foresee 97 = .ok (.ireturn, 1) := by decide +kernel
theorem dX9_foresee_98 : decode cX9_foresee 98 = .ok (.aload_n 0, 1) := by decide +kernel
theorem dX9_foresee_99 : decode cX9_foresee 99 = .ok (.getfield 16, 3) := by decide +kernel
theorem dX9_foresee_102 : decode cX9_foresee 102 = .ok (.getfield 35, 3) := by decide +kernel
theorem dX9_foresee_105 : decode cX9_foresee 105 = .ok (.invokevirtual 162, 3) := by decide +kernel
theorem dX9_foresee_108 : decode cX9_foresee 108 = .ok (.ireturn, 1) := by decide +kernel
theorem dX9_foresee_109 : decode cX9_foresee 109 = .ok (.aload_n 0, 1) := by decide +kernel
theorem dX9_foresee_110 : decode cX9_foresee 110 = .ok (.getfield 16, 3) := by decide +kernel
theorem dX9_foresee_113 : decode cX9_foresee 113 = .ok (.getfield 61, 3) := by decide +kernel
theorem dX9_foresee_116 : decode cX9_foresee 116 = .ok (.invokevirtual 165, 3) := by decide +kernel
theorem dX9_foresee_119 : decode cX9_foresee 119 = .ok (.ireturn, 1) := by decide +kernel
theorem dX9_rings_0 : decode cX9_rings 0 = .ok (.aload_n 0, 1) := by decide +kernel
theorem dX9_rings_1 : decode cX9_rings 1 = .ok (.getfield 10, 3) := by decide +kernel
theorem dX9_rings_4 : decode cX9_rings 4 = .ok (.getfield 82, 3) := by decide +kernel
theorem dX9_rings_7 : decode cX9_rings 7 = .ok (.iload_n 1, 1) := by decide +kernel
theorem dX9_rings_8 : decode cX9_rings 8 = .ok (.invokevirtual 132, 3) := by decide +kernel
theorem dX9_rings_11 : decode cX9_rings 11 = .ok (.invokestatic 55, 3) := by decide +kernel
theorem dX9_rings_14 : decode cX9_rings 14 = .ok (.aload_n 0, 1) := by decide +kernel
theorem dX9_rings_15 : decode cX9_rings 15 = .ok (.getfield 16, 3) := by decide +kernel
theorem dX9_rings_18 : decode cX9_rings 18 = .ok (.aload_n 0, 1) := by decide +kernel
theorem dX9_rings_19 : decode cX9_rings 19 = .ok (.getfield 10, 3) := by decide +kernel
theorem dX9_rings_22 : decode cX9_rings 22 = .ok (.invokevirtual 155, 3) := by decide +kernel
theorem dX9_rings_25 : decode cX9_rings 25 = .ok (.iconst 0, 1) := by decide +kernel
theorem dX9_rings_26 : decode cX9_rings 26 = .ok (.istore_n 2, 1) := by decide +kernel
theorem dX9_rings_27 : decode cX9_rings 27 = .ok (.iload_n 2, 1) := by decide +kernel
theorem dX9_rings_28 : decode cX9_rings 28 = .ok (.bipush 48, 2) := by decide +kernel
theorem dX9_rings_30 : decode cX9_rings 30 = .ok (.if_icmp .ge 39, 3) := by decide +kernel
theorem dX9_rings_33 : decode cX9_rings 33 = .ok (.aload_n 0, 1) := by decide +kernel
theorem dX9_rings_34 : decode cX9_rings 34 = .ok (.getfield 16, 3) := by decide +kernel
theorem dX9_rings_37 : decode cX9_rings 37 = .ok (.getfield 82, 3) := by decide +kernel
theorem dX9_rings_40 : decode cX9_rings 40 = .ok (.iload_n 1, 1) := by decide +kernel
theorem dX9_rings_41 : decode cX9_rings 41 = .ok (.aload_n 0, 1) := by decide +kernel
theorem dX9_rings_42 : decode cX9_rings 42 = .ok (.getfield 16, 3) := by decide +kernel
theorem dX9_rings_45 : decode cX9_rings 45 = .ok (.getfield 35, 3) := by decide +kernel
theorem dX9_rings_48 : decode cX9_rings 48 = .ok (.invokevirtual 168, 3) := by decide +kernel
theorem dX9_rings_51 : decode cX9_rings 51 = .ok (.ifCond .eq 5, 3) := by decide +kernel
theorem dX9_rings_54 : decode cX9_rings 54 = .ok (.iload_n 2, 1) := by decide +kernel
theorem dX9_rings_55 : decode cX9_rings 55 = .ok (.ireturn, 1) := by decide +kernel
theorem dX9_rings_56 : decode cX9_rings 56 = .ok (.aload_n 0, 1) := by decide +kernel
theorem dX9_rings_57 : decode cX9_rings 57 = .ok (.getfield 16, 3) := by decide +kernel
theorem dX9_rings_60 : decode cX9_rings 60 = .ok (.invokevirtual 172, 3) := by decide +kernel
theorem dX9_rings_63 : decode cX9_rings 63 = .ok (.iinc 2 1, 3) := by decide +kernel
theorem dX9_rings_66 : decode cX9_rings 66 = .ok (.goto (-39), 3) := by decide +kernel
theorem dX9_rings_69 : decode cX9_rings 69 = .ok (.aload_n 0, 1) := by decide +kernel
theorem dX9_rings_70 : decode cX9_rings 70 = .ok (.getfield 16, 3) := by decide +kernel
theorem dX9_rings_73 : decode cX9_rings 73 = .ok (.getfield 82, 3) := by decide +kernel
theorem dX9_rings_76 : decode cX9_rings 76 = .ok (.iload_n 1, 1) := by decide +kernel
theorem dX9_rings_77 : decode cX9_rings 77 = .ok (.aload_n 0, 1) := by decide +kernel
theorem dX9_rings_78 : decode cX9_rings 78 = .ok (.getfield 16, 3) := by decide +kernel
theorem dX9_rings_81 : decode cX9_rings 81 = .ok (.getfield 35, 3) := by decide +kernel
theorem dX9_rings_84 : decode cX9_rings 84 = .ok (.invokevirtual 168, 3) := by decide +kernel
theorem dX9_rings_87 : decode cX9_rings 87 = .ok (.ifCond .eq 8, 3) := by decide +kernel
theorem dX9_rings_90 : decode cX9_rings 90 = .ok (.bipush 48, 2) := by decide +kernel
theorem dX9_rings_92 : decode cX9_rings 92 = .ok (.goto 4, 3) := by decide +kernel
theorem dX9_rings_95 : decode cX9_rings 95 = .ok (.iconst (-1), 1) := by decide +kernel
theorem dX9_rings_96 : decode cX9_rings 96 = .ok (.ireturn, 1) := by decide +kernel
theorem dX9_advise_0 : decode cX9_advise 0 = .ok (.iload_n 1, 1) := by decide +kernel
theorem dX9_advise_1 : decode cX9_advise 1 = .ok (.iconst 1, 1) := by decide +kernel
theorem dX9_advise_2 : decode cX9_advise 2 = .ok (.bipush 6, 2) := by decide +kernel
theorem dX9_advise_4 : decode cX9_advise 4 = .ok (.invokestatic 23, 3) := by decide +kernel
theorem dX9_advise_7 : decode cX9_advise 7 = .ok (.invokestatic 27, 3) := by decide +kernel
theorem dX9_advise_10 : decode cX9_advise 10 = .ok (.iconst (-1), 1) := by decide +kernel
theorem dX9_advise_11 : decode cX9_advise 11 = .ok (.istore_n 2, 1) := by decide +kernel
theorem dX9_advise_12 : decode cX9_advise 12 = .ok (.aload_n 0, 1) := by decide +kernel
theorem dX9_advise_13 : decode cX9_advise 13 = .ok (.iload_n 1, 1) := by decide +kernel
theorem dX9_advise_14 : decode cX9_advise 14 = .ok (.iconst (-1), 1) := by decide +kernel
theorem dX9_advise_15 : decode cX9_advise 15 = .ok (.invokevirtual 175, 3) := by decide +kernel
theorem dX9_advise_18 : decode cX9_advise 18 = .ok (.istore_n 3, 1) := by decide +kernel
theorem dX9_advise_19 : decode cX9_advise 19 = .ok (.iconst 0, 1) := by decide +kernel
theorem dX9_advise_20 : decode cX9_advise 20 = .ok (.istore 4, 2) := by decide +kernel
theorem dX9_advise_22 : decode cX9_advise 22 = .ok (.iload 4, 2) := by decide +kernel
theorem dX9_advise_24 : decode cX9_advise 24 = .ok (.bipush 10, 2) := by decide +kernel
theorem dX9_advise_26 : decode cX9_advise 26 = .ok (.if_icmp .ge 55, 3) := by decide +kernel
theorem dX9_advise_29 : decode cX9_advise 29 = .ok (.iload 4, 2) := by decide +kernel
theorem dX9_advise_31 : decode cX9_advise 31 = .ok (.iconst 1, 1) := by decide +kernel
theorem dX9_advise_32 : decode cX9_advise 32 = .ok (.invokestatic 31, 3) := by decide +kernel
theorem dX9_advise_35 : decode cX9_advise 35 = .ok (.istore 5, 2) := by decide +kernel
theorem dX9_advise_37 : decode cX9_advise 37 = .ok (.aload_n 0, 1) := by decide +kernel
theorem dX9_advise_38 : decode cX9_advise 38 = .ok (.getfield 10, 3) := by decide +kernel
theorem dX9_advise_41 : decode cX9_advise 41 = .ok (.getfield 35, 3) := by decide +kernel
theorem dX9_advise_44 : decode cX9_advise 44 = .ok (.getfield 49, 3) := by decide +kernel
theorem dX9_advise_47 : decode cX9_advise 47 = .ok (.iload 5, 2) := by decide +kernel
theorem dX9_advise_49 : decode cX9_advise 49 = .ok (.iaload, 1) := by decide +kernel
theorem dX9_advise_50 : decode cX9_advise 50 = .ok (.iconst 5, 1) := by decide +kernel
theorem dX9_advise_51 : decode cX9_advise 51 = .ok (.if_icmp .ge 24, 3) := by decide +kernel
theorem dX9_advise_54 : decode cX9_advise 54 = .ok (.aload_n 0, 1) := by decide +kernel
theorem dX9_advise_55 : decode cX9_advise 55 = .ok (.iload_n 1, 1) := by decide +kernel
theorem dX9_advise_56 : decode cX9_advise 56 = .ok (.iload 5, 2) := by decide +kernel
theorem dX9_advise_58 : decode cX9_advise 58 = .ok (.invokevirtual 175, 3) := by decide +kernel
theorem dX9_advise_61 : decode cX9_advise 61 = .ok (.istore 6, 2) := by decide +kernel
theorem dX9_advise_63 : decode cX9_advise 63 = .ok (.iload 6, 2) := by decide +kernel
theorem dX9_advise_65 : decode cX9_advise 65 = .ok (.iload_n 3, 1) := by decide +kernel
theorem dX9_advise_66 : decode cX9_advise 66 = .ok (.if_icmp .ge 9, 3) := by decide +kernel
theorem dX9_advise_69 : decode cX9_advise 69 = .ok (.iload 6, 2) := by decide +kernel
theorem dX9_advise_71 : decode cX9_advise 71 = .ok (.istore_n 3, 1) := by decide +kernel
theorem dX9_advise_72 : decode cX9_advise 72 = .ok (.iload 4, 2) := by decide +kernel
theorem dX9_advise_74 : decode cX9_advise 74 = .ok (.istore_n 2, 1) := by decide +kernel
theorem dX9_advise_75 : decode cX9_advise 75 = .ok (.iinc 4 1, 3) := by decide +kernel
theorem dX9_advise_78 : decode cX9_advise 78 = .ok (.goto (-56), 3) := by decide +kernel
theorem dX9_advise_81 : decode cX9_advise 81 = .ok (.iload_n 2, 1) := by decide +kernel
theorem dX9_advise_82 : decode cX9_advise 82 = .ok (.ireturn, 1) := by decide +kernel
theorem dX9_share_0 : decode cX9_share 0 = .ok (.aload_n 0, 1) := by decide +kernel
theorem dX9_share_1 : decode cX9_share 1 = .ok (.getfield 10, 3) := by decide +kernel
theorem dX9_share_4 : decode cX9_share 4 = .ok (.getfield 102, 3) := by decide +kernel
theorem dX9_share_7 : decode cX9_share 7 = .ok (.iconst 2, 1) := by decide +kernel
theorem dX9_share_8 : decode cX9_share 8 = .ok (.invokevirtual 159, 3) := by decide +kernel
theorem dX9_share_11 : decode cX9_share 11 = .ok (.istore_n 1, 1) := by decide +kernel
theorem dX9_share_12 : decode cX9_share 12 = .ok (.iload_n 1, 1) := by decide +kernel
theorem dX9_share_13 : decode cX9_share 13 = .ok (.aload_n 0, 1) := by decide +kernel
theorem dX9_share_14 : decode cX9_share 14 = .ok (.getfield 10, 3) := by decide +kernel
theorem dX9_share_17 : decode cX9_share 17 = .ok (.getfield 102, 3) := by decide +kernel
theorem dX9_share_20 : decode cX9_share 20 = .ok (.iconst 0, 1) := by decide +kernel
theorem dX9_share_21 : decode cX9_share 21 = .ok (.invokevirtual 159, 3) := by decide +kernel
theorem dX9_share_24 : decode cX9_share 24 = .ok (.iadd, 1) := by decide +kernel
theorem dX9_share_25 : decode cX9_share 25 = .ok (.aload_n 0, 1) := by decide +kernel
theorem dX9_share_26 : decode cX9_share 26 = .ok (.getfield 10, 3) := by decide +kernel
theorem dX9_share_29 : decode cX9_share 29 = .ok (.getfield 102, 3) := by decide +kernel
theorem dX9_share_32 : decode cX9_share 32 = .ok (.iconst 1, 1) := by decide +kernel
theorem dX9_share_33 : decode cX9_share 33 = .ok (.invokevirtual 159, 3) := by decide +kernel
theorem dX9_share_36 : decode cX9_share 36 = .ok (.iadd, 1) := by decide +kernel
theorem dX9_share_37 : decode cX9_share 37 = .ok (.istore_n 2, 1) := by decide +kernel
theorem dX9_share_38 : decode cX9_share 38 = .ok (.iload_n 2, 1) := by decide +kernel
theorem dX9_share_39 : decode cX9_share 39 = .ok (.ifCond .le 11, 3) := by decide +kernel
theorem dX9_share_42 : decode cX9_share 42 = .ok (.iload_n 1, 1) := by decide +kernel
theorem dX9_share_43 : decode cX9_share 43 = .ok (.i2d, 1) := by decide +kernel
theorem dX9_share_44 : decode cX9_share 44 = .ok (.iload_n 2, 1) := by decide +kernel
theorem dX9_share_45 : decode cX9_share 45 = .ok (.i2d, 1) := by decide +kernel
theorem dX9_share_46 : decode cX9_share 46 = .ok (.ddiv, 1) := by decide +kernel
theorem dX9_share_47 : decode cX9_share 47 = .ok (.goto 4, 3) := by decide +kernel
theorem dX9_share_50 : decode cX9_share 50 = .ok (.dconst 0, 1) := by decide +kernel
theorem dX9_share_51 : decode cX9_share 51 = .ok (.dreturn, 1) := by decide +kernel
theorem dX9_digest_0 : decode cX9_digest 0 = .ok (.ldc2_w 178, 3) := by decide +kernel
theorem dX9_digest_3 : decode cX9_digest 3 = .ok (.lstore_n 1, 1) := by decide +kernel
theorem dX9_digest_4 : decode cX9_digest 4 = .ok (.iconst 0, 1) := by decide +kernel
theorem dX9_digest_5 : decode cX9_digest 5 = .ok (.istore_n 3, 1) := by decide +kernel
theorem dX9_digest_6 : decode cX9_digest 6 = .ok (.iload_n 3, 1) := by decide +kernel
theorem dX9_digest_7 : decode cX9_digest 7 = .ok (.bipush 10, 2) := by decide +kernel
theorem dX9_digest_9 : decode cX9_digest 9 = .ok (.if_icmp .ge 25, 3) := by decide +kernel
theorem dX9_digest_12 : decode cX9_digest 12 = .ok (.lload_n 1, 1) := by decide +kernel
theorem dX9_digest_13 : decode cX9_digest 13 = .ok (.ldc2_w 180, 3) := by decide +kernel
theorem dX9_digest_16 : decode cX9_digest 16 = .ok (.lmul, 1) := by decide +kernel
theorem dX9_digest_17 : decode cX9_digest 17 = .ok (.aload_n 0, 1) := by decide +kernel
theorem dX9_digest_18 : decode cX9_digest 18 = .ok (.getfield 10, 3) := by decide +kernel
theorem dX9_digest_21 : decode cX9_digest 21 = .ok (.iload_n 3, 1) := by decide +kernel
theorem dX9_digest_22 : decode cX9_digest 22 = .ok (.invokevirtual 144, 3) := by decide +kernel
theorem dX9_digest_25 : decode cX9_digest 25 = .ok (.i2l, 1) := by decide +kernel
theorem dX9_digest_26 : decode cX9_digest 26 = .ok (.ladd, 1) := by decide +kernel
theorem dX9_digest_27 : decode cX9_digest 27 = .ok (.lstore_n 1, 1) := by decide +kernel
theorem dX9_digest_28 : decode cX9_digest 28 = .ok (.iinc 3 1, 3) := by decide +kernel
theorem dX9_digest_31 : decode cX9_digest 31 = .ok (.goto (-25), 3) := by decide +kernel
theorem dX9_digest_34 : decode cX9_digest 34 = .ok (.iconst 0, 1) := by decide +kernel
theorem dX9_digest_35 : decode cX9_digest 35 = .ok (.istore_n 3, 1) := by decide +kernel
theorem dX9_digest_36 : decode cX9_digest 36 = .ok (.iload_n 3, 1) := by decide +kernel
theorem dX9_digest_37 : decode cX9_digest 37 = .ok (.bipush 80, 2) := by decide +kernel
theorem dX9_digest_39 : decode cX9_digest 39 = .ok (.if_icmp .ge 43, 3) := by decide +kernel
theorem dX9_digest_42 : decode cX9_digest 42 = .ok (.iconst 0, 1) := by decide +kernel
theorem dX9_digest_43 : decode cX9_digest 43 = .ok (.istore 4, 2) := by decide +kernel
theorem dX9_digest_45 : decode cX9_digest 45 = .ok (.iload 4, 2) := by decide +kernel
theorem dX9_digest_47 : decode cX9_digest 47 = .ok (.bipush 6, 2) := by decide +kernel
theorem dX9_digest_49 : decode cX9_digest 49 = .ok (.if_icmp .ge 27, 3) := by decide +kernel
theorem dX9_digest_52 : decode cX9_digest 52 = .ok (.lload_n 1, 1) := by decide +kernel
theorem dX9_digest_53 : decode cX9_digest 53 = .ok (.ldc2_w 180, 3) := by decide +kernel
theorem dX9_digest_56 : decode cX9_digest 56 = .ok (.lmul, 1) := by decide +kernel
theorem dX9_digest_57 : decode cX9_digest 57 = .ok (.aload_n 0, 1) := by decide +kernel
theorem dX9_digest_58 : decode cX9_digest 58 = .ok (.getfield 10, 3) := by decide +kernel
theorem dX9_digest_61 : decode cX9_digest 61 = .ok (.iload_n 3, 1) := by decide +kernel
theorem dX9_digest_62 : decode cX9_digest 62 = .ok (.iload 4, 2) := by decide +kernel
theorem dX9_digest_64 : decode cX9_digest 64 = .ok (.invokevirtual 126, 3) := by decide +kernel
theorem dX9_digest_67 : decode cX9_digest 67 = .ok (.i2l, 1) := by decide +kernel
theorem dX9_digest_68 : decode cX9_digest 68 = .ok (.ladd, 1) := by decide +kernel
theorem dX9_digest_69 : decode cX9_digest 69 = .ok (.lstore_n 1, 1) := by decide +kernel
theorem dX9_digest_70 : decode cX9_digest 70 = .ok (.iinc 4 1, 3) := by decide +kernel
theorem dX9_digest_73 : decode cX9_digest 73 = .ok (.goto (-28), 3) := by decide +kernel
theorem dX9_digest_76 : decode cX9_digest 76 = .ok (.iinc 3 1, 3) := by decide +kernel
theorem dX9_digest_79 : decode cX9_digest 79 = .ok (.goto (-43), 3) := by decide +kernel
theorem dX9_digest_82 : decode cX9_digest 82 = .ok (.iconst 0, 1) := by decide +kernel
theorem dX9_digest_83 : decode cX9_digest 83 = .ok (.istore_n 3, 1) := by decide +kernel
theorem dX9_digest_84 : decode cX9_digest 84 = .ok (.iload_n 3, 1) := by decide +kernel
theorem dX9_digest_85 : decode cX9_digest 85 = .ok (.bipush 12, 2) := by decide +kernel
theorem dX9_digest_87 : decode cX9_digest 87 = .ok (.if_icmp .ge 29, 3) := by decide +kernel
theorem dX9_digest_90 : decode cX9_digest 90 = .ok (.lload_n 1, 1) := by decide +kernel
theorem dX9_digest_91 : decode cX9_digest 91 = .ok (.ldc2_w 180, 3) := by decide +kernel
theorem dX9_digest_94 : decode cX9_digest 94 = .ok (.lmul, 1) := by decide +kernel
theorem dX9_digest_95 : decode cX9_digest 95 = .ok (.aload_n 0, 1) := by decide +kernel
theorem dX9_digest_96 : decode cX9_digest 96 = .ok (.getfield 10, 3) := by decide +kernel
theorem dX9_digest_99 : decode cX9_digest 99 = .ok (.getfield 35, 3) := by decide +kernel
theorem dX9_digest_102 : decode cX9_digest 102 = .ok (.getfield 58, 3) := by decide +kernel
theorem dX9_digest_105 : decode cX9_digest 105 = .ok (.iload_n 3, 1) := by decide +kernel
theorem dX9_digest_106 : decode cX9_digest 106 = .ok (.iaload, 1) := by decide +kernel
theorem dX9_digest_107 : decode cX9_digest 107 = .ok (.i2l, 1) := by decide +kernel
theorem dX9_digest_108 : decode cX9_digest 108 = .ok (.ladd, 1) := by decide +kernel
theorem dX9_digest_109 : decode cX9_digest 109 = .ok (.lstore_n 1, 1) := by decide +kernel
theorem dX9_digest_110 : decode cX9_digest 110 = .ok (.iinc 3 1, 3) := by decide +kernel
theorem dX9_digest_113 : decode cX9_digest 113 = .ok (.goto (-29), 3) := by decide +kernel
theorem dX9_digest_116 : decode cX9_digest 116 = .ok (.aload_n 0, 1) := by decide +kernel
theorem dX9_digest_117 : decode cX9_digest 117 = .ok (.aload_n 0, 1) := by decide +kernel
theorem dX9_digest_118 : decode cX9_digest 118 = .ok (.lload_n 1, 1) := by decide +kernel
theorem dX9_digest_119 : decode cX9_digest 119 = .ok (.invokevirtual 182, 3) := by decide +kernel
theorem dX9_digest_122 : decode cX9_digest 122 = .ok (.invokevirtual 186, 3) := by decide +kernel
theorem dX9_digest_125 : decode cX9_digest 125 = .ok (.lreturn, 1) := by decide +kernel
theorem dX9_digestOfTools_0 : decode cX9_digestOfTools 0 = .ok (.lload_n 1, 1) := by decide +kernel
theorem dX9_digestOfTools_1 : decode cX9_digestOfTools 1 = .ok (.lstore_n 3, 1) := by decide +kernel
theorem dX9_digestOfTools_2 : decode cX9_digestOfTools 2 = .ok (.iconst 0, 1) := by decide +kernel
theorem dX9_digestOfTools_3 : decode cX9_digestOfTools 3 = .ok (.istore 5, 2) := by decide +kernel
theorem dX9_digestOfTools_5 : decode cX9_digestOfTools 5 = .ok (.iload 5, 2) := by decide +kernel
theorem dX9_digestOfTools_7 : decode cX9_digestOfTools 7 = .ok (.aload_n 0, 1) := by decide +kernel
theorem dX9_digestOfTools_8 : decode cX9_digestOfTools 8 = .ok (.getfield 10, 3) := by decide +kernel
theorem dX9_digestOfTools_11 : decode cX9_digestOfTools 11 = .ok (.getfield 61, 3) := by decide +kernel
theorem dX9_digestOfTools_14 : decode cX9_digestOfTools 14 = .ok (.getfield 189, 3) := by decide +kernel
theorem dX9_digestOfTools_17 : decode cX9_digestOfTools 17 = .ok (.if_icmp .ge 47, 3) := by decide +kernel
theorem dX9_digestOfTools_20 : decode cX9_digestOfTools 20 = .ok (.iconst 0, 1) := by decide +kernel
theorem dX9_digestOfTools_21 : decode cX9_digestOfTools 21 = .ok (.istore 6, 2) := by decide +kernel
theorem dX9_digestOfTools_23 : decode cX9_digestOfTools 23 = .ok (.iload 6, 2) := by decide +kernel
theorem dX9_digestOfTools_25 : decode cX9_digestOfTools 25 = .ok (.bipush 6, 2) := by decide +kernel
theorem dX9_digestOfTools_27 : decode cX9_digestOfTools 27 = .ok (.if_icmp .ge 31, 3) := by decide +kernel
theorem dX9_digestOfTools_30 : decode cX9_digestOfTools 30 = .ok (.lload_n 3, 1) := by decide +kernel
theorem dX9_digestOfTools_31 : decode cX9_digestOfTools 31 = .ok (.ldc2_w 180, 3) := by decide +kernel
theorem dX9_digestOfTools_34 : decode cX9_digestOfTools 34 = .ok (.lmul, 1) := by decide +kernel
theorem dX9_digestOfTools_35 : decode cX9_digestOfTools 35 = .ok (.aload_n 0, 1) := by decide +kernel
theorem dX9_digestOfTools_36 : decode cX9_digestOfTools 36 = .ok (.getfield 10, 3) := by decide +kernel
theorem dX9_digestOfTools_39 : decode cX9_digestOfTools 39 = .ok (.getfield 61, 3) := by decide +kernel
theorem dX9_digestOfTools_42 : decode cX9_digestOfTools 42 = .ok (.iload 5, 2) := by decide +kernel
theorem dX9_digestOfTools_44 : decode cX9_digestOfTools 44 = .ok (.iload 6, 2) := by decide +kernel
theorem dX9_digestOfTools_46 : decode cX9_digestOfTools 46 = .ok (.invokevirtual 129, 3) := by decide +kernel
theorem dX9_digestOfTools_49 : decode cX9_digestOfTools 49 = .ok (.i2l, 1) := by decide +kernel
theorem dX9_digestOfTools_50 : decode cX9_digestOfTools 50 = .ok (.ladd, 1) := by decide +kernel
theorem dX9_digestOfTools_51 : decode cX9_digestOfTools 51 = .ok (.lstore_n 3, 1) := by decide +kernel
theorem dX9_digestOfTools_52 : decode cX9_digestOfTools 52 = .ok (.iinc 6 1, 3) := by decide +kernel
theorem dX9_digestOfTools_55 : decode cX9_digestOfTools 55 = .ok (.goto (-32), 3) := by decide +kernel
theorem dX9_digestOfTools_58 : decode cX9_digestOfTools 58 = .ok (.iinc 5 1, 3) := by decide +kernel
theorem dX9_digestOfTools_61 : decode cX9_digestOfTools 61 = .ok (.goto (-56), 3) := by decide +kernel
theorem dX9_digestOfTools_64 : decode cX9_digestOfTools 64 = .ok (.iconst 0, 1) := by decide +kernel
theorem dX9_digestOfTools_65 : decode cX9_digestOfTools 65 = .ok (.istore 5, 2) := by decide +kernel
theorem dX9_digestOfTools_67 : decode cX9_digestOfTools 67 = .ok (.iload 5, 2) := by decide +kernel
theorem dX9_digestOfTools_69 : decode cX9_digestOfTools 69 = .ok (.aload_n 0, 1) := by decide +kernel
theorem dX9_digestOfTools_70 : decode cX9_digestOfTools 70 = .ok (.getfield 10, 3) := by decide +kernel
theorem dX9_digestOfTools_73 : decode cX9_digestOfTools 73 = .ok (.getfield 82, 3) := by decide +kernel
theorem dX9_digestOfTools_76 : decode cX9_digestOfTools 76 = .ok (.getfield 192, 3) := by decide +kernel
theorem dX9_digestOfTools_79 : decode cX9_digestOfTools 79 = .ok (.if_icmp .ge 53, 3) := by decide +kernel
theorem dX9_digestOfTools_82 : decode cX9_digestOfTools 82 = .ok (.iconst 0, 1) := by decide +kernel
theorem dX9_digestOfTools_83 : decode cX9_digestOfTools 83 = .ok (.istore 6, 2) := by decide +kernel
theorem dX9_digestOfTools_85 : decode cX9_digestOfTools 85 = .ok (.iload 6, 2) := by decide +kernel
theorem dX9_digestOfTools_87 : decode cX9_digestOfTools 87 = .ok (.iconst 5, 1) := by decide +kernel
theorem dX9_digestOfTools_88 : decode cX9_digestOfTools 88 = .ok (.if_icmp .ge 38, 3) := by decide +kernel
theorem dX9_digestOfTools_91 : decode cX9_digestOfTools 91 = .ok (.lload_n 3, 1) := by decide +kernel
theorem dX9_digestOfTools_92 : decode cX9_digestOfTools 92 = .ok (.ldc2_w 180, 3) := by decide +kernel
theorem dX9_digestOfTools_95 : decode cX9_digestOfTools 95 = .ok (.lmul, 1) := by decide +kernel
theorem dX9_digestOfTools_96 : decode cX9_digestOfTools 96 = .ok (.aload_n 0, 1) := by decide +kernel
theorem dX9_digestOfTools_97 : decode cX9_digestOfTools 97 = .ok (.getfield 10, 3) := by decide +kernel
theorem dX9_digestOfTools_100 : decode cX9_digestOfTools 100 = .ok (.getfield 82, 3) := by decide +kernel
theorem dX9_digestOfTools_103 : decode cX9_digestOfTools 103 = .ok (.iload 5, 2) := by decide +kernel
theorem dX9_digestOfTools_105 : decode cX9_digestOfTools 105 = .ok (.iload 6, 2) := by decide +kernel
theorem dX9_digestOfTools_107 : decode cX9_digestOfTools 107 = .ok (.aload_n 0, 1) := by decide +kernel
theorem dX9_digestOfTools_108 : decode cX9_digestOfTools 108 = .ok (.getfield 10, 3) := by decide +kernel
theorem dX9_digestOfTools_111 : decode cX9_digestOfTools 111 = .ok (.getfield 35, 3) := by decide +kernel
theorem dX9_digestOfTools_114 : decode cX9_digestOfTools 114 = .ok (.invokevirtual 133, 3) := by decide +kernel
theorem dX9_digestOfTools_117 : decode cX9_digestOfTools 117 = .ok (.i2l, 1) := by decide +kernel
theorem dX9_digestOfTools_118 : decode cX9_digestOfTools 118 = .ok (.ladd, 1) := by decide +kernel
theorem dX9_digestOfTools_119 : decode cX9_digestOfTools 119 = .ok (.lstore_n 3, 1) := by decide +kernel
theorem dX9_digestOfTools_120 : decode cX9_digestOfTools 120 = .ok (.iinc 6 1, 3) := by decide +kernel
theorem dX9_digestOfTools_123 : decode cX9_digestOfTools 123 = .ok (.goto (-38), 3) := by decide +kernel
theorem dX9_digestOfTools_126 : decode cX9_digestOfTools 126 = .ok (.iinc 5 1, 3) := by decide +kernel
theorem dX9_digestOfTools_129 : decode cX9_digestOfTools 129 = .ok (.goto (-62), 3) := by decide +kernel
theorem dX9_digestOfTools_132 : decode cX9_digestOfTools 132 = .ok (.iconst 0, 1) := by decide +kernel
theorem dX9_digestOfTools_133 : decode cX9_digestOfTools 133 = .ok (.istore 5, 2) := by decide +kernel
theorem dX9_digestOfTools_135 : decode cX9_digestOfTools 135 = .ok (.iload 5, 2) := by decide +kernel
theorem dX9_digestOfTools_137 : decode cX9_digestOfTools 137 = .ok (.aload_n 0, 1) := by decide +kernel
theorem dX9_digestOfTools_138 : decode cX9_digestOfTools 138 = .ok (.getfield 10, 3) := by decide +kernel
theorem dX9_digestOfTools_141 : decode cX9_digestOfTools 141 = .ok (.getfield 92, 3) := by decide +kernel
theorem dX9_digestOfTools_144 : decode cX9_digestOfTools 144 = .ok (.getfield 193, 3) := by decide +kernel
theorem dX9_digestOfTools_147 : decode cX9_digestOfTools 147 = .ok (.if_icmp .ge 46, 3) := by decide +kernel
theorem dX9_digestOfTools_150 : decode cX9_digestOfTools 150 = .ok (.iconst 0, 1) := by decide +kernel
theorem dX9_digestOfTools_151 : decode cX9_digestOfTools 151 = .ok (.istore 6, 2) := by decide +kernel
theorem dX9_digestOfTools_153 : decode cX9_digestOfTools 153 = .ok (.iload 6, 2) := by decide +kernel
theorem dX9_digestOfTools_155 : decode cX9_digestOfTools 155 = .ok (.iconst 5, 1) := by decide +kernel
theorem dX9_digestOfTools_156 : decode cX9_digestOfTools 156 = .ok (.if_icmp .ge 31, 3) := by decide +kernel
theorem dX9_digestOfTools_159 : decode cX9_digestOfTools 159 = .ok (.lload_n 3, 1) := by decide +kernel
theorem dX9_digestOfTools_160 : decode cX9_digestOfTools 160 = .ok (.ldc2_w 180, 3) := by decide +kernel
theorem dX9_digestOfTools_163 : decode cX9_digestOfTools 163 = .ok (.lmul, 1) := by decide +kernel
theorem dX9_digestOfTools_164 : decode cX9_digestOfTools 164 = .ok (.aload_n 0, 1) := by decide +kernel
theorem dX9_digestOfTools_165 : decode cX9_digestOfTools 165 = .ok (.getfield 10, 3) := by decide +kernel
theorem dX9_digestOfTools_168 : decode cX9_digestOfTools 168 = .ok (.getfield 92, 3) := by decide +kernel
theorem dX9_digestOfTools_171 : decode cX9_digestOfTools 171 = .ok (.iload 5, 2) := by decide +kernel
theorem dX9_digestOfTools_173 : decode cX9_digestOfTools 173 = .ok (.iload 6, 2) := by decide +kernel
theorem dX9_digestOfTools_175 : decode cX9_digestOfTools 175 = .ok (.invokevirtual 137, 3) := by decide +kernel
theorem dX9_digestOfTools_178 : decode cX9_digestOfTools 178 = .ok (.i2l, 1) := by decide +kernel
theorem dX9_digestOfTools_179 : decode cX9_digestOfTools 179 = .ok (.ladd, 1) := by decide +kernel
theorem dX9_digestOfTools_180 : decode cX9_digestOfTools 180 = .ok (.lstore_n 3, 1) := by decide +kernel
theorem dX9_digestOfTools_181 : decode cX9_digestOfTools 181 = .ok (.iinc 6 1, 3) := by decide +kernel
theorem dX9_digestOfTools_184 : decode cX9_digestOfTools 184 = .ok (.goto (-31), 3) := by decide +kernel
theorem dX9_digestOfTools_187 : decode cX9_digestOfTools 187 = .ok (.iinc 5 1, 3) := by decide +kernel
theorem dX9_digestOfTools_190 : decode cX9_digestOfTools 190 = .ok (.goto (-55), 3) := by decide +kernel
theorem dX9_digestOfTools_193 : decode cX9_digestOfTools 193 = .ok (.lload_n 3, 1) := by decide +kernel
theorem dX9_digestOfTools_194 : decode cX9_digestOfTools 194 = .ok (.lreturn, 1) := by decide +kernel
theorem dX9_digestOfPeople_0 : decode cX9_digestOfPeople 0 = .ok (.lload_n 1, 1) := by decide +kernel
theorem dX9_digestOfPeople_1 : decode cX9_digestOfPeople 1 = .ok (.lstore_n 3, 1) := by decide +kernel
theorem dX9_digestOfPeople_2 : decode cX9_digestOfPeople 2 = .ok (.iconst 0, 1) := by decide +kernel
theorem dX9_digestOfPeople_3 : decode cX9_digestOfPeople 3 = .ok (.istore 5, 2) := by decide +kernel
theorem dX9_digestOfPeople_5 : decode cX9_digestOfPeople 5 = .ok (.iload 5, 2) := by decide +kernel
theorem dX9_digestOfPeople_7 : decode cX9_digestOfPeople 7 = .ok (.aload_n 0, 1) := by decide +kernel
theorem dX9_digestOfPeople_8 : decode cX9_digestOfPeople 8 = .ok (.getfield 10, 3) := by decide +kernel
theorem dX9_digestOfPeople_11 : decode cX9_digestOfPeople 11 = .ok (.getfield 102, 3) := by decide +kernel
theorem dX9_digestOfPeople_14 : decode cX9_digestOfPeople 14 = .ok (.getfield 194, 3) := by decide +kernel
theorem dX9_digestOfPeople_17 : decode cX9_digestOfPeople 17 = .ok (.if_icmp .ge 43, 3) := by decide +kernel
theorem dX9_digestOfPeople_20 : decode cX9_digestOfPeople 20 = .ok (.iconst 0, 1) := by decide +kernel
theorem dX9_digestOfPeople_21 : decode cX9_digestOfPeople 21 = .ok (.istore 6, 2) := by decide +kernel
theorem dX9_digestOfPeople_23 : decode cX9_digestOfPeople 23 = .ok (.iload 6, 2) := by decide +kernel
theorem dX9_digestOfPeople_25 : decode cX9_digestOfPeople 25 = .ok (.iconst 5, 1) := by decide +kernel
theorem dX9_digestOfPeople_26 : decode cX9_digestOfPeople 26 = .ok (.if_icmp .ge 28, 3) := by decide +kernel
theorem dX9_digestOfPeople_29 : decode cX9_digestOfPeople 29 = .ok (.lload_n 3, 1) := by decide +kernel
theorem dX9_digestOfPeople_30 : decode cX9_digestOfPeople 30 = .ok (.ldc2_w 180, 3) := by decide +kernel
theorem dX9_digestOfPeople_33 : decode cX9_digestOfPeople 33 = .ok (.lmul, 1) := by decide +kernel
theorem dX9_digestOfPeople_34 : decode cX9_digestOfPeople 34 = .ok (.aload_n 0, 1) := by decide +kernel
theorem dX9_digestOfPeople_35 : decode cX9_digestOfPeople 35 = .ok (.getfield 10, 3) := by decide +kernel
theorem dX9_digestOfPeople_38 : decode cX9_digestOfPeople 38 = .ok (.iload 5, 2) := by decide +kernel
theorem dX9_digestOfPeople_40 : decode cX9_digestOfPeople 40 = .ok (.iload 6, 2) := by decide +kernel
theorem dX9_digestOfPeople_42 : decode cX9_digestOfPeople 42 = .ok (.invokevirtual 139, 3) := by decide +kernel
theorem dX9_digestOfPeople_45 : decode cX9_digestOfPeople 45 = .ok (.i2l, 1) := by decide +kernel
theorem dX9_digestOfPeople_46 : decode cX9_digestOfPeople 46 = .ok (.ladd, 1) := by decide +kernel
theorem dX9_digestOfPeople_47 : decode cX9_digestOfPeople 47 = .ok (.lstore_n 3, 1) := by decide +kernel
theorem dX9_digestOfPeople_48 : decode cX9_digestOfPeople 48 = .ok (.iinc 6 1, 3) := by decide +kernel
theorem dX9_digestOfPeople_51 : decode cX9_digestOfPeople 51 = .ok (.goto (-28), 3) := by decide +kernel
theorem dX9_digestOfPeople_54 : decode cX9_digestOfPeople 54 = .ok (.iinc 5 1, 3) := by decide +kernel
theorem dX9_digestOfPeople_57 : decode cX9_digestOfPeople 57 = .ok (.goto (-52), 3) := by decide +kernel
theorem dX9_digestOfPeople_60 : decode cX9_digestOfPeople 60 = .ok (.iconst 0, 1) := by decide +kernel
theorem dX9_digestOfPeople_61 : decode cX9_digestOfPeople 61 = .ok (.istore 5, 2) := by decide +kernel
theorem dX9_digestOfPeople_63 : decode cX9_digestOfPeople 63 = .ok (.iload 5, 2) := by decide +kernel
theorem dX9_digestOfPeople_65 : decode cX9_digestOfPeople 65 = .ok (.aload_n 0, 1) := by decide +kernel
theorem dX9_digestOfPeople_66 : decode cX9_digestOfPeople 66 = .ok (.getfield 10, 3) := by decide +kernel
theorem dX9_digestOfPeople_69 : decode cX9_digestOfPeople 69 = .ok (.getfield 115, 3) := by decide +kernel
theorem dX9_digestOfPeople_72 : decode cX9_digestOfPeople 72 = .ok (.getfield 195, 3) := by decide +kernel
theorem dX9_digestOfPeople_75 : decode cX9_digestOfPeople 75 = .ok (.if_icmp .ge 46, 3) := by decide +kernel
theorem dX9_digestOfPeople_78 : decode cX9_digestOfPeople 78 = .ok (.iconst 0, 1) := by decide +kernel
theorem dX9_digestOfPeople_79 : decode cX9_digestOfPeople 79 = .ok (.istore 6, 2) := by decide +kernel
theorem dX9_digestOfPeople_81 : decode cX9_digestOfPeople 81 = .ok (.iload 6, 2) := by decide +kernel
theorem dX9_digestOfPeople_83 : decode cX9_digestOfPeople 83 = .ok (.iconst 3, 1) := by decide +kernel
theorem dX9_digestOfPeople_84 : decode cX9_digestOfPeople 84 = .ok (.if_icmp .ge 31, 3) := by decide +kernel
theorem dX9_digestOfPeople_87 : decode cX9_digestOfPeople 87 = .ok (.lload_n 3, 1) := by decide +kernel
theorem dX9_digestOfPeople_88 : decode cX9_digestOfPeople 88 = .ok (.ldc2_w 180, 3) := by decide +kernel
theorem dX9_digestOfPeople_91 : decode cX9_digestOfPeople 91 = .ok (.lmul, 1) := by decide +kernel
theorem dX9_digestOfPeople_92 : decode cX9_digestOfPeople 92 = .ok (.aload_n 0, 1) := by decide +kernel
theorem dX9_digestOfPeople_93 : decode cX9_digestOfPeople 93 = .ok (.getfield 10, 3) := by decide +kernel
theorem dX9_digestOfPeople_96 : decode cX9_digestOfPeople 96 = .ok (.getfield 115, 3) := by decide +kernel
theorem dX9_digestOfPeople_99 : decode cX9_digestOfPeople 99 = .ok (.iload 5, 2) := by decide +kernel
theorem dX9_digestOfPeople_101 : decode cX9_digestOfPeople 101 = .ok (.iload 6, 2) := by decide +kernel
theorem dX9_digestOfPeople_103 : decode cX9_digestOfPeople 103 = .ok (.invokevirtual 143, 3) := by decide +kernel
theorem dX9_digestOfPeople_106 : decode cX9_digestOfPeople 106 = .ok (.i2l, 1) := by decide +kernel
theorem dX9_digestOfPeople_107 : decode cX9_digestOfPeople 107 = .ok (.ladd, 1) := by decide +kernel
theorem dX9_digestOfPeople_108 : decode cX9_digestOfPeople 108 = .ok (.lstore_n 3, 1) := by decide +kernel
theorem dX9_digestOfPeople_109 : decode cX9_digestOfPeople 109 = .ok (.iinc 6 1, 3) := by decide +kernel
theorem dX9_digestOfPeople_112 : decode cX9_digestOfPeople 112 = .ok (.goto (-31), 3) := by decide +kernel
theorem dX9_digestOfPeople_115 : decode cX9_digestOfPeople 115 = .ok (.iinc 5 1, 3) := by decide +kernel
theorem dX9_digestOfPeople_118 : decode cX9_digestOfPeople 118 = .ok (.goto (-55), 3) := by decide +kernel
theorem dX9_digestOfPeople_121 : decode cX9_digestOfPeople 121 = .ok (.lload_n 3, 1) := by decide +kernel
theorem dX9_digestOfPeople_122 : decode cX9_digestOfPeople 122 = .ok (.lreturn, 1) := by decide +kernel
theorem dX9_waterBehind_0 : decode cX9_waterBehind 0 = .ok (.aload_n 0, 1) := by decide +kernel
theorem dX9_waterBehind_1 : decode cX9_waterBehind 1 = .ok (.getfield 16, 3) := by decide +kernel
theorem dX9_waterBehind_4 : decode cX9_waterBehind 4 = .ok (.aload_n 0, 1) := by decide +kernel
theorem dX9_waterBehind_5 : decode cX9_waterBehind 5 = .ok (.getfield 10, 3) := by decide +kernel
theorem dX9_waterBehind_8 : decode cX9_waterBehind 8 = .ok (.invokevirtual 155, 3) := by decide +kernel
theorem dX9_waterBehind_11 : decode cX9_waterBehind 11 = .ok (.iload_n 2, 1) := by decide +kernel
theorem dX9_waterBehind_12 : decode cX9_waterBehind 12 = .ok (.ifCond .lt 25, 3) := by decide +kernel
theorem dX9_waterBehind_15 : decode cX9_waterBehind 15 = .ok (.iload_n 2, 1) := by decide +kernel
theorem dX9_waterBehind_16 : decode cX9_waterBehind 16 = .ok (.bipush 80, 2) := by decide +kernel
theorem dX9_waterBehind_18 : decode cX9_waterBehind 18 = .ok (.if_icmp .ge 19, 3) := by decide +kernel
theorem dX9_waterBehind_21 : decode cX9_waterBehind 21 = .ok (.aload_n 0, 1) := by decide +kernel
theorem dX9_waterBehind_22 : decode cX9_waterBehind 22 = .ok (.getfield 16, 3) := by decide +kernel
theorem dX9_waterBehind_25 : decode cX9_waterBehind 25 = .ok (.getfield 35, 3) := by decide +kernel
theorem dX9_waterBehind_28 : decode cX9_waterBehind 28 = .ok (.getfield 49, 3) := by decide +kernel
theorem dX9_waterBehind_31 : decode cX9_waterBehind 31 = .ok (.iload_n 2, 1) := by decide +kernel
theorem dX9_waterBehind_32 : decode cX9_waterBehind 32 = .ok (.dup2, 1) := by decide +kernel
theorem dX9_waterBehind_33 : decode cX9_waterBehind 33 = .ok (.iaload, 1) := by decide +kernel
theorem dX9_waterBehind_34 : decode cX9_waterBehind 34 = .ok (.iconst 1, 1) := by decide +kernel
theorem dX9_waterBehind_35 : decode cX9_waterBehind 35 = .ok (.iadd, 1) := by decide +kernel
theorem dX9_waterBehind_36 : decode cX9_waterBehind 36 = .ok (.iastore, 1) := by decide +kernel
theorem dX9_waterBehind_37 : decode cX9_waterBehind 37 = .ok (.iconst 0, 1) := by decide +kernel
theorem dX9_waterBehind_38 : decode cX9_waterBehind 38 = .ok (.istore_n 3, 1) := by decide +kernel
theorem dX9_waterBehind_39 : decode cX9_waterBehind 39 = .ok (.iload_n 3, 1) := by decide +kernel
theorem dX9_waterBehind_40 : decode cX9_waterBehind 40 = .ok (.iload_n 1, 1) := by decide +kernel
theorem dX9_waterBehind_41 : decode cX9_waterBehind 41 = .ok (.if_icmp .ge 16, 3) := by decide +kernel
theorem dX9_waterBehind_44 : decode cX9_waterBehind 44 = .ok (.aload_n 0, 1) := by decide +kernel
theorem dX9_waterBehind_45 : decode cX9_waterBehind 45 = .ok (.getfield 16, 3) := by decide +kernel
theorem dX9_waterBehind_48 : decode cX9_waterBehind 48 = .ok (.invokevirtual 172, 3) := by decide +kernel
theorem dX9_waterBehind_51 : decode cX9_waterBehind 51 = .ok (.iinc 3 1, 3) := by decide +kernel
theorem dX9_waterBehind_54 : decode cX9_waterBehind 54 = .ok (.goto (-15), 3) := by decide +kernel
theorem dX9_waterBehind_57 : decode cX9_waterBehind 57 = .ok (.aload_n 0, 1) := by decide +kernel
theorem dX9_waterBehind_58 : decode cX9_waterBehind 58 = .ok (.getfield 16, 3) := by decide +kernel
theorem dX9_waterBehind_61 : decode cX9_waterBehind 61 = .ok (.getfield 35, 3) := by decide +kernel
theorem dX9_waterBehind_64 : decode cX9_waterBehind 64 = .ok (.invokevirtual 196, 3) := by decide +kernel
theorem dX9_waterBehind_67 : decode cX9_waterBehind 67 = .ok (.ireturn, 1) := by decide +kernel
theorem dX9_placeOf_0 : decode cX9_placeOf 0 = .ok (.bipush 10, 2) := by decide +kernel
theorem dX9_placeOf_2 : decode cX9_placeOf 2 = .ok (.iload_n 1, 1) := by decide +kernel
theorem dX9_placeOf_3 : decode cX9_placeOf 3 = .ok (.imul, 1) := by decide +kernel
theorem dX9_placeOf_4 : decode cX9_placeOf 4 = .ok (.iload_n 0, 1) := by decide +kernel
theorem dX9_placeOf_5 : decode cX9_placeOf 5 = .ok (.iadd, 1) := by decide +kernel
theorem dX9_placeOf_6 : decode cX9_placeOf 6 = .ok (.ireturn, 1) := by decide +kernel
theorem dX9_isWithin_0 : decode cX9_isWithin 0 = .ok (.iload_n 0, 1) := by decide +kernel
theorem dX9_isWithin_1 : decode cX9_isWithin 1 = .ok (.iload_n 1, 1) := by decide +kernel
theorem dX9_isWithin_2 : decode cX9_isWithin 2 = .ok (.if_icmp .lt 12, 3) := by decide +kernel
theorem dX9_isWithin_5 : decode cX9_isWithin 5 = .ok (.iload_n 0, 1) := by decide +kernel
theorem dX9_isWithin_6 : decode cX9_isWithin 6 = .ok (.iload_n 2, 1) := by decide +kernel
theorem dX9_isWithin_7 : decode cX9_isWithin 7 = .ok (.if_icmp .gt 7, 3) := by decide +kernel
theorem dX9_isWithin_10 : decode cX9_isWithin 10 = .ok (.iconst 1, 1) := by decide +kernel
theorem dX9_isWithin_11 : decode cX9_isWithin 11 = .ok (.goto 4, 3) := by decide +kernel
theorem dX9_isWithin_14 : decode cX9_isWithin 14 = .ok (.iconst 0, 1) := by decide +kernel
theorem dX9_isWithin_15 : decode cX9_isWithin 15 = .ok (.ireturn, 1) := by decide +kernel
theorem dX9_checkCell_0 : decode cX9_checkCell 0 = .ok (.iload_n 0, 1) := by decide +kernel
theorem dX9_checkCell_1 : decode cX9_checkCell 1 = .ok (.iconst 0, 1) := by decide +kernel
theorem dX9_checkCell_2 : decode cX9_checkCell 2 = .ok (.bipush 9, 2) := by decide +kernel
theorem dX9_checkCell_4 : decode cX9_checkCell 4 = .ok (.invokestatic 23, 3) := by decide +kernel
theorem dX9_checkCell_7 : decode cX9_checkCell 7 = .ok (.ifCond .eq 17, 3) := by decide +kernel
theorem dX9_checkCell_10 : decode cX9_checkCell 10 = .ok (.iload_n 1, 1) := by decide +kernel
theorem dX9_checkCell_11 : decode cX9_checkCell 11 = .ok (.iconst 0, 1) := by decide +kernel
theorem dX9_checkCell_12 : decode cX9_checkCell 12 = .ok (.bipush 7, 2) := by decide +kernel
theorem dX9_checkCell_14 : decode cX9_checkCell 14 = .ok (.invokestatic 23, 3) := by decide +kernel
theorem dX9_checkCell_17 : decode cX9_checkCell 17 = .ok (.ifCond .eq 7, 3) := by decide +kernel
theorem dX9_checkCell_20 : decode cX9_checkCell 20 = .ok (.iconst 1, 1) := by decide +kernel
theorem dX9_checkCell_21 : decode cX9_checkCell 21 = .ok (.goto 4, 3) := by decide +kernel
theorem dX9_checkCell_24 : decode cX9_checkCell 24 = .ok (.iconst 0, 1) := by decide +kernel
theorem dX9_checkCell_25 : decode cX9_checkCell 25 = .ok (.invokestatic 55, 3) := by decide +kernel
theorem dX9_checkCell_28 : decode cX9_checkCell 28 = .ok (.return_, 1) := by decide +kernel
theorem dX9_checkIndex_0 : decode cX9_checkIndex 0 = .ok (.iload_n 0, 1) := by decide +kernel
theorem dX9_checkIndex_1 : decode cX9_checkIndex 1 = .ok (.ifCond .ne 13, 3) := by decide +kernel
theorem dX9_checkIndex_4 : decode cX9_checkIndex 4 = .ok (.new 199, 3) := by decide +kernel
theorem dX9_checkIndex_7 : decode cX9_checkIndex 7 = .ok (.dup, 1) := by decide +kernel
theorem dX9_checkIndex_8 : decode cX9_checkIndex 8 = .ok (.ldc 201, 2) := by decide +kernel
theorem dX9_checkIndex_10 : decode cX9_checkIndex 10 = .ok (.invokespecial 203, 3) := by decide +kernel
theorem dX9_checkIndex_13 : decode cX9_checkIndex 13 = .ok (.athrow, 1) := by decide +kernel
theorem dX9_checkIndex_14 : decode cX9_checkIndex 14 = .ok (.return_, 1) := by decide +kernel
theorem dX9_checkArgument_0 : decode cX9_checkArgument 0 = .ok (.iload_n 0, 1) := by decide +kernel
theorem dX9_checkArgument_1 : decode cX9_checkArgument 1 = .ok (.ifCond .ne 13, 3) := by decide +kernel
theorem dX9_checkArgument_4 : decode cX9_checkArgument 4 = .ok (.new 206, 3) := by decide +kernel
theorem dX9_checkArgument_7 : decode cX9_checkArgument 7 = .ok (.dup, 1) := by decide +kernel
theorem dX9_checkArgument_8 : decode cX9_checkArgument 8 = .ok (.ldc 208, 2) := by decide +kernel
theorem dX9_checkArgument_10 : decode cX9_checkArgument 10 = .ok (.invokespecial 210, 3) := by decide +kernel
theorem dX9_checkArgument_13 : decode cX9_checkArgument 13 = .ok (.athrow, 1) := by decide +kernel
theorem dX9_checkArgument_14 : decode cX9_checkArgument 14 = .ok (.return_, 1) := by decide +kernel
theorem dX9_checkState_0 : decode cX9_checkState 0 = .ok (.iload_n 0, 1) := by decide +kernel
theorem dX9_checkState_1 : decode cX9_checkState 1 = .ok (.ifCond .ne 13, 3) := by decide +kernel
theorem dX9_checkState_4 : decode cX9_checkState 4 = .ok (.new 211, 3) := by decide +kernel
theorem dX9_checkState_7 : decode cX9_checkState 7 = .ok (.dup, 1) := by decide +kernel
theorem dX9_checkState_8 : decode cX9_checkState 8 = .ok (.ldc 213, 2) := by decide +kernel
theorem dX9_checkState_10 : decode cX9_checkState 10 = .ok (.invokespecial 215, 3) := by decide +kernel
theorem dX9_checkState_13 : decode cX9_checkState 13 = .ok (.athrow, 1) := by decide +kernel
theorem dX9_checkState_14 : decode cX9_checkState 14 = .ok (.return_, 1) := by decide +kernel
theorem dX10_init_0 : decode cX10_init 0 = .ok (.aload_n 0, 1) := by decide +kernel
theorem dX10_init_1 : decode cX10_init 1 = .ok (.invokespecial 3, 3) := by decide +kernel
theorem dX10_init_4 : decode cX10_init 4 = .ok (.aload_n 0, 1) := by decide +kernel
theorem dX10_init_5 : decode cX10_init 5 = .ok (.bipush 80, 2) := by decide +kernel
theorem dX10_init_7 : decode cX10_init 7 = .ok (.newarray .int, 2) := by decide +kernel
theorem dX10_init_9 : decode cX10_init 9 = .ok (.putfield 9, 3) := by decide +kernel
theorem dX10_init_12 : decode cX10_init 12 = .ok (.aload_n 0, 1) := by decide +kernel
theorem dX10_init_13 : decode cX10_init 13 = .ok (.bipush 80, 2) := by decide +kernel
theorem dX10_init_15 : decode cX10_init 15 = .ok (.newarray .int, 2) := by decide +kernel
theorem dX10_init_17 : decode cX10_init 17 = .ok (.putfield 15, 3) := by decide +kernel
theorem dX10_init_20 : decode cX10_init 20 = .ok (.aload_n 0, 1) := by decide +kernel
theorem dX10_init_21 : decode cX10_init 21 = .ok (.bipush 80, 2) := by decide +kernel
theorem dX10_init_23 : decode cX10_init 23 = .ok (.newarray .int, 2) := by decide +kernel
theorem dX10_init_25 : decode cX10_init 25 = .ok (.putfield 18, 3) := by decide +kernel
theorem dX10_init_28 : decode cX10_init 28 = .ok (.aload_n 0, 1) := by decide +kernel
theorem dX10_init_29 : decode cX10_init 29 = .ok (.bipush 25, 2) := by decide +kernel
theorem dX10_init_31 : decode cX10_init 31 = .ok (.newarray .int, 2) := by decide +kernel
theorem dX10_init_33 : decode cX10_init 33 = .ok (.putfield 21, 3) := by decide +kernel
theorem dX10_init_36 : decode cX10_init 36 = .ok (.aload_n 0, 1) := by decide +kernel
theorem dX10_init_37 : decode cX10_init 37 = .ok (.bipush 8, 2) := by decide +kernel
theorem dX10_init_39 : decode cX10_init 39 = .ok (.newarray .int, 2) := by decide +kernel
theorem dX10_init_41 : decode cX10_init 41 = .ok (.putfield 24, 3) := by decide +kernel
theorem dX10_init_44 : decode cX10_init 44 = .ok (.aload_n 0, 1) := by decide +kernel
theorem dX10_init_45 : decode cX10_init 45 = .ok (.bipush 8, 2) := by decide +kernel
theorem dX10_init_47 : decode cX10_init 47 = .ok (.newarray .int, 2) := by decide +kernel
theorem dX10_init_49 : decode cX10_init 49 = .ok (.putfield 27, 3) := by decide +kernel
theorem dX10_init_52 : decode cX10_init 52 = .ok (.aload_n 0, 1) := by decide +kernel
theorem dX10_init_53 : decode cX10_init 53 = .ok (.bipush 40, 2) := by decide +kernel
theorem dX10_init_55 : decode cX10_init 55 = .ok (.newarray .int, 2) := by decide +kernel
theorem dX10_init_57 : decode cX10_init 57 = .ok (.putfield 30, 3) := by decide +kernel
theorem dX10_init_60 : decode cX10_init 60 = .ok (.aload_n 0, 1) := by decide +kernel
theorem dX10_init_61 : decode cX10_init 61 = .ok (.bipush 6, 2) := by decide +kernel
theorem dX10_init_63 : decode cX10_init 63 = .ok (.newarray .int, 2) := by decide +kernel
theorem dX10_init_65 : decode cX10_init 65 = .ok (.putfield 33, 3) := by decide +kernel
theorem dX10_init_68 : decode cX10_init 68 = .ok (.return_, 1) := by decide +kernel
theorem dX10_copy_0 : decode cX10_copy 0 = .ok (.aload_n 0, 1) := by decide +kernel
theorem dX10_copy_1 : decode cX10_copy 1 = .ok (.iconst 0, 1) := by decide +kernel
theorem dX10_copy_2 : decode cX10_copy 2 = .ok (.aload_n 1, 1) := by decide +kernel
theorem dX10_copy_3 : decode cX10_copy 3 = .ok (.iconst 0, 1) := by decide +kernel
theorem dX10_copy_4 : decode cX10_copy 4 = .ok (.aload_n 0, 1) := by decide +kernel
theorem dX10_copy_5 : decode cX10_copy 5 = .ok (.arraylength, 1) := by decide +kernel
theorem dX10_copy_6 : decode cX10_copy 6 = .ok (.invokestatic 36, 3) := by decide +kernel
theorem dX10_copy_9 : decode cX10_copy 9 = .ok (.return_, 1) := by decide +kernel
theorem dX10_become_0 : decode cX10_become 0 = .ok (.aload_n 0, 1) := by decide +kernel
theorem dX10_become_1 : decode cX10_become 1 = .ok (.aload_n 1, 1) := by decide +kernel
theorem dX10_become_2 : decode cX10_become 2 = .ok (.getfield 42, 3) := by decide +kernel
theorem dX10_become_5 : decode cX10_become 5 = .ok (.putfield 42, 3) := by decide +kernel
theorem dX10_become_8 : decode cX10_become 8 = .ok (.aload_n 0, 1) := by decide +kernel
theorem dX10_become_9 : decode cX10_become 9 = .ok (.aload_n 1, 1) := by decide +kernel
theorem dX10_become_10 : decode cX10_become 10 = .ok (.getfield 46, 3) := by decide +kernel
theorem dX10_become_13 : decode cX10_become 13 = .ok (.putfield 46, 3) := by decide +kernel
theorem dX10_become_16 : decode cX10_become 16 = .ok (.aload_n 1, 1) := by decide +kernel
theorem dX10_become_17 : decode cX10_become 17 = .ok (.getfield 9, 3) := by decide +kernel
theorem dX10_become_20 : decode cX10_become 20 = .ok (.aload_n 0, 1) := by decide +kernel
theorem dX10_become_21 : decode cX10_become 21 = .ok (.getfield 9, 3) := by decide +kernel
theorem dX10_become_24 : decode cX10_become 24 = .ok (.invokestatic 49, 3) := by decide +kernel
theorem dX10_become_27 : decode cX10_become 27 = .ok (.aload_n 1, 1) := by decide +kernel
theorem dX10_become_28 : decode cX10_become 28 = .ok (.getfield 15, 3) := by decide +kernel
theorem dX10_become_31 : decode cX10_become 31 = .ok (.aload_n 0, 1) := by decide +kernel
theorem dX10_become_32 : decode cX10_become 32 = .ok (.getfield 15, 3) := by decide +kernel
theorem dX10_become_35 : decode cX10_become 35 = .ok (.invokestatic 49, 3) := by decide +kernel
theorem dX10_become_38 : decode cX10_become 38 = .ok (.aload_n 1, 1) := by decide +kernel
theorem dX10_become_39 : decode cX10_become 39 = .ok (.getfield 18, 3) := by decide +kernel
theorem dX10_become_42 : decode cX10_become 42 = .ok (.aload_n 0, 1) := by decide +kernel
theorem dX10_become_43 : decode cX10_become 43 = .ok (.getfield 18, 3) := by decide +kernel
theorem dX10_become_46 : decode cX10_become 46 = .ok (.invokestatic 49, 3) := by decide +kernel
theorem dX10_become_49 : decode cX10_become 49 = .ok (.aload_n 1, 1) := by decide +kernel
theorem dX10_become_50 : decode cX10_become 50 = .ok (.getfield 21, 3) := by decide +kernel
theorem dX10_become_53 : decode cX10_become 53 = .ok (.aload_n 0, 1) := by decide +kernel
theorem dX10_become_54 : decode cX10_become 54 = .ok (.getfield 21, 3) := by decide +kernel
theorem dX10_become_57 : decode cX10_become 57 = .ok (.invokestatic 49, 3) := by decide +kernel
theorem dX10_become_60 : decode cX10_become 60 = .ok (.aload_n 1, 1) := by decide +kernel
theorem dX10_become_61 : decode cX10_become 61 = .ok (.getfield 24, 3) := by decide +kernel
theorem dX10_become_64 : decode cX10_become 64 = .ok (.aload_n 0, 1) := by decide +kernel
theorem dX10_become_65 : decode cX10_become 65 = .ok (.getfield 24, 3) := by decide +kernel
theorem dX10_become_68 : decode cX10_become 68 = .ok (.invokestatic 49, 3) := by decide +kernel
theorem dX10_become_71 : decode cX10_become 71 = .ok (.aload_n 1, 1) := by decide +kernel
theorem dX10_become_72 : decode cX10_become 72 = .ok (.getfield 27, 3) := by decide +kernel
theorem dX10_become_75 : decode cX10_become 75 = .ok (.aload_n 0, 1) := by decide +kernel
theorem dX10_become_76 : decode cX10_become 76 = .ok (.getfield 27, 3) := by decide +kernel
theorem dX10_become_79 : decode cX10_become 79 = .ok (.invokestatic 49, 3) := by decide +kernel
theorem dX10_become_82 : decode cX10_become 82 = .ok (.aload_n 1, 1) := by decide +kernel
theorem dX10_become_83 : decode cX10_become 83 = .ok (.getfield 30, 3) := by decide +kernel
theorem dX10_become_86 : decode cX10_become 86 = .ok (.aload_n 0, 1) := by decide +kernel
theorem dX10_become_87 : decode cX10_become 87 = .ok (.getfield 30, 3) := by decide +kernel
theorem dX10_become_90 : decode cX10_become 90 = .ok (.invokestatic 49, 3) := by decide +kernel
theorem dX10_become_93 : decode cX10_become 93 = .ok (.aload_n 1, 1) := by decide +kernel
theorem dX10_become_94 : decode cX10_become 94 = .ok (.getfield 33, 3) := by decide +kernel
theorem dX10_become_97 : decode cX10_become 97 = .ok (.aload_n 0, 1) := by decide +kernel
theorem dX10_become_98 : decode cX10_become 98 = .ok (.getfield 33, 3) := by decide +kernel
theorem dX10_become_101 : decode cX10_become 101 = .ok (.invokestatic 49, 3) := by decide +kernel
theorem dX10_become_104 : decode cX10_become 104 = .ok (.return_, 1) := by decide +kernel
theorem dX10_canBeWalked_0 : decode cX10_canBeWalked 0 = .ok (.iload_n 1, 1) := by decide +kernel
theorem dX10_canBeWalked_1 : decode cX10_canBeWalked 1 = .ok (.iconst (-1), 1) := by decide +kernel
theorem dX10_canBeWalked_2 : decode cX10_canBeWalked 2 = .ok (.if_icmp .eq 17, 3) := by decide +kernel
theorem dX10_canBeWalked_5 : decode cX10_canBeWalked 5 = .ok (.aload_n 0, 1) := by decide +kernel
theorem dX10_canBeWalked_6 : decode cX10_canBeWalked 6 = .ok (.getfield 18, 3) := by decide +kernel
theorem dX10_canBeWalked_9 : decode cX10_canBeWalked 9 = .ok (.iload_n 1, 1) := by decide +kernel
theorem dX10_canBeWalked_10 : decode cX10_canBeWalked 10 = .ok (.iaload, 1) := by decide +kernel
theorem dX10_canBeWalked_11 : decode cX10_canBeWalked 11 = .ok (.iconst 3, 1) := by decide +kernel
theorem dX10_canBeWalked_12 : decode cX10_canBeWalked 12 = .ok (.if_icmp .ge 7, 3) := by decide +kernel
theorem dX10_canBeWalked_15 : decode cX10_canBeWalked 15 = .ok (.iconst 1, 1) := by decide +kernel
theorem dX10_canBeWalked_16 : decode cX10_canBeWalked 16 = .ok (.goto 4, 3) := by decide +kernel
theorem dX10_canBeWalked_19 : decode cX10_canBeWalked 19 = .ok (.iconst 0, 1) := by decide +kernel
theorem dX10_canBeWalked_20 : decode cX10_canBeWalked 20 = .ok (.ireturn, 1) := by decide +kernel
theorem dX10_levelOf_0 : decode cX10_levelOf 0 = .ok (.aload_n 0, 1) := by decide +kernel
theorem dX10_levelOf_1 : decode cX10_levelOf 1 = .ok (.getfield 9, 3) := by decide +kernel
theorem dX10_levelOf_4 : decode cX10_levelOf 4 = .ok (.iload_n 1, 1) := by decide +kernel
theorem dX10_levelOf_5 : decode cX10_levelOf 5 = .ok (.iaload, 1) := by decide +kernel
theorem dX10_levelOf_6 : decode cX10_levelOf 6 = .ok (.aload_n 0, 1) := by decide +kernel
theorem dX10_levelOf_7 : decode cX10_levelOf 7 = .ok (.getfield 15, 3) := by decide +kernel
theorem dX10_levelOf_10 : decode cX10_levelOf 10 = .ok (.iload_n 1, 1) := by decide +kernel
theorem dX10_levelOf_11 : decode cX10_levelOf 11 = .ok (.iaload, 1) := by decide +kernel
theorem dX10_levelOf_12 : decode cX10_levelOf 12 = .ok (.iadd, 1) := by decide +kernel
theorem dX10_levelOf_13 : decode cX10_levelOf 13 = .ok (.aload_n 0, 1) := by decide +kernel
theorem dX10_levelOf_14 : decode cX10_levelOf 14 = .ok (.getfield 18, 3) := by decide +kernel
theorem dX10_levelOf_17 : decode cX10_levelOf 17 = .ok (.iload_n 1, 1) := by decide +kernel
theorem dX10_levelOf_18 : decode cX10_levelOf 18 = .ok (.iaload, 1) := by decide +kernel
theorem dX10_levelOf_19 : decode cX10_levelOf 19 = .ok (.iadd, 1) := by decide +kernel
theorem dX10_levelOf_20 : decode cX10_levelOf 20 = .ok (.ireturn, 1) := by decide +kernel
theorem dX11_init_0 : decode cX11_init 0 = .ok (.aload_n 0, 1) := by decide +kernel
theorem dX11_init_1 : decode cX11_init 1 = .ok (.invokespecial 1, 3) := by decide +kernel
theorem dX11_init_4 : decode cX11_init 4 = .ok (.aload_n 0, 1) := by decide +kernel
theorem dX11_init_5 : decode cX11_init 5 = .ok (.bipush 12, 2) := by decide +kernel
theorem dX11_init_7 : decode cX11_init 7 = .ok (.newarray .int, 2) := by decide +kernel
theorem dX11_init_9 : decode cX11_init 9 = .ok (.putfield 9, 3) := by decide +kernel
theorem dX11_init_12 : decode cX11_init 12 = .ok (.aload_n 0, 1) := by decide +kernel
theorem dX11_init_13 : decode cX11_init 13 = .ok (.bipush 80, 2) := by decide +kernel
theorem dX11_init_15 : decode cX11_init 15 = .ok (.newarray .int, 2) := by decide +kernel
theorem dX11_init_17 : decode cX11_init 17 = .ok (.putfield 13, 3) := by decide +kernel
theorem dX11_init_20 : decode cX11_init 20 = .ok (.aload_n 0, 1) := by decide +kernel
theorem dX11_init_21 : decode cX11_init 21 = .ok (.bipush 80, 2) := by decide +kernel
theorem dX11_init_23 : decode cX11_init 23 = .ok (.newarray .int, 2) := by decide +kernel
theorem dX11_init_25 : decode cX11_init 25 = .ok (.putfield 16, 3) := by decide +kernel
theorem dX11_init_28 : decode cX11_init 28 = .ok (.aload_n 0, 1) := by decide +kernel
theorem dX11_init_29 : decode cX11_init 29 = .ok (.bipush 80, 2) := by decide +kernel
theorem dX11_init_31 : decode cX11_init 31 = .ok (.newarray .int, 2) := by decide +kernel
theorem dX11_init_33 : decode cX11_init 33 = .ok (.putfield 19, 3) := by decide +kernel
theorem dX11_init_36 : decode cX11_init 36 = .ok (.aload_n 0, 1) := by decide +kernel
theorem dX11_init_37 : decode cX11_init 37 = .ok (.bipush 80, 2) := by decide +kernel
theorem dX11_init_39 : decode cX11_init 39 = .ok (.newarray .int, 2) := by decide +kernel
theorem dX11_init_41 : decode cX11_init 41 = .ok (.putfield 22, 3) := by decide +kernel
theorem dX11_init_44 : decode cX11_init 44 = .ok (.aload_n 0, 1) := by decide +kernel
theorem dX11_init_45 : decode cX11_init 45 = .ok (.new 25, 3) := by decide +kernel
theorem dX11_init_48 : decode cX11_init 48 = .ok (.dup, 1) := by decide +kernel
theorem dX11_init_49 : decode cX11_init 49 = .ok (.invokespecial 27, 3) := by decide +kernel
theorem dX11_init_52 : decode cX11_init 52 = .ok (.putfield 28, 3) := by decide +kernel
theorem dX11_init_55 : decode cX11_init 55 = .ok (.aload_n 0, 1) := by decide +kernel
theorem dX11_init_56 : decode cX11_init 56 = .ok (.new 25, 3) := by decide +kernel
theorem dX11_init_59 : decode cX11_init 59 = .ok (.dup, 1) := by decide +kernel
theorem dX11_init_60 : decode cX11_init 60 = .ok (.invokespecial 27, 3) := by decide +kernel
theorem dX11_init_63 : decode cX11_init 63 = .ok (.putfield 32, 3) := by decide +kernel
theorem dX11_init_66 : decode cX11_init 66 = .ok (.iconst 0, 1) := by decide +kernel
theorem dX11_init_67 : decode cX11_init 67 = .ok (.istore_n 1, 1) := by decide +kernel
theorem dX11_init_68 : decode cX11_init 68 = .ok (.iload_n 1, 1) := by decide +kernel
theorem dX11_init_69 : decode cX11_init 69 = .ok (.bipush 80, 2) := by decide +kernel
theorem dX11_init_71 : decode cX11_init 71 = .ok (.if_icmp .ge 19, 3) := by decide +kernel
theorem dX11_init_74 : decode cX11_init 74 = .ok (.aload_n 0, 1) := by decide +kernel
theorem dX11_init_75 : decode cX11_init 75 = .ok (.getfield 28, 3) := by decide +kernel
theorem dX11_init_78 : decode cX11_init 78 = .ok (.getfield 35, 3) := by decide +kernel
theorem dX11_init_81 : decode cX11_init 81 = .ok (.iload_n 1, 1) := by decide +kernel
theorem dX11_init_82 : decode cX11_init 82 = .ok (.iconst 2, 1) := by decide +kernel
theorem dX11_init_83 : decode cX11_init 83 = .ok (.iastore, 1) := by decide +kernel
theorem dX11_init_84 : decode cX11_init 84 = .ok (.iinc 1 1, 3) := by decide +kernel
theorem dX11_init_87 : decode cX11_init 87 = .ok (.goto (-19), 3) := by decide +kernel
theorem dX11_init_90 : decode cX11_init 90 = .ok (.return_, 1) := by decide +kernel
theorem dX11_thrown_0 : decode cX11_thrown 0 = .ok (.aload_n 0, 1) := by decide +kernel
theorem dX11_thrown_1 : decode cX11_thrown 1 = .ok (.getfield 38, 3) := by decide +kernel
theorem dX11_thrown_4 : decode cX11_thrown 4 = .ok (.ireturn, 1) := by decide +kernel
theorem dX11_no_0 : decode cX11_no 0 = .ok (.aload_n 0, 1) := by decide +kernel
theorem dX11_no_1 : decode cX11_no 1 = .ok (.iload_n 1, 1) := by decide +kernel
theorem dX11_no_2 : decode cX11_no 2 = .ok (.putfield 38, 3) := by decide +kernel
theorem dX11_no_5 : decode cX11_no 5 = .ok (.iconst 0, 1) := by decide +kernel
theorem dX11_no_6 : decode cX11_no 6 = .ok (.ireturn, 1) := by decide +kernel
theorem dX11_isIn_0 : decode cX11_isIn 0 = .ok (.iload_n 0, 1) := by decide +kernel
theorem dX11_isIn_1 : decode cX11_isIn 1 = .ok (.iload_n 1, 1) := by decide +kernel
theorem dX11_isIn_2 : decode cX11_isIn 2 = .ok (.if_icmp .lt 12, 3) := by decide +kernel
theorem dX11_isIn_5 : decode cX11_isIn 5 = .ok (.iload_n 0, 1) := by decide +kernel
theorem dX11_isIn_6 : decode cX11_isIn 6 = .ok (.iload_n 2, 1) := by decide +kernel
theorem dX11_isIn_7 : decode cX11_isIn 7 = .ok (.if_icmp .gt 7, 3) := by decide +kernel
theorem dX11_isIn_10 : decode cX11_isIn 10 = .ok (.iconst 1, 1) := by decide +kernel
theorem dX11_isIn_11 : decode cX11_isIn 11 = .ok (.goto 4, 3) := by decide +kernel
theorem dX11_isIn_14 : decode cX11_isIn 14 = .ok (.iconst 0, 1) := by decide +kernel
theorem dX11_isIn_15 : decode cX11_isIn 15 = .ok (.ireturn, 1) := by decide +kernel
theorem dX11_isCell_0 : decode cX11_isCell 0 = .ok (.iload_n 0, 1) := by decide +kernel
theorem dX11_isCell_1 : decode cX11_isCell 1 = .ok (.iconst 0, 1) := by decide +kernel
theorem dX11_isCell_2 : decode cX11_isCell 2 = .ok (.bipush 9, 2) := by decide +kernel
theorem dX11_isCell_4 : decode cX11_isCell 4 = .ok (.invokestatic 42, 3) := by decide +kernel
theorem dX11_isCell_7 : decode cX11_isCell 7 = .ok (.ifCond .eq 17, 3) := by decide +kernel
theorem dX11_isCell_10 : decode cX11_isCell 10 = .ok (.iload_n 1, 1) := by decide +kernel
theorem dX11_isCell_11 : decode cX11_isCell 11 = .ok (.iconst 0, 1) := by decide +kernel
theorem dX11_isCell_12 : decode cX11_isCell 12 = .ok (.bipush 7, 2) := by decide +kernel
theorem dX11_isCell_14 : decode cX11_isCell 14 = .ok (.invokestatic 42, 3) := by decide +kernel
theorem dX11_isCell_17 : decode cX11_isCell 17 = .ok (.ifCond .eq 7, 3) := by decide +kernel
theorem dX11_isCell_20 : decode cX11_isCell 20 = .ok (.iconst 1, 1) := by decide +kernel
theorem dX11_isCell_21 : decode cX11_isCell 21 = .ok (.goto 4, 3) := by decide +kernel
theorem dX11_isCell_24 : decode cX11_isCell 24 = .ok (.iconst 0, 1) := by decide +kernel
theorem dX11_isCell_25 : decode cX11_isCell 25 = .ok (.ireturn, 1) := by decide +kernel
theorem dX11_beside_0 : decode cX11_beside 0 = .ok (.iload_n 0, 1) := by decide +kernel
theorem dX11_beside_1 : decode cX11_beside 1 = .ok (.bipush 10, 2) := by decide +kernel
theorem dX11_beside_3 : decode cX11_beside 3 = .ok (.irem, 1) := by decide +kernel
theorem dX11_beside_4 : decode cX11_beside 4 = .ok (.iload_n 1, 1) := by decide +kernel
theorem dX11_beside_5 : decode cX11_beside 5 = .ok (.iconst 1, 1) := by decide +kernel
theorem dX11_beside_6 : decode cX11_beside 6 = .ok (.if_icmp .ne 7, 3) := by decide +kernel
theorem dX11_beside_9 : decode cX11_beside 9 = .ok (.iconst 1, 1) := by decide +kernel
theorem dX11_beside_10 : decode cX11_beside 10 = .ok (.goto 13, 3) := by decide +kernel
theorem dX11_beside_13 : decode cX11_beside 13 = .ok (.iload_n 1, 1) := by decide +kernel
theorem dX11_beside_14 : decode cX11_beside 14 = .ok (.iconst 3, 1) := by decide +kernel
theorem dX11_beside_15 : decode cX11_beside 15 = .ok (.if_icmp .ne 7, 3) := by decide +kernel
theorem dX11_beside_18 : decode cX11_beside 18 = .ok (.iconst (-1), 1) := by decide +kernel
theorem dX11_beside_19 : decode cX11_beside 19 = .ok (.goto 4, 3) := by decide +kernel
theorem dX11_beside_22 : decode cX11_beside 22 = .ok (.iconst 0, 1) := by decide +kernel
theorem dX11_beside_23 : decode cX11_beside 23 = .ok (.iadd, 1) := by decide +kernel
theorem dX11_beside_24 : decode cX11_beside 24 = .ok (.istore_n 2, 1) := by decide +kernel
theorem dX11_beside_25 : decode cX11_beside 25 = .ok (.iload_n 0, 1) := by decide +kernel
theorem dX11_beside_26 : decode cX11_beside 26 = .ok (.bipush 10, 2) := by decide +kernel
theorem dX11_beside_28 : decode cX11_beside 28 = .ok (.idiv, 1) := by decide +kernel
theorem dX11_beside_29 : decode cX11_beside 29 = .ok (.iload_n 1, 1) := by decide +kernel
theorem dX11_beside_30 : decode cX11_beside 30 = .ok (.iconst 2, 1) := by decide +kernel
theorem dX11_beside_31 : decode cX11_beside 31 = .ok (.if_icmp .ne 7, 3) := by decide +kernel
theorem dX11_beside_34 : decode cX11_beside 34 = .ok (.iconst 1, 1) := by decide +kernel
theorem dX11_beside_35 : decode cX11_beside 35 = .ok (.goto 12, 3) := by decide +kernel
theorem dX11_beside_38 : decode cX11_beside 38 = .ok (.iload_n 1, 1) := by decide +kernel
theorem dX11_beside_39 : decode cX11_beside 39 = .ok (.ifCond .ne 7, 3) := by decide +kernel
theorem dX11_beside_42 : decode cX11_beside 42 = .ok (.iconst (-1), 1) := by decide +kernel
theorem dX11_beside_43 : decode cX11_beside 43 = .ok (.goto 4, 3) := by decide +kernel
theorem dX11_beside_46 : decode cX11_beside 46 = .ok (.iconst 0, 1) := by decide +kernel
theorem dX11_beside_47 : decode cX11_beside 47 = .ok (.iadd, 1) := by decide +kernel
theorem dX11_beside_48 : decode cX11_beside 48 = .ok (.istore_n 3, 1) := by decide +kernel
theorem dX11_beside_49 : decode cX11_beside 49 = .ok (.iload_n 2, 1) := by decide +kernel
theorem dX11_beside_50 : decode cX11_beside 50 = .ok (.iload_n 3, 1) := by decide +kernel
theorem dX11_beside_51 : decode cX11_beside 51 = .ok (.invokestatic 46, 3) := by decide +kernel
theorem dX11_beside_54 : decode cX11_beside 54 = .ok (.ifCond .eq 12, 3) := by decide +kernel
theorem dX11_beside_57 : decode cX11_beside 57 = .ok (.bipush 10, 2) := by decide +kernel
theorem dX11_beside_59 : decode cX11_beside 59 = .ok (.iload_n 3, 1) := by decide +kernel
theorem dX11_beside_60 : decode cX11_beside 60 = .ok (.imul, 1) := by decide +kernel
theorem dX11_beside_61 : decode cX11_beside 61 = .ok (.iload_n 2, 1) := by decide +kernel
theorem dX11_beside_62 : decode cX11_beside 62 = .ok (.iadd, 1) := by decide +kernel
theorem dX11_beside_63 : decode cX11_beside 63 = .ok (.goto 4, 3) := by decide +kernel
theorem dX11_beside_66 : decode cX11_beside 66 = .ok (.iconst (-1), 1) := by decide +kernel
theorem dX11_beside_67 : decode cX11_beside 67 = .ok (.ireturn, 1) := by decide +kernel
theorem dX11_setGround_0 : decode cX11_setGround 0 = .ok (.aload_n 0, 1) := by decide +kernel
theorem dX11_setGround_1 : decode cX11_setGround 1 = .ok (.iconst 0, 1) := by decide +kernel
theorem dX11_setGround_2 : decode cX11_setGround 2 = .ok (.putfield 38, 3) := by decide +kernel
theorem dX11_setGround_5 : decode cX11_setGround 5 = .ok (.iload_n 1, 1) := by decide +kernel
theorem dX11_setGround_6 : decode cX11_setGround 6 = .ok (.iload_n 2, 1) := by decide +kernel
theorem dX11_setGround_7 : decode cX11_setGround 7 = .ok (.invokestatic 46, 3) := by decide +kernel
theorem dX11_setGround_10 : decode cX11_setGround 10 = .ok (.ifCond .ne 9, 3) := by decide +kernel
theorem dX11_setGround_13 : decode cX11_setGround 13 = .ok (.aload_n 0, 1) := by decide +kernel
theorem dX11_setGround_14 : decode cX11_setGround 14 = .ok (.iconst 1, 1) := by decide +kernel
theorem dX11_setGround_15 : decode cX11_setGround 15 = .ok (.invokevirtual 50, 3) := by decide +kernel
theorem dX11_setGround_18 : decode cX11_setGround 18 = .ok (.ireturn, 1) := by decide +kernel
theorem dX11_setGround_19 : decode cX11_setGround 19 = .ok (.iload_n 3, 1) := by decide +kernel
theorem dX11_setGround_20 : decode cX11_setGround 20 = .ok (.iconst 0, 1) := by decide +kernel
theorem dX11_setGround_21 : decode cX11_setGround 21 = .ok (.bipush 9, 2) := by decide +kernel
theorem dX11_setGround_23 : decode cX11_setGround 23 = .ok (.invokestatic 42, 3) := by decide +kernel
theorem dX11_setGround_26 : decode cX11_setGround 26 = .ok (.ifCond .ne 9, 3) := by decide +kernel
theorem dX11_setGround_29 : decode cX11_setGround 29 = .ok (.aload_n 0, 1) := by decide +kernel
theorem dX11_setGround_30 : decode cX11_setGround 30 = .ok (.iconst 2, 1) := by decide +kernel
theorem dX11_setGround_31 : decode cX11_setGround 31 = .ok (.invokevirtual 50, 3) := by decide +kernel
theorem dX11_setGround_34 : decode cX11_setGround 34 = .ok (.ireturn, 1) := by decide +kernel
theorem dX11_setGround_35 : decode cX11_setGround 35 = .ok (.aload_n 0, 1) := by decide +kernel
theorem dX11_setGround_36 : decode cX11_setGround 36 = .ok (.getfield 28, 3) := by decide +kernel
theorem dX11_setGround_39 : decode cX11_setGround 39 = .ok (.getfield 35, 3) := by decide +kernel
theorem dX11_setGround_42 : decode cX11_setGround 42 = .ok (.bipush 10, 2) := by decide +kernel
theorem dX11_setGround_44 : decode cX11_setGround 44 = .ok (.iload_n 2, 1) := by decide +kernel
theorem dX11_setGround_45 : decode cX11_setGround 45 = .ok (.imul, 1) := by decide +kernel
theorem dX11_setGround_46 : decode cX11_setGround 46 = .ok (.iload_n 1, 1) := by decide +kernel
theorem dX11_setGround_47 : decode cX11_setGround 47 = .ok (.iadd, 1) := by decide +kernel
theorem dX11_setGround_48 : decode cX11_setGround 48 = .ok (.iaload, 1) := by decide +kernel
theorem dX11_setGround_49 : decode cX11_setGround 49 = .ok (.istore 4, 2) := by decide +kernel
theorem dX11_setGround_51 : decode cX11_setGround 51 = .ok (.aload_n 0, 1) := by decide +kernel
theorem dX11_setGround_52 : decode cX11_setGround 52 = .ok (.getfield 28, 3) := by decide +kernel
theorem dX11_setGround_55 : decode cX11_setGround 55 = .ok (.getfield 35, 3) := by decide +kernel
theorem dX11_setGround_58 : decode cX11_setGround 58 = .ok (.bipush 10, 2) := by decide +kernel
theorem dX11_setGround_60 : decode cX11_setGround 60 = .ok (.iload_n 2, 1) := by decide +kernel
theorem dX11_setGround_61 : decode cX11_setGround 61 = .ok (.imul, 1) := by decide +kernel
theorem dX11_setGround_62 : decode cX11_setGround 62 = .ok (.iload_n 1, 1) := by decide +kernel
theorem dX11_setGround_63 : decode cX11_setGround 63 = .ok (.iadd, 1) := by decide +kernel
theorem dX11_setGround_64 : decode cX11_setGround 64 = .ok (.iload_n 3, 1) := by decide +kernel
theorem dX11_setGround_65 : decode cX11_setGround 65 = .ok (.iastore, 1) := by decide +kernel
theorem dX11_setGround_66 : decode cX11_setGround 66 = .ok (.iload 4, 2) := by decide +kernel
theorem dX11_setGround_68 : decode cX11_setGround 68 = .ok (.ireturn, 1) := by decide +kernel
theorem dX11_all_0 : decode cX11_all 0 = .ok (.iconst 0, 1) := by decide +kernel
theorem dX11_all_1 : decode cX11_all 1 = .ok (.istore_n 1, 1) := by decide +kernel
theorem dX11_all_2 : decode cX11_all 2 = .ok (.aload_n 0, 1) := by decide +kernel
theorem dX11_all_3 : decode cX11_all 3 = .ok (.astore_n 2, 1) := by decide +kernel
theorem dX11_all_4 : decode cX11_all 4 = .ok (.aload_n 2, 1) := by decide +kernel
theorem dX11_all_5 : decode cX11_all 5 = .ok (.arraylength, 1) := by decide +kernel
theorem dX11_all_6 : decode cX11_all 6 = .ok (.istore_n 3, 1) := by decide +kernel
theorem dX11_all_7 : decode cX11_all 7 = .ok (.iconst 0, 1) := by decide +kernel
theorem dX11_all_8 : decode cX11_all 8 = .ok (.istore 4, 2) := by decide +kernel
theorem dX11_all_10 : decode cX11_all 10 = .ok (.iload 4, 2) := by decide +kernel
theorem dX11_all_12 : decode cX11_all 12 = .ok (.iload_n 3, 1) := by decide +kernel
theorem dX11_all_13 : decode cX11_all 13 = .ok (.if_icmp .ge 20, 3) := by decide +kernel
theorem dX11_all_16 : decode cX11_all 16 = .ok (.aload_n 2, 1) := by decide +kernel
theorem dX11_all_17 : decode cX11_all 17 = .ok (.iload 4, 2) := by decide +kernel
theorem dX11_all_19 : decode cX11_all 19 = .ok (.iaload, 1) := by decide +kernel
theorem dX11_all_20 : decode cX11_all 20 = .ok (.istore 5, 2) := by decide +kernel
theorem dX11_all_22 : decode cX11_all 22 = .ok (.iload_n 1, 1) := by decide +kernel
theorem dX11_all_23 : decode cX11_all 23 = .ok (.iload 5, 2) := by decide +kernel
theorem dX11_all_25 : decode cX11_all 25 = .ok (.iadd, 1) := by decide +kernel
theorem dX11_all_26 : decode cX11_all 26 = .ok (.istore_n 1, 1) := by decide +kernel
theorem dX11_all_27 : decode cX11_all 27 = .ok (.iinc 4 1, 3) := by decide +kernel
theorem dX11_all_30 : decode cX11_all 30 = .ok (.goto (-20), 3) := by decide +kernel
theorem dX11_all_33 : decode cX11_all 33 = .ok (.iload_n 1, 1) := by decide +kernel
theorem dX11_all_34 : decode cX11_all 34 = .ok (.ireturn, 1) := by decide +kernel
theorem dX11_lay_0 : decode cX11_lay 0 = .ok (.aload_n 0, 1) := by decide +kernel
theorem dX11_lay_1 : decode cX11_lay 1 = .ok (.iconst 0, 1) := by decide +kernel
theorem dX11_lay_2 : decode cX11_lay 2 = .ok (.putfield 38, 3) := by decide +kernel
theorem dX11_lay_5 : decode cX11_lay 5 = .ok (.iload_n 1, 1) := by decide +kernel
theorem dX11_lay_6 : decode cX11_lay 6 = .ok (.iload_n 2, 1) := by decide +kernel
theorem dX11_lay_7 : decode cX11_lay 7 = .ok (.invokestatic 46, 3) := by decide +kernel
theorem dX11_lay_10 : decode cX11_lay 10 = .ok (.ifCond .ne 9, 3) := by decide +kernel
theorem dX11_lay_13 : decode cX11_lay 13 = .ok (.aload_n 0, 1) := by decide +kernel
theorem dX11_lay_14 : decode cX11_lay 14 = .ok (.iconst 1, 1) := by decide +kernel
theorem dX11_lay_15 : decode cX11_lay 15 = .ok (.invokevirtual 50, 3) := by decide +kernel
theorem dX11_lay_18 : decode cX11_lay 18 = .ok (.ireturn, 1) := by decide +kernel
theorem dX11_lay_19 : decode cX11_lay 19 = .ok (.iload_n 3, 1) := by decide +kernel
theorem dX11_lay_20 : decode cX11_lay 20 = .ok (.iconst 0, 1) := by decide +kernel
theorem dX11_lay_21 : decode cX11_lay 21 = .ok (.iconst 5, 1) := by decide +kernel
theorem dX11_lay_22 : decode cX11_lay 22 = .ok (.invokestatic 42, 3) := by decide +kernel
theorem dX11_lay_25 : decode cX11_lay 25 = .ok (.ifCond .ne 9, 3) := by decide +kernel
theorem dX11_lay_28 : decode cX11_lay 28 = .ok (.aload_n 0, 1) := by decide +kernel
theorem dX11_lay_29 : decode cX11_lay 29 = .ok (.iconst 2, 1) := by decide +kernel
theorem dX11_lay_30 : decode cX11_lay 30 = .ok (.invokevirtual 50, 3) := by decide +kernel
theorem dX11_lay_33 : decode cX11_lay 33 = .ok (.ireturn, 1) := by decide +kernel
theorem dX11_lay_34 : decode cX11_lay 34 = .ok (.bipush 10, 2) := by decide +kernel
theorem dX11_lay_36 : decode cX11_lay 36 = .ok (.iload_n 2, 1) := by decide +kernel
theorem dX11_lay_37 : decode cX11_lay 37 = .ok (.imul, 1) := by decide +kernel
theorem dX11_lay_38 : decode cX11_lay 38 = .ok (.iload_n 1, 1) := by decide +kernel
theorem dX11_lay_39 : decode cX11_lay 39 = .ok (.iadd, 1) := by decide +kernel
theorem dX11_lay_40 : decode cX11_lay 40 = .ok (.istore 4, 2) := by decide +kernel
theorem dX11_lay_42 : decode cX11_lay 42 = .ok (.aload_n 0, 1) := by decide +kernel
theorem dX11_lay_43 : decode cX11_lay 43 = .ok (.getfield 28, 3) := by decide +kernel
theorem dX11_lay_46 : decode cX11_lay 46 = .ok (.getfield 54, 3) := by decide +kernel
theorem dX11_lay_49 : decode cX11_lay 49 = .ok (.invokestatic 57, 3) := by decide +kernel
theorem dX11_lay_52 : decode cX11_lay 52 = .ok (.aload_n 0, 1) := by decide +kernel
theorem dX11_lay_53 : decode cX11_lay 53 = .ok (.getfield 28, 3) := by decide +kernel
theorem dX11_lay_56 : decode cX11_lay 56 = .ok (.getfield 54, 3) := by decide +kernel
theorem dX11_lay_59 : decode cX11_lay 59 = .ok (.iload 4, 2) := by decide +kernel
theorem dX11_lay_61 : decode cX11_lay 61 = .ok (.iaload, 1) := by decide +kernel
theorem dX11_lay_62 : decode cX11_lay 62 = .ok (.isub, 1) := by decide +kernel
theorem dX11_lay_63 : decode cX11_lay 63 = .ok (.iload_n 3, 1) := by decide +kernel
theorem dX11_lay_64 : decode cX11_lay 64 = .ok (.iadd, 1) := by decide +kernel
theorem dX11_lay_65 : decode cX11_lay 65 = .ok (.istore 5, 2) := by decide +kernel
theorem dX11_lay_67 : decode cX11_lay 67 = .ok (.iload 5, 2) := by decide +kernel
theorem dX11_lay_69 : decode cX11_lay 69 = .ok (.bipush 40, 2) := by decide +kernel
theorem dX11_lay_71 : decode cX11_lay 71 = .ok (.if_icmp .le 9, 3) := by decide +kernel
theorem dX11_lay_74 : decode cX11_lay 74 = .ok (.aload_n 0, 1) := by decide +kernel
theorem dX11_lay_75 : decode cX11_lay 75 = .ok (.iconst 3, 1) := by decide +kernel
theorem dX11_lay_76 : decode cX11_lay 76 = .ok (.invokevirtual 50, 3) := by decide +kernel
theorem dX11_lay_79 : decode cX11_lay 79 = .ok (.ireturn, 1) := by decide +kernel
theorem dX11_lay_80 : decode cX11_lay 80 = .ok (.aload_n 0, 1) := by decide +kernel
theorem dX11_lay_81 : decode cX11_lay 81 = .ok (.getfield 28, 3) := by decide +kernel
theorem dX11_lay_84 : decode cX11_lay 84 = .ok (.getfield 54, 3) := by decide +kernel
theorem dX11_lay_87 : decode cX11_lay 87 = .ok (.iload 4, 2) := by decide +kernel
theorem dX11_lay_89 : decode cX11_lay 89 = .ok (.iload_n 3, 1) := by decide +kernel
theorem dX11_lay_90 : decode cX11_lay 90 = .ok (.iastore, 1) := by decide +kernel
theorem dX11_lay_91 : decode cX11_lay 91 = .ok (.iload 5, 2) := by decide +kernel
theorem dX11_lay_93 : decode cX11_lay 93 = .ok (.ireturn, 1) := by decide +kernel
theorem dX11_setRiver_0 : decode cX11_setRiver 0 = .ok (.aload_n 0, 1) := by decide +kernel
theorem dX11_setRiver_1 : decode cX11_setRiver 1 = .ok (.iconst 0, 1) := by decide +kernel
theorem dX11_setRiver_2 : decode cX11_setRiver 2 = .ok (.putfield 38, 3) := by decide +kernel
theorem dX11_setRiver_5 : decode cX11_setRiver 5 = .ok (.iload_n 1, 1) := by decide +kernel
theorem dX11_setRiver_6 : decode cX11_setRiver 6 = .ok (.iconst 0, 1) := by decide +kernel
theorem dX11_setRiver_7 : decode cX11_setRiver 7 = .ok (.bipush 11, 2) := by decide +kernel
theorem dX11_setRiver_9 : decode cX11_setRiver 9 = .ok (.invokestatic 42, 3) := by decide +kernel
theorem dX11_setRiver_12 : decode cX11_setRiver 12 = .ok (.ifCond .ne 9, 3) := by decide +kernel
theorem dX11_setRiver_15 : decode cX11_setRiver 15 = .ok (.aload_n 0, 1) := by decide +kernel
theorem dX11_setRiver_16 : decode cX11_setRiver 16 = .ok (.iconst 1, 1) := by decide +kernel
theorem dX11_setRiver_17 : decode cX11_setRiver 17 = .ok (.invokevirtual 50, 3) := by decide +kernel
theorem dX11_setRiver_20 : decode cX11_setRiver 20 = .ok (.ireturn, 1) := by decide +kernel
theorem dX11_setRiver_21 : decode cX11_setRiver 21 = .ok (.iload_n 2, 1) := by decide +kernel
theorem dX11_setRiver_22 : decode cX11_setRiver 22 = .ok (.iconst 0, 1) := by decide +kernel
theorem dX11_setRiver_23 : decode cX11_setRiver 23 = .ok (.bipush 12, 2) := by decide +kernel
theorem dX11_setRiver_25 : decode cX11_setRiver 25 = .ok (.invokestatic 42, 3) := by decide +kernel
theorem dX11_setRiver_28 : decode cX11_setRiver 28 = .ok (.ifCond .ne 9, 3) := by decide +kernel
theorem dX11_setRiver_31 : decode cX11_setRiver 31 = .ok (.aload_n 0, 1) := by decide +kernel
theorem dX11_setRiver_32 : decode cX11_setRiver 32 = .ok (.iconst 2, 1) := by decide +kernel
theorem dX11_setRiver_33 : decode cX11_setRiver 33 = .ok (.invokevirtual 50, 3) := by decide +kernel
theorem dX11_setRiver_36 : decode cX11_setRiver 36 = .ok (.ireturn, 1) := by decide +kernel
theorem dX11_setRiver_37 : decode cX11_setRiver 37 = .ok (.aload_n 0, 1) := by decide +kernel
theorem dX11_setRiver_38 : decode cX11_setRiver 38 = .ok (.getfield 9, 3) := by decide +kernel
theorem dX11_setRiver_41 : decode cX11_setRiver 41 = .ok (.iload_n 1, 1) := by decide +kernel
theorem dX11_setRiver_42 : decode cX11_setRiver 42 = .ok (.iaload, 1) := by decide +kernel
theorem dX11_setRiver_43 : decode cX11_setRiver 43 = .ok (.istore_n 3, 1) := by decide +kernel
theorem dX11_setRiver_44 : decode cX11_setRiver 44 = .ok (.aload_n 0, 1) := by decide +kernel
theorem dX11_setRiver_45 : decode cX11_setRiver 45 = .ok (.getfield 9, 3) := by decide +kernel
theorem dX11_setRiver_48 : decode cX11_setRiver 48 = .ok (.iload_n 1, 1) := by decide +kernel
theorem dX11_setRiver_49 : decode cX11_setRiver 49 = .ok (.iload_n 2, 1) := by decide +kernel
theorem dX11_setRiver_50 : decode cX11_setRiver 50 = .ok (.iastore, 1) := by decide +kernel
theorem dX11_setRiver_51 : decode cX11_setRiver 51 = .ok (.iload_n 3, 1) := by decide +kernel
theorem dX11_setRiver_52 : decode cX11_setRiver 52 = .ok (.ireturn, 1) := by decide +kernel
theorem dX11_placeOf_0 : decode cX11_placeOf 0 = .ok (.iconst 0, 1) := by decide +kernel
theorem dX11_placeOf_1 : decode cX11_placeOf 1 = .ok (.istore 4, 2) := by decide +kernel
theorem dX11_placeOf_3 : decode cX11_placeOf 3 = .ok (.iload 4, 2) := by decide +kernel
theorem dX11_placeOf_5 : decode cX11_placeOf 5 = .ok (.iload_n 2, 1) := by decide +kernel
theorem dX11_placeOf_6 : decode cX11_placeOf 6 = .ok (.if_icmp .ge 22, 3) := by decide +kernel
theorem dX11_placeOf_9 : decode cX11_placeOf 9 = .ok (.aload_n 0, 1) := by decide +kernel
theorem dX11_placeOf_10 : decode cX11_placeOf 10 = .ok (.iload_n 1, 1) := by decide +kernel
theorem dX11_placeOf_11 : decode cX11_placeOf 11 = .ok (.iload 4, 2) := by decide +kernel
theorem dX11_placeOf_13 : decode cX11_placeOf 13 = .ok (.imul, 1) := by decide +kernel
theorem dX11_placeOf_14 : decode cX11_placeOf 14 = .ok (.iaload, 1) := by decide +kernel
theorem dX11_placeOf_15 : decode cX11_placeOf 15 = .ok (.iload_n 3, 1) := by decide +kernel
theorem dX11_placeOf_16 : decode cX11_placeOf 16 = .ok (.if_icmp .ne 6, 3) := by decide +kernel
theorem dX11_placeOf_19 : decode cX11_placeOf 19 = .ok (.iload 4, 2) := by decide +kernel
theorem dX11_placeOf_21 : decode cX11_placeOf 21 = .ok (.ireturn, 1) := by decide +kernel
theorem dX11_placeOf_22 : decode cX11_placeOf 22 = .ok (.iinc 4 1, 3) := by decide +kernel
theorem dX11_placeOf_25 : decode cX11_placeOf 25 = .ok (.goto (-22), 3) := by decide +kernel
theorem dX11_placeOf_28 : decode cX11_placeOf 28 = .ok (.iconst (-1), 1) := by decide +kernel
theorem dX11_placeOf_29 : decode cX11_placeOf 29 = .ok (.ireturn, 1) := by decide +kernel
theorem dX11_addPump_0 : decode cX11_addPump 0 = .ok (.aload_n 0, 1) := by decide +kernel
theorem dX11_addPump_1 : decode cX11_addPump 1 = .ok (.iconst 0, 1) := by decide +kernel
theorem dX11_addPump_2 : decode cX11_addPump 2 = .ok (.putfield 38, 3) := by decide +kernel
theorem dX11_addPump_5 : decode cX11_addPump 5 = .ok (.iload_n 1, 1) := by decide +kernel
theorem dX11_addPump_6 : decode cX11_addPump 6 = .ok (.iload_n 2, 1) := by decide +kernel
theorem dX11_addPump_7 : decode cX11_addPump 7 = .ok (.invokestatic 46, 3) := by decide +kernel
theorem dX11_addPump_10 : decode cX11_addPump 10 = .ok (.ifCond .ne 9, 3) := by decide +kernel
theorem dX11_addPump_13 : decode cX11_addPump 13 = .ok (.aload_n 0, 1) := by decide +kernel
theorem dX11_addPump_14 : decode cX11_addPump 14 = .ok (.iconst 1, 1) := by decide +kernel
theorem dX11_addPump_15 : decode cX11_addPump 15 = .ok (.invokevirtual 50, 3) := by decide +kernel
theorem dX11_addPump_18 : decode cX11_addPump 18 = .ok (.ireturn, 1) := by decide +kernel
theorem dX11_addPump_19 : decode cX11_addPump 19 = .ok (.iload_n 3, 1) := by decide +kernel
theorem dX11_addPump_20 : decode cX11_addPump 20 = .ok (.iconst 1, 1) := by decide +kernel
theorem dX11_addPump_21 : decode cX11_addPump 21 = .ok (.iconst 5, 1) := by decide +kernel
theorem dX11_addPump_22 : decode cX11_addPump 22 = .ok (.invokestatic 42, 3) := by decide +kernel
theorem dX11_addPump_25 : decode cX11_addPump 25 = .ok (.ifCond .eq 14, 3) := by decide +kernel
theorem dX11_addPump_28 : decode cX11_addPump 28 = .ok (.iload 4, 2) := by decide +kernel
theorem dX11_addPump_30 : decode cX11_addPump 30 = .ok (.iconst 0, 1) := by decide +kernel
theorem dX11_addPump_31 : decode cX11_addPump 31 = .ok (.bipush 30, 2) := by decide +kernel
theorem dX11_addPump_33 : decode cX11_addPump 33 = .ok (.invokestatic 42, 3) := by decide +kernel
theorem dX11_addPump_36 : decode cX11_addPump 36 = .ok (.ifCond .ne 9, 3) := by decide +kernel
theorem dX11_addPump_39 : decode cX11_addPump 39 = .ok (.aload_n 0, 1) := by decide +kernel
theorem dX11_addPump_40 : decode cX11_addPump 40 = .ok (.iconst 2, 1) := by decide +kernel
theorem dX11_addPump_41 : decode cX11_addPump 41 = .ok (.invokevirtual 50, 3) := by decide +kernel
theorem dX11_addPump_44 : decode cX11_addPump 44 = .ok (.ireturn, 1) := by decide +kernel
theorem dX11_addPump_45 : decode cX11_addPump 45 = .ok (.bipush 10, 2) := by decide +kernel
theorem dX11_addPump_47 : decode cX11_addPump 47 = .ok (.iload_n 2, 1) := by decide +kernel
theorem dX11_addPump_48 : decode cX11_addPump 48 = .ok (.imul, 1) := by decide +kernel
theorem dX11_addPump_49 : decode cX11_addPump 49 = .ok (.iload_n 1, 1) := by decide +kernel
theorem dX11_addPump_50 : decode cX11_addPump 50 = .ok (.iadd, 1) := by decide +kernel
theorem dX11_addPump_51 : decode cX11_addPump 51 = .ok (.istore 5, 2) := by decide +kernel
theorem dX11_addPump_53 : decode cX11_addPump 53 = .ok (.aload_n 0, 1) := by decide +kernel
theorem dX11_addPump_54 : decode cX11_addPump 54 = .ok (.getfield 61, 3) := by decide +kernel
theorem dX11_addPump_57 : decode cX11_addPump 57 = .ok (.iconst 5, 1) := by decide +kernel
theorem dX11_addPump_58 : decode cX11_addPump 58 = .ok (.if_icmp .eq 24, 3) := by decide +kernel
theorem dX11_addPump_61 : decode cX11_addPump 61 = .ok (.aload_n 0, 1) := by decide +kernel
theorem dX11_addPump_62 : decode cX11_addPump 62 = .ok (.getfield 28, 3) := by decide +kernel
theorem dX11_addPump_65 : decode cX11_addPump 65 = .ok (.getfield 64, 3) := by decide +kernel
theorem dX11_addPump_68 : decode cX11_addPump 68 = .ok (.iconst 5, 1) := by decide +kernel
theorem dX11_addPump_69 : decode cX11_addPump 69 = .ok (.aload_n 0, 1) := by decide +kernel
theorem dX11_addPump_70 : decode cX11_addPump 70 = .ok (.getfield 61, 3) := by decide +kernel
theorem dX11_addPump_73 : decode cX11_addPump 73 = .ok (.iload 5, 2) := by decide +kernel
theorem dX11_addPump_75 : decode cX11_addPump 75 = .ok (.invokestatic 67, 3) := by decide +kernel
theorem dX11_addPump_78 : decode cX11_addPump 78 = .ok (.iconst (-1), 1) := by decide +kernel
theorem dX11_addPump_79 : decode cX11_addPump 79 = .ok (.if_icmp .eq 9, 3) := by decide +kernel
theorem dX11_addPump_82 : decode cX11_addPump 82 = .ok (.aload_n 0, 1) := by decide +kernel
theorem dX11_addPump_83 : decode cX11_addPump 83 = .ok (.iconst 3, 1) := by decide +kernel
theorem dX11_addPump_84 : decode cX11_addPump 84 = .ok (.invokevirtual 50, 3) := by decide +kernel
theorem dX11_addPump_87 : decode cX11_addPump 87 = .ok (.ireturn, 1) := by decide +kernel
theorem dX11_addPump_88 : decode cX11_addPump 88 = .ok (.aload_n 0, 1) := by decide +kernel
theorem dX11_addPump_89 : decode cX11_addPump 89 = .ok (.getfield 28, 3) := by decide +kernel
theorem dX11_addPump_92 : decode cX11_addPump 92 = .ok (.getfield 64, 3) := by decide +kernel
theorem dX11_addPump_95 : decode cX11_addPump 95 = .ok (.iconst 5, 1) := by decide +kernel
theorem dX11_addPump_96 : decode cX11_addPump 96 = .ok (.aload_n 0, 1) := by decide +kernel
theorem dX11_addPump_97 : decode cX11_addPump 97 = .ok (.getfield 61, 3) := by decide +kernel
theorem dX11_addPump_100 : decode cX11_addPump 100 = .ok (.imul, 1) := by decide +kernel
theorem dX11_addPump_101 : decode cX11_addPump 101 = .ok (.iload 5, 2) := by decide +kernel
theorem dX11_addPump_103 : decode cX11_addPump 103 = .ok (.iastore, 1) := by decide +kernel
theorem dX11_addPump_104 : decode cX11_addPump 104 = .ok (.aload_n 0, 1) := by decide +kernel
theorem dX11_addPump_105 : decode cX11_addPump 105 = .ok (.getfield 28, 3) := by decide +kernel
theorem dX11_addPump_108 : decode cX11_addPump 108 = .ok (.getfield 64, 3) := by decide +kernel
theorem dX11_addPump_111 : decode cX11_addPump 111 = .ok (.iconst 5, 1) := by decide +kernel
theorem dX11_addPump_112 : decode cX11_addPump 112 = .ok (.aload_n 0, 1) := by decide +kernel
theorem dX11_addPump_113 : decode cX11_addPump 113 = .ok (.getfield 61, 3) := by decide +kernel
theorem dX11_addPump_116 : decode cX11_addPump 116 = .ok (.imul, 1) := by decide +kernel
theorem dX11_addPump_117 : decode cX11_addPump 117 = .ok (.iconst 1, 1) := by decide +kernel
theorem dX11_addPump_118 : decode cX11_addPump 118 = .ok (.iadd, 1) := by decide +kernel
theorem dX11_addPump_119 : decode cX11_addPump 119 = .ok (.iload_n 3, 1) := by decide +kernel
theorem dX11_addPump_120 : decode cX11_addPump 120 = .ok (.iastore, 1) := by decide +kernel
theorem dX11_addPump_121 : decode cX11_addPump 121 = .ok (.aload_n 0, 1) := by decide +kernel
theorem dX11_addPump_122 : decode cX11_addPump 122 = .ok (.getfield 28, 3) := by decide +kernel
theorem dX11_addPump_125 : decode cX11_addPump 125 = .ok (.getfield 64, 3) := by decide +kernel
theorem dX11_addPump_128 : decode cX11_addPump 128 = .ok (.iconst 5, 1) := by decide +kernel
theorem dX11_addPump_129 : decode cX11_addPump 129 = .ok (.aload_n 0, 1) := by decide +kernel
theorem dX11_addPump_130 : decode cX11_addPump 130 = .ok (.getfield 61, 3) := by decide +kernel
theorem dX11_addPump_133 : decode cX11_addPump 133 = .ok (.imul, 1) := by decide +kernel
theorem dX11_addPump_134 : decode cX11_addPump 134 = .ok (.iconst 2, 1) := by decide +kernel
theorem dX11_addPump_135 : decode cX11_addPump 135 = .ok (.iadd, 1) := by decide +kernel
theorem dX11_addPump_136 : decode cX11_addPump 136 = .ok (.iload 4, 2) := by decide +kernel
theorem dX11_addPump_138 : decode cX11_addPump 138 = .ok (.iastore, 1) := by decide +kernel
theorem dX11_addPump_139 : decode cX11_addPump 139 = .ok (.aload_n 0, 1) := by decide +kernel
theorem dX11_addPump_140 : decode cX11_addPump 140 = .ok (.getfield 28, 3) := by decide +kernel
theorem dX11_addPump_143 : decode cX11_addPump 143 = .ok (.getfield 64, 3) := by decide +kernel
theorem dX11_addPump_146 : decode cX11_addPump 146 = .ok (.iconst 5, 1) := by decide +kernel
theorem dX11_addPump_147 : decode cX11_addPump 147 = .ok (.aload_n 0, 1) := by decide +kernel
theorem dX11_addPump_148 : decode cX11_addPump 148 = .ok (.getfield 61, 3) := by decide +kernel
theorem dX11_addPump_151 : decode cX11_addPump 151 = .ok (.imul, 1) := by decide +kernel
theorem dX11_addPump_152 : decode cX11_addPump 152 = .ok (.iconst 3, 1) := by decide +kernel
theorem dX11_addPump_153 : decode cX11_addPump 153 = .ok (.iadd, 1) := by decide +kernel
theorem dX11_addPump_154 : decode cX11_addPump 154 = .ok (.iconst 1, 1) := by decide +kernel
theorem dX11_addPump_155 : decode cX11_addPump 155 = .ok (.iastore, 1) := by decide +kernel
theorem dX11_addPump_156 : decode cX11_addPump 156 = .ok (.aload_n 0, 1) := by decide +kernel
theorem dX11_addPump_157 : decode cX11_addPump 157 = .ok (.dup, 1) := by decide +kernel
theorem dX11_addPump_158 : decode cX11_addPump 158 = .ok (.getfield 61, 3) := by decide +kernel
theorem dX11_addPump_161 : decode cX11_addPump 161 = .ok (.iconst 1, 1) := by decide +kernel
theorem dX11_addPump_162 : decode cX11_addPump 162 = .ok (.iadd, 1) := by decide +kernel
theorem dX11_addPump_163 : decode cX11_addPump 163 = .ok (.putfield 61, 3) := by decide +kernel
theorem dX11_addPump_166 : decode cX11_addPump 166 = .ok (.aload_n 0, 1) := by decide +kernel
theorem dX11_addPump_167 : decode cX11_addPump 167 = .ok (.getfield 61, 3) := by decide +kernel
theorem dX11_addPump_170 : decode cX11_addPump 170 = .ok (.iconst 1, 1) := by decide +kernel
theorem dX11_addPump_171 : decode cX11_addPump 171 = .ok (.isub, 1) := by decide +kernel
theorem dX11_addPump_172 : decode cX11_addPump 172 = .ok (.ireturn, 1) := by decide +kernel
theorem dX11_run_0 : decode cX11_run 0 = .ok (.aload_n 0, 1) := by decide +kernel
theorem dX11_run_1 : decode cX11_run 1 = .ok (.iconst 0, 1) := by decide +kernel
theorem dX11_run_2 : decode cX11_run 2 = .ok (.putfield 38, 3) := by decide +kernel
theorem dX11_run_5 : decode cX11_run 5 = .ok (.iload_n 1, 1) := by decide +kernel
theorem dX11_run_6 : decode cX11_run 6 = .ok (.iconst 0, 1) := by decide +kernel
theorem dX11_run_7 : decode cX11_run 7 = .ok (.aload_n 0, 1) := by decide +kernel
theorem dX11_run_8 : decode cX11_run 8 = .ok (.getfield 61, 3) := by decide +kernel
theorem dX11_run_11 : decode cX11_run 11 = .ok (.iconst 1, 1) := by decide +kernel
theorem dX11_run_12 : decode cX11_run 12 = .ok (.isub, 1) := by decide +kernel
theorem dX11_run_13 : decode cX11_run 13 = .ok (.invokestatic 42, 3) := by decide +kernel
theorem dX11_run_16 : decode cX11_run 16 = .ok (.ifCond .ne 18, 3) := by decide +kernel
theorem dX11_run_19 : decode cX11_run 19 = .ok (.aload_n 0, 1) := by decide +kernel
theorem dX11_run_20 : decode cX11_run 20 = .ok (.iconst 1, 1) := by decide +kernel
theorem dX11_run_21 : decode cX11_run 21 = .ok (.invokevirtual 50, 3) := by decide +kernel
theorem dX11_run_24 : decode cX11_run 24 = .ok (.iconst 1, 1) := by decide +kernel
theorem dX11_run_25 : decode cX11_run 25 = .ok (.if_icmp .ne 7, 3) := by decide +kernel
theorem dX11_run_28 : decode cX11_run 28 = .ok (.iconst 1, 1) := by decide +kernel
theorem dX11_run_29 : decode cX11_run 29 = .ok (.goto 4, 3) := by decide +kernel
theorem dX11_run_32 : decode cX11_run 32 = .ok (.iconst 0, 1) := by decide +kernel
theorem dX11_run_33 : decode cX11_run 33 = .ok (.ireturn, 1) := by decide +kernel
theorem dX11_run_34 : decode cX11_run 34 = .ok (.aload_n 0, 1) := by decide +kernel
theorem dX11_run_35 : decode cX11_run 35 = .ok (.getfield 28, 3) := by decide +kernel
theorem dX11_run_38 : decode cX11_run 38 = .ok (.getfield 64, 3) := by decide +kernel
theorem dX11_run_41 : decode cX11_run 41 = .ok (.iconst 5, 1) := by decide +kernel
theorem dX11_run_42 : decode cX11_run 42 = .ok (.iload_n 1, 1) := by decide +kernel
theorem dX11_run_43 : decode cX11_run 43 = .ok (.imul, 1) := by decide +kernel
theorem dX11_run_44 : decode cX11_run 44 = .ok (.iconst 3, 1) := by decide +kernel
theorem dX11_run_45 : decode cX11_run 45 = .ok (.iadd, 1) := by decide +kernel
theorem dX11_run_46 : decode cX11_run 46 = .ok (.iconst 1, 1) := by decide +kernel
theorem dX11_run_47 : decode cX11_run 47 = .ok (.aload_n 0, 1) := by decide +kernel
theorem dX11_run_48 : decode cX11_run 48 = .ok (.getfield 28, 3) := by decide +kernel
theorem dX11_run_51 : decode cX11_run 51 = .ok (.getfield 64, 3) := by decide +kernel
theorem dX11_run_54 : decode cX11_run 54 = .ok (.iconst 5, 1) := by decide +kernel
theorem dX11_run_55 : decode cX11_run 55 = .ok (.iload_n 1, 1) := by decide +kernel
theorem dX11_run_56 : decode cX11_run 56 = .ok (.imul, 1) := by decide +kernel
theorem dX11_run_57 : decode cX11_run 57 = .ok (.iconst 3, 1) := by decide +kernel
theorem dX11_run_58 : decode cX11_run 58 = .ok (.iadd, 1) := by decide +kernel
theorem dX11_run_59 : decode cX11_run 59 = .ok (.iaload, 1) := by decide +kernel
theorem dX11_run_60 : decode cX11_run 60 = .ok (.isub, 1) := by decide +kernel
theorem dX11_run_61 : decode cX11_run 61 = .ok (.iastore, 1) := by decide +kernel
theorem dX11_run_62 : decode cX11_run 62 = .ok (.aload_n 0, 1) := by decide +kernel
theorem dX11_run_63 : decode cX11_run 63 = .ok (.getfield 28, 3) := by decide +kernel
theorem dX11_run_66 : decode cX11_run 66 = .ok (.getfield 64, 3) := by decide +kernel
theorem dX11_run_69 : decode cX11_run 69 = .ok (.iconst 5, 1) := by decide +kernel
theorem dX11_run_70 : decode cX11_run 70 = .ok (.iload_n 1, 1) := by decide +kernel
theorem dX11_run_71 : decode cX11_run 71 = .ok (.imul, 1) := by decide +kernel
theorem dX11_run_72 : decode cX11_run 72 = .ok (.iconst 3, 1) := by decide +kernel
theorem dX11_run_73 : decode cX11_run 73 = .ok (.iadd, 1) := by decide +kernel
theorem dX11_run_74 : decode cX11_run 74 = .ok (.iaload, 1) := by decide +kernel
theorem dX11_run_75 : decode cX11_run 75 = .ok (.iconst 1, 1) := by decide +kernel
theorem dX11_run_76 : decode cX11_run 76 = .ok (.if_icmp .ne 7, 3) := by decide +kernel
theorem dX11_run_79 : decode cX11_run 79 = .ok (.iconst 1, 1) := by decide +kernel
theorem dX11_run_80 : decode cX11_run 80 = .ok (.goto 4, 3) := by decide +kernel
theorem dX11_run_83 : decode cX11_run 83 = .ok (.iconst 0, 1) := by decide +kernel
theorem dX11_run_84 : decode cX11_run 84 = .ok (.ireturn, 1) := by decide +kernel
theorem dX11_addGauge_0 : decode cX11_addGauge 0 = .ok (.aload_n 0, 1) := by decide +kernel
theorem dX11_addGauge_1 : decode cX11_addGauge 1 = .ok (.iconst 0, 1) := by decide +kernel
theorem dX11_addGauge_2 : decode cX11_addGauge 2 = .ok (.putfield 38, 3) := by decide +kernel
theorem dX11_addGauge_5 : decode cX11_addGauge 5 = .ok (.iload_n 1, 1) := by decide +kernel
theorem dX11_addGauge_6 : decode cX11_addGauge 6 = .ok (.iload_n 2, 1) := by decide +kernel
theorem dX11_addGauge_7 : decode cX11_addGauge 7 = .ok (.invokestatic 46, 3) := by decide +kernel
theorem dX11_addGauge_10 : decode cX11_addGauge 10 = .ok (.ifCond .ne 9, 3) := by decide +kernel
theorem dX11_addGauge_13 : decode cX11_addGauge 13 = .ok (.aload_n 0, 1) := by decide +kernel
theorem dX11_addGauge_14 : decode cX11_addGauge 14 = .ok (.iconst 1, 1) := by decide +kernel
theorem dX11_addGauge_15 : decode cX11_addGauge 15 = .ok (.invokevirtual 50, 3) := by decide +kernel
theorem dX11_addGauge_18 : decode cX11_addGauge 18 = .ok (.ireturn, 1) := by decide +kernel
theorem dX11_addGauge_19 : decode cX11_addGauge 19 = .ok (.iload_n 3, 1) := by decide +kernel
theorem dX11_addGauge_20 : decode cX11_addGauge 20 = .ok (.iconst 1, 1) := by decide +kernel
theorem dX11_addGauge_21 : decode cX11_addGauge 21 = .ok (.bipush 20, 2) := by decide +kernel
theorem dX11_addGauge_23 : decode cX11_addGauge 23 = .ok (.invokestatic 42, 3) := by decide +kernel
theorem dX11_addGauge_26 : decode cX11_addGauge 26 = .ok (.ifCond .ne 9, 3) := by decide +kernel
theorem dX11_addGauge_29 : decode cX11_addGauge 29 = .ok (.aload_n 0, 1) := by decide +kernel
theorem dX11_addGauge_30 : decode cX11_addGauge 30 = .ok (.iconst 2, 1) := by decide +kernel
theorem dX11_addGauge_31 : decode cX11_addGauge 31 = .ok (.invokevirtual 50, 3) := by decide +kernel
theorem dX11_addGauge_34 : decode cX11_addGauge 34 = .ok (.ireturn, 1) := by decide +kernel
theorem dX11_addGauge_35 : decode cX11_addGauge 35 = .ok (.bipush 10, 2) := by decide +kernel
theorem dX11_addGauge_37 : decode cX11_addGauge 37 = .ok (.iload_n 2, 1) := by decide +kernel
theorem dX11_addGauge_38 : decode cX11_addGauge 38 = .ok (.imul, 1) := by decide +kernel
theorem dX11_addGauge_39 : decode cX11_addGauge 39 = .ok (.iload_n 1, 1) := by decide +kernel
theorem dX11_addGauge_40 : decode cX11_addGauge 40 = .ok (.iadd, 1) := by decide +kernel
theorem dX11_addGauge_41 : decode cX11_addGauge 41 = .ok (.istore 4, 2) := by decide +kernel
theorem dX11_addGauge_43 : decode cX11_addGauge 43 = .ok (.aload_n 0, 1) := by decide +kernel
theorem dX11_addGauge_44 : decode cX11_addGauge 44 = .ok (.getfield 71, 3) := by decide +kernel
theorem dX11_addGauge_47 : decode cX11_addGauge 47 = .ok (.iconst 4, 1) := by decide +kernel
theorem dX11_addGauge_48 : decode cX11_addGauge 48 = .ok (.if_icmp .eq 24, 3) := by decide +kernel
theorem dX11_addGauge_51 : decode cX11_addGauge 51 = .ok (.aload_n 0, 1) := by decide +kernel
theorem dX11_addGauge_52 : decode cX11_addGauge 52 = .ok (.getfield 28, 3) := by decide +kernel
theorem dX11_addGauge_55 : decode cX11_addGauge 55 = .ok (.getfield 74, 3) := by decide +kernel
theorem dX11_addGauge_58 : decode cX11_addGauge 58 = .ok (.iconst 2, 1) := by decide +kernel
theorem dX11_addGauge_59 : decode cX11_addGauge 59 = .ok (.aload_n 0, 1) := by decide +kernel
theorem dX11_addGauge_60 : decode cX11_addGauge 60 = .ok (.getfield 71, 3) := by decide +kernel
theorem dX11_addGauge_63 : decode cX11_addGauge 63 = .ok (.iload 4, 2) := by decide +kernel
theorem dX11_addGauge_65 : decode cX11_addGauge 65 = .ok (.invokestatic 67, 3) := by decide +kernel
theorem dX11_addGauge_68 : decode cX11_addGauge 68 = .ok (.iconst (-1), 1) := by decide +kernel
theorem dX11_addGauge_69 : decode cX11_addGauge 69 = .ok (.if_icmp .eq 9, 3) := by decide +kernel
theorem dX11_addGauge_72 : decode cX11_addGauge 72 = .ok (.aload_n 0, 1) := by decide +kernel
theorem dX11_addGauge_73 : decode cX11_addGauge 73 = .ok (.iconst 3, 1) := by decide +kernel
theorem dX11_addGauge_74 : decode cX11_addGauge 74 = .ok (.invokevirtual 50, 3) := by decide +kernel
theorem dX11_addGauge_77 : decode cX11_addGauge 77 = .ok (.ireturn, 1) := by decide +kernel
theorem dX11_addGauge_78 : decode cX11_addGauge 78 = .ok (.aload_n 0, 1) := by decide +kernel
theorem dX11_addGauge_79 : decode cX11_addGauge 79 = .ok (.getfield 28, 3) := by decide +kernel
theorem dX11_addGauge_82 : decode cX11_addGauge 82 = .ok (.getfield 74, 3) := by decide +kernel
theorem dX11_addGauge_85 : decode cX11_addGauge 85 = .ok (.iconst 2, 1) := by decide +kernel
theorem dX11_addGauge_86 : decode cX11_addGauge 86 = .ok (.aload_n 0, 1) := by decide +kernel
theorem dX11_addGauge_87 : decode cX11_addGauge 87 = .ok (.getfield 71, 3) := by decide +kernel
theorem dX11_addGauge_90 : decode cX11_addGauge 90 = .ok (.imul, 1) := by decide +kernel
theorem dX11_addGauge_91 : decode cX11_addGauge 91 = .ok (.iload 4, 2) := by decide +kernel
theorem dX11_addGauge_93 : decode cX11_addGauge 93 = .ok (.iastore, 1) := by decide +kernel
theorem dX11_addGauge_94 : decode cX11_addGauge 94 = .ok (.aload_n 0, 1) := by decide +kernel
theorem dX11_addGauge_95 : decode cX11_addGauge 95 = .ok (.getfield 28, 3) := by decide +kernel
theorem dX11_addGauge_98 : decode cX11_addGauge 98 = .ok (.getfield 74, 3) := by decide +kernel
theorem dX11_addGauge_101 : decode cX11_addGauge 101 = .ok (.iconst 2, 1) := by decide +kernel
theorem dX11_addGauge_102 : decode cX11_addGauge 102 = .ok (.aload_n 0, 1) := by decide +kernel
theorem dX11_addGauge_103 : decode cX11_addGauge 103 = .ok (.getfield 71, 3) := by decide +kernel
theorem dX11_addGauge_106 : decode cX11_addGauge 106 = .ok (.imul, 1) := by decide +kernel
theorem dX11_addGauge_107 : decode cX11_addGauge 107 = .ok (.iconst 1, 1) := by decide +kernel
theorem dX11_addGauge_108 : decode cX11_addGauge 108 = .ok (.iadd, 1) := by decide +kernel
theorem dX11_addGauge_109 : decode cX11_addGauge 109 = .ok (.iload_n 3, 1) := by decide +kernel
theorem dX11_addGauge_110 : decode cX11_addGauge 110 = .ok (.iastore, 1) := by decide +kernel
theorem dX11_addGauge_111 : decode cX11_addGauge 111 = .ok (.aload_n 0, 1) := by decide +kernel
theorem dX11_addGauge_112 : decode cX11_addGauge 112 = .ok (.dup, 1) := by decide +kernel
theorem dX11_addGauge_113 : decode cX11_addGauge 113 = .ok (.getfield 71, 3) := by decide +kernel
theorem dX11_addGauge_116 : decode cX11_addGauge 116 = .ok (.iconst 1, 1) := by decide +kernel
theorem dX11_addGauge_117 : decode cX11_addGauge 117 = .ok (.iadd, 1) := by decide +kernel
theorem dX11_addGauge_118 : decode cX11_addGauge 118 = .ok (.putfield 71, 3) := by decide +kernel
theorem dX11_addGauge_121 : decode cX11_addGauge 121 = .ok (.aload_n 0, 1) := by decide +kernel
theorem dX11_addGauge_122 : decode cX11_addGauge 122 = .ok (.getfield 71, 3) := by decide +kernel
theorem dX11_addGauge_125 : decode cX11_addGauge 125 = .ok (.iconst 1, 1) := by decide +kernel
theorem dX11_addGauge_126 : decode cX11_addGauge 126 = .ok (.isub, 1) := by decide +kernel
theorem dX11_addGauge_127 : decode cX11_addGauge 127 = .ok (.ireturn, 1) := by decide +kernel
theorem dX11_addRefuge_0 : decode cX11_addRefuge 0 = .ok (.aload_n 0, 1) := by decide +kernel
theorem dX11_addRefuge_1 : decode cX11_addRefuge 1 = .ok (.iconst 0, 1) := by decide +kernel
theorem dX11_addRefuge_2 : decode cX11_addRefuge 2 = .ok (.putfield 38, 3) := by decide +kernel
theorem dX11_addRefuge_5 : decode cX11_addRefuge 5 = .ok (.iload_n 1, 1) := by decide +kernel
theorem dX11_addRefuge_6 : decode cX11_addRefuge 6 = .ok (.iload_n 2, 1) := by decide +kernel
theorem dX11_addRefuge_7 : decode cX11_addRefuge 7 = .ok (.invokestatic 46, 3) := by decide +kernel
theorem dX11_addRefuge_10 : decode cX11_addRefuge 10 = .ok (.ifCond .ne 9, 3) := by decide +kernel
theorem dX11_addRefuge_13 : decode cX11_addRefuge 13 = .ok (.aload_n 0, 1) := by decide +kernel
theorem dX11_addRefuge_14 : decode cX11_addRefuge 14 = .ok (.iconst 1, 1) := by decide +kernel
theorem dX11_addRefuge_15 : decode cX11_addRefuge 15 = .ok (.invokevirtual 50, 3) := by decide +kernel
theorem dX11_addRefuge_18 : decode cX11_addRefuge 18 = .ok (.ireturn, 1) := by decide +kernel
theorem dX11_addRefuge_19 : decode cX11_addRefuge 19 = .ok (.iload_n 3, 1) := by decide +kernel
theorem dX11_addRefuge_20 : decode cX11_addRefuge 20 = .ok (.iconst 1, 1) := by decide +kernel
theorem dX11_addRefuge_21 : decode cX11_addRefuge 21 = .ok (.bipush 20, 2) := by decide +kernel
theorem dX11_addRefuge_23 : decode cX11_addRefuge 23 = .ok (.invokestatic 42, 3) := by decide +kernel
theorem dX11_addRefuge_26 : decode cX11_addRefuge 26 = .ok (.ifCond .ne 9, 3) := by decide +kernel
theorem dX11_addRefuge_29 : decode cX11_addRefuge 29 = .ok (.aload_n 0, 1) := by decide +kernel
theorem dX11_addRefuge_30 : decode cX11_addRefuge 30 = .ok (.iconst 2, 1) := by decide +kernel
theorem dX11_addRefuge_31 : decode cX11_addRefuge 31 = .ok (.invokevirtual 50, 3) := by decide +kernel
theorem dX11_addRefuge_34 : decode cX11_addRefuge 34 = .ok (.ireturn, 1) := by decide +kernel
theorem dX11_addRefuge_35 : decode cX11_addRefuge 35 = .ok (.bipush 10, 2) := by decide +kernel
theorem dX11_addRefuge_37 : decode cX11_addRefuge 37 = .ok (.iload_n 2, 1) := by decide +kernel
theorem dX11_addRefuge_38 : decode cX11_addRefuge 38 = .ok (.imul, 1) := by decide +kernel
theorem dX11_addRefuge_39 : decode cX11_addRefuge 39 = .ok (.iload_n 1, 1) := by decide +kernel
theorem dX11_addRefuge_40 : decode cX11_addRefuge 40 = .ok (.iadd, 1) := by decide +kernel
theorem dX11_addRefuge_41 : decode cX11_addRefuge 41 = .ok (.istore 4, 2) := by decide +kernel
theorem dX11_addRefuge_43 : decode cX11_addRefuge 43 = .ok (.aload_n 0, 1) := by decide +kernel
theorem dX11_addRefuge_44 : decode cX11_addRefuge 44 = .ok (.getfield 77, 3) := by decide +kernel
theorem dX11_addRefuge_47 : decode cX11_addRefuge 47 = .ok (.iconst 4, 1) := by decide +kernel
theorem dX11_addRefuge_48 : decode cX11_addRefuge 48 = .ok (.if_icmp .eq 24, 3) := by decide +kernel
theorem dX11_addRefuge_51 : decode cX11_addRefuge 51 = .ok (.aload_n 0, 1) := by decide +kernel
theorem dX11_addRefuge_52 : decode cX11_addRefuge 52 = .ok (.getfield 28, 3) := by decide +kernel
theorem dX11_addRefuge_55 : decode cX11_addRefuge 55 = .ok (.getfield 80, 3) := by decide +kernel
theorem dX11_addRefuge_58 : decode cX11_addRefuge 58 = .ok (.iconst 2, 1) := by decide +kernel
theorem dX11_addRefuge_59 : decode cX11_addRefuge 59 = .ok (.aload_n 0, 1) := by decide +kernel
theorem dX11_addRefuge_60 : decode cX11_addRefuge 60 = .ok (.getfield 77, 3) := by decide +kernel
theorem dX11_addRefuge_63 : decode cX11_addRefuge 63 = .ok (.iload 4, 2) := by decide +kernel
theorem dX11_addRefuge_65 : decode cX11_addRefuge 65 = .ok (.invokestatic 67, 3) := by decide +kernel
theorem dX11_addRefuge_68 : decode cX11_addRefuge 68 = .ok (.iconst (-1), 1) := by decide +kernel
theorem dX11_addRefuge_69 : decode cX11_addRefuge 69 = .ok (.if_icmp .eq 9, 3) := by decide +kernel
theorem dX11_addRefuge_72 : decode cX11_addRefuge 72 = .ok (.aload_n 0, 1) := by decide +kernel
theorem dX11_addRefuge_73 : decode cX11_addRefuge 73 = .ok (.iconst 3, 1) := by decide +kernel
theorem dX11_addRefuge_74 : decode cX11_addRefuge 74 = .ok (.invokevirtual 50, 3) := by decide +kernel
theorem dX11_addRefuge_77 : decode cX11_addRefuge 77 = .ok (.ireturn, 1) := by decide +kernel
theorem dX11_addRefuge_78 : decode cX11_addRefuge 78 = .ok (.aload_n 0, 1) := by decide +kernel
theorem dX11_addRefuge_79 : decode cX11_addRefuge 79 = .ok (.getfield 28, 3) := by decide +kernel
theorem dX11_addRefuge_82 : decode cX11_addRefuge 82 = .ok (.getfield 80, 3) := by decide +kernel
theorem dX11_addRefuge_85 : decode cX11_addRefuge 85 = .ok (.iconst 2, 1) := by decide +kernel
theorem dX11_addRefuge_86 : decode cX11_addRefuge 86 = .ok (.aload_n 0, 1) := by decide +kernel
theorem dX11_addRefuge_87 : decode cX11_addRefuge 87 = .ok (.getfield 77, 3) := by decide +kernel
theorem dX11_addRefuge_90 : decode cX11_addRefuge 90 = .ok (.imul, 1) := by decide +kernel
theorem dX11_addRefuge_91 : decode cX11_addRefuge 91 = .ok (.iload 4, 2) := by decide +kernel
theorem dX11_addRefuge_93 : decode cX11_addRefuge 93 = .ok (.iastore, 1) := by decide +kernel
theorem dX11_addRefuge_94 : decode cX11_addRefuge 94 = .ok (.aload_n 0, 1) := by decide +kernel
theorem dX11_addRefuge_95 : decode cX11_addRefuge 95 = .ok (.getfield 28, 3) := by decide +kernel
theorem dX11_addRefuge_98 : decode cX11_addRefuge 98 = .ok (.getfield 80, 3) := by decide +kernel
theorem dX11_addRefuge_101 : decode cX11_addRefuge 101 = .ok (.iconst 2, 1) := by decide +kernel
theorem dX11_addRefuge_102 : decode cX11_addRefuge 102 = .ok (.aload_n 0, 1) := by decide +kernel
theorem dX11_addRefuge_103 : decode cX11_addRefuge 103 = .ok (.getfield 77, 3) := by decide +kernel
theorem dX11_addRefuge_106 : decode cX11_addRefuge 106 = .ok (.imul, 1) := by decide +kernel
theorem dX11_addRefuge_107 : decode cX11_addRefuge 107 = .ok (.iconst 1, 1) := by decide +kernel
theorem dX11_addRefuge_108 : decode cX11_addRefuge 108 = .ok (.iadd, 1) := by decide +kernel
theorem dX11_addRefuge_109 : decode cX11_addRefuge 109 = .ok (.iload_n 3, 1) := by decide +kernel
theorem dX11_addRefuge_110 : decode cX11_addRefuge 110 = .ok (.iastore, 1) := by decide +kernel
theorem dX11_addRefuge_111 : decode cX11_addRefuge 111 = .ok (.aload_n 0, 1) := by decide +kernel
theorem dX11_addRefuge_112 : decode cX11_addRefuge 112 = .ok (.dup, 1) := by decide +kernel
theorem dX11_addRefuge_113 : decode cX11_addRefuge 113 = .ok (.getfield 77, 3) := by decide +kernel
theorem dX11_addRefuge_116 : decode cX11_addRefuge 116 = .ok (.iconst 1, 1) := by decide +kernel
theorem dX11_addRefuge_117 : decode cX11_addRefuge 117 = .ok (.iadd, 1) := by decide +kernel
theorem dX11_addRefuge_118 : decode cX11_addRefuge 118 = .ok (.putfield 77, 3) := by decide +kernel
theorem dX11_addRefuge_121 : decode cX11_addRefuge 121 = .ok (.aload_n 0, 1) := by decide +kernel
theorem dX11_addRefuge_122 : decode cX11_addRefuge 122 = .ok (.getfield 77, 3) := by decide +kernel
theorem dX11_addRefuge_125 : decode cX11_addRefuge 125 = .ok (.iconst 1, 1) := by decide +kernel
theorem dX11_addRefuge_126 : decode cX11_addRefuge 126 = .ok (.isub, 1) := by decide +kernel
theorem dX11_addRefuge_127 : decode cX11_addRefuge 127 = .ok (.ireturn, 1) := by decide +kernel
theorem dX11_settle_0 : decode cX11_settle 0 = .ok (.aload_n 0, 1) := by decide +kernel
theorem dX11_settle_1 : decode cX11_settle 1 = .ok (.iconst 0, 1) := by decide +kernel
theorem dX11_settle_2 : decode cX11_settle 2 = .ok (.putfield 38, 3) := by decide +kernel
theorem dX11_settle_5 : decode cX11_settle 5 = .ok (.iload_n 1, 1) := by decide +kernel
theorem dX11_settle_6 : decode cX11_settle 6 = .ok (.iload_n 2, 1) := by decide +kernel
theorem dX11_settle_7 : decode cX11_settle 7 = .ok (.invokestatic 46, 3) := by decide +kernel
theorem dX11_settle_10 : decode cX11_settle 10 = .ok (.ifCond .ne 9, 3) := by decide +kernel
theorem dX11_settle_13 : decode cX11_settle 13 = .ok (.aload_n 0, 1) := by decide +kernel
theorem dX11_settle_14 : decode cX11_settle 14 = .ok (.iconst 1, 1) := by decide +kernel
theorem dX11_settle_15 : decode cX11_settle 15 = .ok (.invokevirtual 50, 3) := by decide +kernel
theorem dX11_settle_18 : decode cX11_settle 18 = .ok (.ireturn, 1) := by decide +kernel
theorem dX11_settle_19 : decode cX11_settle 19 = .ok (.iload_n 3, 1) := by decide +kernel
theorem dX11_settle_20 : decode cX11_settle 20 = .ok (.iconst 1, 1) := by decide +kernel
theorem dX11_settle_21 : decode cX11_settle 21 = .ok (.bipush 6, 2) := by decide +kernel
theorem dX11_settle_23 : decode cX11_settle 23 = .ok (.invokestatic 42, 3) := by decide +kernel
theorem dX11_settle_26 : decode cX11_settle 26 = .ok (.ifCond .ne 9, 3) := by decide +kernel
theorem dX11_settle_29 : decode cX11_settle 29 = .ok (.aload_n 0, 1) := by decide +kernel
theorem dX11_settle_30 : decode cX11_settle 30 = .ok (.iconst 2, 1) := by decide +kernel
theorem dX11_settle_31 : decode cX11_settle 31 = .ok (.invokevirtual 50, 3) := by decide +kernel
theorem dX11_settle_34 : decode cX11_settle 34 = .ok (.ireturn, 1) := by decide +kernel
theorem dX11_settle_35 : decode cX11_settle 35 = .ok (.aload_n 0, 1) := by decide +kernel
theorem dX11_settle_36 : decode cX11_settle 36 = .ok (.getfield 83, 3) := by decide +kernel
theorem dX11_settle_39 : decode cX11_settle 39 = .ok (.bipush 10, 2) := by decide +kernel
theorem dX11_settle_41 : decode cX11_settle 41 = .ok (.if_icmp .ne 9, 3) := by decide +kernel
theorem dX11_settle_44 : decode cX11_settle 44 = .ok (.aload_n 0, 1) := by decide +kernel
theorem dX11_settle_45 : decode cX11_settle 45 = .ok (.iconst 3, 1) := by decide +kernel
theorem dX11_settle_46 : decode cX11_settle 46 = .ok (.invokevirtual 50, 3) := by decide +kernel
theorem dX11_settle_49 : decode cX11_settle 49 = .ok (.ireturn, 1) := by decide +kernel
theorem dX11_settle_50 : decode cX11_settle 50 = .ok (.iconst 4, 1) := by decide +kernel
theorem dX11_settle_51 : decode cX11_settle 51 = .ok (.aload_n 0, 1) := by decide +kernel
theorem dX11_settle_52 : decode cX11_settle 52 = .ok (.getfield 83, 3) := by decide +kernel
theorem dX11_settle_55 : decode cX11_settle 55 = .ok (.imul, 1) := by decide +kernel
theorem dX11_settle_56 : decode cX11_settle 56 = .ok (.istore 4, 2) := by decide +kernel
theorem dX11_settle_58 : decode cX11_settle 58 = .ok (.aload_n 0, 1) := by decide +kernel
theorem dX11_settle_59 : decode cX11_settle 59 = .ok (.getfield 28, 3) := by decide +kernel
theorem dX11_settle_62 : decode cX11_settle 62 = .ok (.getfield 86, 3) := by decide +kernel
theorem dX11_settle_65 : decode cX11_settle 65 = .ok (.iload 4, 2) := by decide +kernel
theorem dX11_settle_67 : decode cX11_settle 67 = .ok (.bipush 10, 2) := by decide +kernel
theorem dX11_settle_69 : decode cX11_settle 69 = .ok (.iload_n 2, 1) := by decide +kernel
theorem dX11_settle_70 : decode cX11_settle 70 = .ok (.imul, 1) := by decide +kernel
theorem dX11_settle_71 : decode cX11_settle 71 = .ok (.iload_n 1, 1) := by decide +kernel
theorem dX11_settle_72 : decode cX11_settle 72 = .ok (.iadd, 1) := by decide +kernel
theorem dX11_settle_73 : decode cX11_settle 73 = .ok (.iastore, 1) := by decide +kernel
theorem dX11_settle_74 : decode cX11_settle 74 = .ok (.aload_n 0, 1) := by decide +kernel
theorem dX11_settle_75 : decode cX11_settle 75 = .ok (.getfield 28, 3) := by decide +kernel
theorem dX11_settle_78 : decode cX11_settle 78 = .ok (.getfield 86, 3) := by decide +kernel
theorem dX11_settle_81 : decode cX11_settle 81 = .ok (.iload 4, 2) := by decide +kernel
theorem dX11_settle_83 : decode cX11_settle 83 = .ok (.iconst 1, 1) := by decide +kernel
theorem dX11_settle_84 : decode cX11_settle 84 = .ok (.iadd, 1) := by decide +kernel
theorem dX11_settle_85 : decode cX11_settle 85 = .ok (.iload_n 3, 1) := by decide +kernel
theorem dX11_settle_86 : decode cX11_settle 86 = .ok (.iastore, 1) := by decide +kernel
theorem dX11_settle_87 : decode cX11_settle 87 = .ok (.aload_n 0, 1) := by decide +kernel
theorem dX11_settle_88 : decode cX11_settle 88 = .ok (.getfield 28, 3) := by decide +kernel
theorem dX11_settle_91 : decode cX11_settle 91 = .ok (.getfield 86, 3) := by decide +kernel
theorem dX11_settle_94 : decode cX11_settle 94 = .ok (.iload 4, 2) := by decide +kernel
theorem dX11_settle_96 : decode cX11_settle 96 = .ok (.iconst 2, 1) := by decide +kernel
theorem dX11_settle_97 : decode cX11_settle 97 = .ok (.iadd, 1) := by decide +kernel
theorem dX11_settle_98 : decode cX11_settle 98 = .ok (.iconst 0, 1) := by decide +kernel
theorem dX11_settle_99 : decode cX11_settle 99 = .ok (.iastore, 1) := by decide +kernel
theorem dX11_settle_100 : decode cX11_settle 100 = .ok (.aload_n 0, 1) := by decide +kernel
theorem dX11_settle_101 : decode cX11_settle 101 = .ok (.getfield 28, 3) := by decide +kernel
theorem dX11_settle_104 : decode cX11_settle 104 = .ok (.getfield 86, 3) := by decide +kernel
theorem dX11_settle_107 : decode cX11_settle 107 = .ok (.iload 4, 2) := by decide +kernel
theorem dX11_settle_109 : decode cX11_settle 109 = .ok (.iconst 3, 1) := by decide +kernel
theorem dX11_settle_110 : decode cX11_settle 110 = .ok (.iadd, 1) := by decide +kernel
theorem dX11_settle_111 : decode cX11_settle 111 = .ok (.iconst (-1), 1) := by decide +kernel
theorem dX11_settle_112 : decode cX11_settle 112 = .ok (.iastore, 1) := by decide +kernel
theorem dX11_settle_113 : decode cX11_settle 113 = .ok (.aload_n 0, 1) := by decide +kernel
theorem dX11_settle_114 : decode cX11_settle 114 = .ok (.dup, 1) := by decide +kernel
theorem dX11_settle_115 : decode cX11_settle 115 = .ok (.getfield 83, 3) := by decide +kernel
theorem dX11_settle_118 : decode cX11_settle 118 = .ok (.iconst 1, 1) := by decide +kernel
theorem dX11_settle_119 : decode cX11_settle 119 = .ok (.iadd, 1) := by decide +kernel
theorem dX11_settle_120 : decode cX11_settle 120 = .ok (.putfield 83, 3) := by decide +kernel
theorem dX11_settle_123 : decode cX11_settle 123 = .ok (.aload_n 0, 1) := by decide +kernel
theorem dX11_settle_124 : decode cX11_settle 124 = .ok (.getfield 83, 3) := by decide +kernel
theorem dX11_settle_127 : decode cX11_settle 127 = .ok (.iconst 1, 1) := by decide +kernel
theorem dX11_settle_128 : decode cX11_settle 128 = .ok (.isub, 1) := by decide +kernel
theorem dX11_settle_129 : decode cX11_settle 129 = .ok (.ireturn, 1) := by decide +kernel
theorem dX11_addCaller_0 : decode cX11_addCaller 0 = .ok (.aload_n 0, 1) := by decide +kernel
theorem dX11_addCaller_1 : decode cX11_addCaller 1 = .ok (.iconst 0, 1) := by decide +kernel
theorem dX11_addCaller_2 : decode cX11_addCaller 2 = .ok (.putfield 38, 3) := by decide +kernel
theorem dX11_addCaller_5 : decode cX11_addCaller 5 = .ok (.iload_n 1, 1) := by decide +kernel
theorem dX11_addCaller_6 : decode cX11_addCaller 6 = .ok (.iload_n 2, 1) := by decide +kernel
theorem dX11_addCaller_7 : decode cX11_addCaller 7 = .ok (.invokestatic 46, 3) := by decide +kernel
theorem dX11_addCaller_10 : decode cX11_addCaller 10 = .ok (.ifCond .ne 9, 3) := by decide +kernel
theorem dX11_addCaller_13 : decode cX11_addCaller 13 = .ok (.aload_n 0, 1) := by decide +kernel
theorem dX11_addCaller_14 : decode cX11_addCaller 14 = .ok (.iconst 1, 1) := by decide +kernel
theorem dX11_addCaller_15 : decode cX11_addCaller 15 = .ok (.invokevirtual 50, 3) := by decide +kernel
theorem dX11_addCaller_18 : decode cX11_addCaller 18 = .ok (.ireturn, 1) := by decide +kernel
theorem dX11_addCaller_19 : decode cX11_addCaller 19 = .ok (.aload_n 0, 1) := by decide +kernel
theorem dX11_addCaller_20 : decode cX11_addCaller 20 = .ok (.getfield 89, 3) := by decide +kernel
theorem dX11_addCaller_23 : decode cX11_addCaller 23 = .ok (.iconst 3, 1) := by decide +kernel
theorem dX11_addCaller_24 : decode cX11_addCaller 24 = .ok (.if_icmp .ne 9, 3) := by decide +kernel
theorem dX11_addCaller_27 : decode cX11_addCaller 27 = .ok (.aload_n 0, 1) := by decide +kernel
theorem dX11_addCaller_28 : decode cX11_addCaller 28 = .ok (.iconst 2, 1) := by decide +kernel
theorem dX11_addCaller_29 : decode cX11_addCaller 29 = .ok (.invokevirtual 50, 3) := by decide +kernel
theorem dX11_addCaller_32 : decode cX11_addCaller 32 = .ok (.ireturn, 1) := by decide +kernel
theorem dX11_addCaller_33 : decode cX11_addCaller 33 = .ok (.aload_n 0, 1) := by decide +kernel
theorem dX11_addCaller_34 : decode cX11_addCaller 34 = .ok (.getfield 28, 3) := by decide +kernel
theorem dX11_addCaller_37 : decode cX11_addCaller 37 = .ok (.getfield 92, 3) := by decide +kernel
theorem dX11_addCaller_40 : decode cX11_addCaller 40 = .ok (.iconst 2, 1) := by decide +kernel
theorem dX11_addCaller_41 : decode cX11_addCaller 41 = .ok (.aload_n 0, 1) := by decide +kernel
theorem dX11_addCaller_42 : decode cX11_addCaller 42 = .ok (.getfield 89, 3) := by decide +kernel
theorem dX11_addCaller_45 : decode cX11_addCaller 45 = .ok (.imul, 1) := by decide +kernel
theorem dX11_addCaller_46 : decode cX11_addCaller 46 = .ok (.bipush 10, 2) := by decide +kernel
theorem dX11_addCaller_48 : decode cX11_addCaller 48 = .ok (.iload_n 2, 1) := by decide +kernel
theorem dX11_addCaller_49 : decode cX11_addCaller 49 = .ok (.imul, 1) := by decide +kernel
theorem dX11_addCaller_50 : decode cX11_addCaller 50 = .ok (.iload_n 1, 1) := by decide +kernel
theorem dX11_addCaller_51 : decode cX11_addCaller 51 = .ok (.iadd, 1) := by decide +kernel
theorem dX11_addCaller_52 : decode cX11_addCaller 52 = .ok (.iastore, 1) := by decide +kernel
theorem dX11_addCaller_53 : decode cX11_addCaller 53 = .ok (.aload_n 0, 1) := by decide +kernel
theorem dX11_addCaller_54 : decode cX11_addCaller 54 = .ok (.getfield 28, 3) := by decide +kernel
theorem dX11_addCaller_57 : decode cX11_addCaller 57 = .ok (.getfield 92, 3) := by decide +kernel
theorem dX11_addCaller_60 : decode cX11_addCaller 60 = .ok (.iconst 2, 1) := by decide +kernel
theorem dX11_addCaller_61 : decode cX11_addCaller 61 = .ok (.aload_n 0, 1) := by decide +kernel
theorem dX11_addCaller_62 : decode cX11_addCaller 62 = .ok (.getfield 89, 3) := by decide +kernel
theorem dX11_addCaller_65 : decode cX11_addCaller 65 = .ok (.imul, 1) := by decide +kernel
theorem dX11_addCaller_66 : decode cX11_addCaller 66 = .ok (.iconst 1, 1) := by decide +kernel
theorem dX11_addCaller_67 : decode cX11_addCaller 67 = .ok (.iadd, 1) := by decide +kernel
theorem dX11_addCaller_68 : decode cX11_addCaller 68 = .ok (.iconst 0, 1) := by decide +kernel
theorem dX11_addCaller_69 : decode cX11_addCaller 69 = .ok (.iastore, 1) := by decide +kernel
theorem dX11_addCaller_70 : decode cX11_addCaller 70 = .ok (.aload_n 0, 1) := by decide +kernel
theorem dX11_addCaller_71 : decode cX11_addCaller 71 = .ok (.dup, 1) := by decide +kernel
theorem dX11_addCaller_72 : decode cX11_addCaller 72 = .ok (.getfield 89, 3) := by decide +kernel
theorem dX11_addCaller_75 : decode cX11_addCaller 75 = .ok (.iconst 1, 1) := by decide +kernel
theorem dX11_addCaller_76 : decode cX11_addCaller 76 = .ok (.iadd, 1) := by decide +kernel
theorem dX11_addCaller_77 : decode cX11_addCaller 77 = .ok (.putfield 89, 3) := by decide +kernel
theorem dX11_addCaller_80 : decode cX11_addCaller 80 = .ok (.aload_n 0, 1) := by decide +kernel
theorem dX11_addCaller_81 : decode cX11_addCaller 81 = .ok (.getfield 89, 3) := by decide +kernel
theorem dX11_addCaller_84 : decode cX11_addCaller 84 = .ok (.iconst 1, 1) := by decide +kernel
theorem dX11_addCaller_85 : decode cX11_addCaller 85 = .ok (.isub, 1) := by decide +kernel
theorem dX11_addCaller_86 : decode cX11_addCaller 86 = .ok (.ireturn, 1) := by decide +kernel
theorem dX11_reckon_0 : decode cX11_reckon 0 = .ok (.iconst 0, 1) := by decide +kernel
theorem dX11_reckon_1 : decode cX11_reckon 1 = .ok (.istore_n 3, 1) := by decide +kernel
theorem dX11_reckon_2 : decode cX11_reckon 2 = .ok (.iload_n 3, 1) := by decide +kernel
theorem dX11_reckon_3 : decode cX11_reckon 3 = .ok (.bipush 80, 2) := by decide +kernel
theorem dX11_reckon_5 : decode cX11_reckon 5 = .ok (.if_icmp .ge 16, 3) := by decide +kernel
theorem dX11_reckon_8 : decode cX11_reckon 8 = .ok (.aload_n 0, 1) := by decide +kernel
theorem dX11_reckon_9 : decode cX11_reckon 9 = .ok (.getfield 13, 3) := by decide +kernel
