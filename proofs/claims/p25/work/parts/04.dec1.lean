theorem dX8_goOnFrom_99 : decode cX8_goOnFrom 99 = .ok (.iload 4, 2) := by decide +kernel
theorem dX8_goOnFrom_101 : decode cX8_goOnFrom 101 = .ok (.iastore, 1) := by decide +kernel
theorem dX8_goOnFrom_102 : decode cX8_goOnFrom 102 = .ok (.aload_n 0, 1) := by decide +kernel
theorem dX8_goOnFrom_103 : decode cX8_goOnFrom 103 = .ok (.dup, 1) := by decide +kernel
theorem dX8_goOnFrom_104 : decode cX8_goOnFrom 104 = .ok (.getfield 21, 3) := by decide +kernel
theorem dX8_goOnFrom_107 : decode cX8_goOnFrom 107 = .ok (.iconst 1, 1) := by decide +kernel
theorem dX8_goOnFrom_108 : decode cX8_goOnFrom 108 = .ok (.iadd, 1) := by decide +kernel
theorem dX8_goOnFrom_109 : decode cX8_goOnFrom 109 = .ok (.putfield 21, 3) := by decide +kernel
theorem dX8_goOnFrom_112 : decode cX8_goOnFrom 112 = .ok (.iinc 3 1, 3) := by decide +kernel
theorem dX8_goOnFrom_115 : decode cX8_goOnFrom 115 = .ok (.goto (-113), 3) := by decide +kernel
theorem dX8_goOnFrom_118 : decode cX8_goOnFrom 118 = .ok (.return_, 1) := by decide +kernel
theorem dX8_isNearer_0 : decode cX8_isNearer 0 = .ok (.aload_n 0, 1) := by decide +kernel
theorem dX8_isNearer_1 : decode cX8_isNearer 1 = .ok (.getfield 9, 3) := by decide +kernel
theorem dX8_isNearer_4 : decode cX8_isNearer 4 = .ok (.iload_n 1, 1) := by decide +kernel
theorem dX8_isNearer_5 : decode cX8_isNearer 5 = .ok (.iaload, 1) := by decide +kernel
theorem dX8_isNearer_6 : decode cX8_isNearer 6 = .ok (.iconst (-1), 1) := by decide +kernel
theorem dX8_isNearer_7 : decode cX8_isNearer 7 = .ok (.if_icmp .eq 27, 3) := by decide +kernel
theorem dX8_isNearer_10 : decode cX8_isNearer 10 = .ok (.iload_n 2, 1) := by decide +kernel
theorem dX8_isNearer_11 : decode cX8_isNearer 11 = .ok (.iconst (-1), 1) := by decide +kernel
theorem dX8_isNearer_12 : decode cX8_isNearer 12 = .ok (.if_icmp .eq 18, 3) := by decide +kernel
theorem dX8_isNearer_15 : decode cX8_isNearer 15 = .ok (.aload_n 0, 1) := by decide +kernel
theorem dX8_isNearer_16 : decode cX8_isNearer 16 = .ok (.getfield 9, 3) := by decide +kernel
theorem dX8_isNearer_19 : decode cX8_isNearer 19 = .ok (.iload_n 1, 1) := by decide +kernel
theorem dX8_isNearer_20 : decode cX8_isNearer 20 = .ok (.iaload, 1) := by decide +kernel
theorem dX8_isNearer_21 : decode cX8_isNearer 21 = .ok (.aload_n 0, 1) := by decide +kernel
theorem dX8_isNearer_22 : decode cX8_isNearer 22 = .ok (.getfield 9, 3) := by decide +kernel
theorem dX8_isNearer_25 : decode cX8_isNearer 25 = .ok (.iload_n 2, 1) := by decide +kernel
theorem dX8_isNearer_26 : decode cX8_isNearer 26 = .ok (.iaload, 1) := by decide +kernel
theorem dX8_isNearer_27 : decode cX8_isNearer 27 = .ok (.if_icmp .ge 7, 3) := by decide +kernel
theorem dX8_isNearer_30 : decode cX8_isNearer 30 = .ok (.iconst 1, 1) := by decide +kernel
theorem dX8_isNearer_31 : decode cX8_isNearer 31 = .ok (.goto 4, 3) := by decide +kernel
theorem dX8_isNearer_34 : decode cX8_isNearer 34 = .ok (.iconst 0, 1) := by decide +kernel
theorem dX8_isNearer_35 : decode cX8_isNearer 35 = .ok (.ireturn, 1) := by decide +kernel
theorem dX9_init_0 : decode cX9_init 0 = .ok (.aload_n 0, 1) := by decide +kernel
theorem dX9_init_1 : decode cX9_init 1 = .ok (.invokespecial 1, 3) := by decide +kernel
theorem dX9_init_4 : decode cX9_init 4 = .ok (.aload_n 0, 1) := by decide +kernel
theorem dX9_init_5 : decode cX9_init 5 = .ok (.new 7, 3) := by decide +kernel
theorem dX9_init_8 : decode cX9_init 8 = .ok (.dup, 1) := by decide +kernel
theorem dX9_init_9 : decode cX9_init 9 = .ok (.invokespecial 9, 3) := by decide +kernel
theorem dX9_init_12 : decode cX9_init 12 = .ok (.putfield 10, 3) := by decide +kernel
theorem dX9_init_15 : decode cX9_init 15 = .ok (.aload_n 0, 1) := by decide +kernel
theorem dX9_init_16 : decode cX9_init 16 = .ok (.new 7, 3) := by decide +kernel
theorem dX9_init_19 : decode cX9_init 19 = .ok (.dup, 1) := by decide +kernel
theorem dX9_init_20 : decode cX9_init 20 = .ok (.invokespecial 9, 3) := by decide +kernel
theorem dX9_init_23 : decode cX9_init 23 = .ok (.putfield 16, 3) := by decide +kernel
theorem dX9_init_26 : decode cX9_init 26 = .ok (.return_, 1) := by decide +kernel
theorem dX9_setGround_0 : decode cX9_setGround 0 = .ok (.iload_n 1, 1) := by decide +kernel
theorem dX9_setGround_1 : decode cX9_setGround 1 = .ok (.iload_n 2, 1) := by decide +kernel
theorem dX9_setGround_2 : decode cX9_setGround 2 = .ok (.invokestatic 19, 3) := by decide +kernel
theorem dX9_setGround_5 : decode cX9_setGround 5 = .ok (.iload_n 3, 1) := by decide +kernel
theorem dX9_setGround_6 : decode cX9_setGround 6 = .ok (.iconst 0, 1) := by decide +kernel
theorem dX9_setGround_7 : decode cX9_setGround 7 = .ok (.bipush 9, 2) := by decide +kernel
theorem dX9_setGround_9 : decode cX9_setGround 9 = .ok (.invokestatic 23, 3) := by decide +kernel
theorem dX9_setGround_12 : decode cX9_setGround 12 = .ok (.invokestatic 27, 3) := by decide +kernel
theorem dX9_setGround_15 : decode cX9_setGround 15 = .ok (.iload_n 1, 1) := by decide +kernel
theorem dX9_setGround_16 : decode cX9_setGround 16 = .ok (.iload_n 2, 1) := by decide +kernel
theorem dX9_setGround_17 : decode cX9_setGround 17 = .ok (.invokestatic 31, 3) := by decide +kernel
theorem dX9_setGround_20 : decode cX9_setGround 20 = .ok (.istore 4, 2) := by decide +kernel
theorem dX9_setGround_22 : decode cX9_setGround 22 = .ok (.aload_n 0, 1) := by decide +kernel
theorem dX9_setGround_23 : decode cX9_setGround 23 = .ok (.getfield 10, 3) := by decide +kernel
theorem dX9_setGround_26 : decode cX9_setGround 26 = .ok (.getfield 35, 3) := by decide +kernel
theorem dX9_setGround_29 : decode cX9_setGround 29 = .ok (.getfield 39, 3) := by decide +kernel
theorem dX9_setGround_32 : decode cX9_setGround 32 = .ok (.iload 4, 2) := by decide +kernel
theorem dX9_setGround_34 : decode cX9_setGround 34 = .ok (.iaload, 1) := by decide +kernel
theorem dX9_setGround_35 : decode cX9_setGround 35 = .ok (.istore 5, 2) := by decide +kernel
theorem dX9_setGround_37 : decode cX9_setGround 37 = .ok (.aload_n 0, 1) := by decide +kernel
theorem dX9_setGround_38 : decode cX9_setGround 38 = .ok (.getfield 10, 3) := by decide +kernel
theorem dX9_setGround_41 : decode cX9_setGround 41 = .ok (.getfield 35, 3) := by decide +kernel
theorem dX9_setGround_44 : decode cX9_setGround 44 = .ok (.getfield 39, 3) := by decide +kernel
theorem dX9_setGround_47 : decode cX9_setGround 47 = .ok (.iload 4, 2) := by decide +kernel
theorem dX9_setGround_49 : decode cX9_setGround 49 = .ok (.iload_n 3, 1) := by decide +kernel
theorem dX9_setGround_50 : decode cX9_setGround 50 = .ok (.iastore, 1) := by decide +kernel
theorem dX9_setGround_51 : decode cX9_setGround 51 = .ok (.iload 5, 2) := by decide +kernel
theorem dX9_setGround_53 : decode cX9_setGround 53 = .ok (.ireturn, 1) := by decide +kernel
theorem dX9_lay_0 : decode cX9_lay 0 = .ok (.iload_n 1, 1) := by decide +kernel
theorem dX9_lay_1 : decode cX9_lay 1 = .ok (.iload_n 2, 1) := by decide +kernel
theorem dX9_lay_2 : decode cX9_lay 2 = .ok (.invokestatic 19, 3) := by decide +kernel
theorem dX9_lay_5 : decode cX9_lay 5 = .ok (.iload_n 3, 1) := by decide +kernel
theorem dX9_lay_6 : decode cX9_lay 6 = .ok (.iconst 0, 1) := by decide +kernel
theorem dX9_lay_7 : decode cX9_lay 7 = .ok (.iconst 5, 1) := by decide +kernel
theorem dX9_lay_8 : decode cX9_lay 8 = .ok (.invokestatic 23, 3) := by decide +kernel
theorem dX9_lay_11 : decode cX9_lay 11 = .ok (.invokestatic 27, 3) := by decide +kernel
theorem dX9_lay_14 : decode cX9_lay 14 = .ok (.iload_n 1, 1) := by decide +kernel
theorem dX9_lay_15 : decode cX9_lay 15 = .ok (.iload_n 2, 1) := by decide +kernel
theorem dX9_lay_16 : decode cX9_lay 16 = .ok (.invokestatic 31, 3) := by decide +kernel
theorem dX9_lay_19 : decode cX9_lay 19 = .ok (.istore 4, 2) := by decide +kernel
theorem dX9_lay_21 : decode cX9_lay 21 = .ok (.aload_n 0, 1) := by decide +kernel
theorem dX9_lay_22 : decode cX9_lay 22 = .ok (.getfield 10, 3) := by decide +kernel
theorem dX9_lay_25 : decode cX9_lay 25 = .ok (.getfield 35, 3) := by decide +kernel
theorem dX9_lay_28 : decode cX9_lay 28 = .ok (.invokevirtual 45, 3) := by decide +kernel
theorem dX9_lay_31 : decode cX9_lay 31 = .ok (.aload_n 0, 1) := by decide +kernel
theorem dX9_lay_32 : decode cX9_lay 32 = .ok (.getfield 10, 3) := by decide +kernel
theorem dX9_lay_35 : decode cX9_lay 35 = .ok (.getfield 35, 3) := by decide +kernel
theorem dX9_lay_38 : decode cX9_lay 38 = .ok (.getfield 49, 3) := by decide +kernel
theorem dX9_lay_41 : decode cX9_lay 41 = .ok (.iload 4, 2) := by decide +kernel
theorem dX9_lay_43 : decode cX9_lay 43 = .ok (.iaload, 1) := by decide +kernel
theorem dX9_lay_44 : decode cX9_lay 44 = .ok (.isub, 1) := by decide +kernel
theorem dX9_lay_45 : decode cX9_lay 45 = .ok (.iload_n 3, 1) := by decide +kernel
theorem dX9_lay_46 : decode cX9_lay 46 = .ok (.iadd, 1) := by decide +kernel
theorem dX9_lay_47 : decode cX9_lay 47 = .ok (.istore 5, 2) := by decide +kernel
theorem dX9_lay_49 : decode cX9_lay 49 = .ok (.iload 5, 2) := by decide +kernel
theorem dX9_lay_51 : decode cX9_lay 51 = .ok (.bipush 40, 2) := by decide +kernel
theorem dX9_lay_53 : decode cX9_lay 53 = .ok (.if_icmp .gt 7, 3) := by decide +kernel
theorem dX9_lay_56 : decode cX9_lay 56 = .ok (.iconst 1, 1) := by decide +kernel
theorem dX9_lay_57 : decode cX9_lay 57 = .ok (.goto 4, 3) := by decide +kernel
theorem dX9_lay_60 : decode cX9_lay 60 = .ok (.iconst 0, 1) := by decide +kernel
theorem dX9_lay_61 : decode cX9_lay 61 = .ok (.invokestatic 52, 3) := by decide +kernel
theorem dX9_lay_64 : decode cX9_lay 64 = .ok (.aload_n 0, 1) := by decide +kernel
theorem dX9_lay_65 : decode cX9_lay 65 = .ok (.getfield 10, 3) := by decide +kernel
theorem dX9_lay_68 : decode cX9_lay 68 = .ok (.getfield 35, 3) := by decide +kernel
theorem dX9_lay_71 : decode cX9_lay 71 = .ok (.getfield 49, 3) := by decide +kernel
theorem dX9_lay_74 : decode cX9_lay 74 = .ok (.iload 4, 2) := by decide +kernel
theorem dX9_lay_76 : decode cX9_lay 76 = .ok (.iload_n 3, 1) := by decide +kernel
theorem dX9_lay_77 : decode cX9_lay 77 = .ok (.iastore, 1) := by decide +kernel
theorem dX9_lay_78 : decode cX9_lay 78 = .ok (.iload 5, 2) := by decide +kernel
theorem dX9_lay_80 : decode cX9_lay 80 = .ok (.ireturn, 1) := by decide +kernel
theorem dX9_setRiver_0 : decode cX9_setRiver 0 = .ok (.iload_n 1, 1) := by decide +kernel
theorem dX9_setRiver_1 : decode cX9_setRiver 1 = .ok (.iconst 0, 1) := by decide +kernel
theorem dX9_setRiver_2 : decode cX9_setRiver 2 = .ok (.bipush 11, 2) := by decide +kernel
theorem dX9_setRiver_4 : decode cX9_setRiver 4 = .ok (.invokestatic 23, 3) := by decide +kernel
theorem dX9_setRiver_7 : decode cX9_setRiver 7 = .ok (.invokestatic 55, 3) := by decide +kernel
theorem dX9_setRiver_10 : decode cX9_setRiver 10 = .ok (.iload_n 2, 1) := by decide +kernel
theorem dX9_setRiver_11 : decode cX9_setRiver 11 = .ok (.iconst 0, 1) := by decide +kernel
theorem dX9_setRiver_12 : decode cX9_setRiver 12 = .ok (.bipush 12, 2) := by decide +kernel
theorem dX9_setRiver_14 : decode cX9_setRiver 14 = .ok (.invokestatic 23, 3) := by decide +kernel
theorem dX9_setRiver_17 : decode cX9_setRiver 17 = .ok (.invokestatic 27, 3) := by decide +kernel
theorem dX9_setRiver_20 : decode cX9_setRiver 20 = .ok (.aload_n 0, 1) := by decide +kernel
theorem dX9_setRiver_21 : decode cX9_setRiver 21 = .ok (.getfield 10, 3) := by decide +kernel
theorem dX9_setRiver_24 : decode cX9_setRiver 24 = .ok (.getfield 35, 3) := by decide +kernel
theorem dX9_setRiver_27 : decode cX9_setRiver 27 = .ok (.getfield 58, 3) := by decide +kernel
theorem dX9_setRiver_30 : decode cX9_setRiver 30 = .ok (.iload_n 1, 1) := by decide +kernel
theorem dX9_setRiver_31 : decode cX9_setRiver 31 = .ok (.iaload, 1) := by decide +kernel
theorem dX9_setRiver_32 : decode cX9_setRiver 32 = .ok (.istore_n 3, 1) := by decide +kernel
theorem dX9_setRiver_33 : decode cX9_setRiver 33 = .ok (.aload_n 0, 1) := by decide +kernel
theorem dX9_setRiver_34 : decode cX9_setRiver 34 = .ok (.getfield 10, 3) := by decide +kernel
theorem dX9_setRiver_37 : decode cX9_setRiver 37 = .ok (.getfield 35, 3) := by decide +kernel
theorem dX9_setRiver_40 : decode cX9_setRiver 40 = .ok (.getfield 58, 3) := by decide +kernel
theorem dX9_setRiver_43 : decode cX9_setRiver 43 = .ok (.iload_n 1, 1) := by decide +kernel
theorem dX9_setRiver_44 : decode cX9_setRiver 44 = .ok (.iload_n 2, 1) := by decide +kernel
theorem dX9_setRiver_45 : decode cX9_setRiver 45 = .ok (.iastore, 1) := by decide +kernel
theorem dX9_setRiver_46 : decode cX9_setRiver 46 = .ok (.iload_n 3, 1) := by decide +kernel
theorem dX9_setRiver_47 : decode cX9_setRiver 47 = .ok (.ireturn, 1) := by decide +kernel
theorem dX9_addPump_0 : decode cX9_addPump 0 = .ok (.iload_n 1, 1) := by decide +kernel
theorem dX9_addPump_1 : decode cX9_addPump 1 = .ok (.iload_n 2, 1) := by decide +kernel
theorem dX9_addPump_2 : decode cX9_addPump 2 = .ok (.invokestatic 19, 3) := by decide +kernel
theorem dX9_addPump_5 : decode cX9_addPump 5 = .ok (.iload_n 3, 1) := by decide +kernel
theorem dX9_addPump_6 : decode cX9_addPump 6 = .ok (.iconst 1, 1) := by decide +kernel
theorem dX9_addPump_7 : decode cX9_addPump 7 = .ok (.iconst 5, 1) := by decide +kernel
theorem dX9_addPump_8 : decode cX9_addPump 8 = .ok (.invokestatic 23, 3) := by decide +kernel
theorem dX9_addPump_11 : decode cX9_addPump 11 = .ok (.ifCond .eq 18, 3) := by decide +kernel
theorem dX9_addPump_14 : decode cX9_addPump 14 = .ok (.iload 4, 2) := by decide +kernel
theorem dX9_addPump_16 : decode cX9_addPump 16 = .ok (.iconst 0, 1) := by decide +kernel
theorem dX9_addPump_17 : decode cX9_addPump 17 = .ok (.bipush 30, 2) := by decide +kernel
theorem dX9_addPump_19 : decode cX9_addPump 19 = .ok (.invokestatic 23, 3) := by decide +kernel
theorem dX9_addPump_22 : decode cX9_addPump 22 = .ok (.ifCond .eq 7, 3) := by decide +kernel
theorem dX9_addPump_25 : decode cX9_addPump 25 = .ok (.iconst 1, 1) := by decide +kernel
theorem dX9_addPump_26 : decode cX9_addPump 26 = .ok (.goto 4, 3) := by decide +kernel
theorem dX9_addPump_29 : decode cX9_addPump 29 = .ok (.iconst 0, 1) := by decide +kernel
theorem dX9_addPump_30 : decode cX9_addPump 30 = .ok (.invokestatic 27, 3) := by decide +kernel
theorem dX9_addPump_33 : decode cX9_addPump 33 = .ok (.aload_n 0, 1) := by decide +kernel
theorem dX9_addPump_34 : decode cX9_addPump 34 = .ok (.getfield 10, 3) := by decide +kernel
theorem dX9_addPump_37 : decode cX9_addPump 37 = .ok (.getfield 61, 3) := by decide +kernel
theorem dX9_addPump_40 : decode cX9_addPump 40 = .ok (.iload_n 1, 1) := by decide +kernel
theorem dX9_addPump_41 : decode cX9_addPump 41 = .ok (.iload_n 2, 1) := by decide +kernel
theorem dX9_addPump_42 : decode cX9_addPump 42 = .ok (.invokestatic 31, 3) := by decide +kernel
theorem dX9_addPump_45 : decode cX9_addPump 45 = .ok (.invokevirtual 65, 3) := by decide +kernel
theorem dX9_addPump_48 : decode cX9_addPump 48 = .ok (.invokestatic 52, 3) := by decide +kernel
theorem dX9_addPump_51 : decode cX9_addPump 51 = .ok (.aload_n 0, 1) := by decide +kernel
theorem dX9_addPump_52 : decode cX9_addPump 52 = .ok (.getfield 10, 3) := by decide +kernel
theorem dX9_addPump_55 : decode cX9_addPump 55 = .ok (.getfield 61, 3) := by decide +kernel
theorem dX9_addPump_58 : decode cX9_addPump 58 = .ok (.iload_n 1, 1) := by decide +kernel
theorem dX9_addPump_59 : decode cX9_addPump 59 = .ok (.iload_n 2, 1) := by decide +kernel
theorem dX9_addPump_60 : decode cX9_addPump 60 = .ok (.invokestatic 31, 3) := by decide +kernel
theorem dX9_addPump_63 : decode cX9_addPump 63 = .ok (.iload_n 3, 1) := by decide +kernel
theorem dX9_addPump_64 : decode cX9_addPump 64 = .ok (.iload 4, 2) := by decide +kernel
theorem dX9_addPump_66 : decode cX9_addPump 66 = .ok (.invokevirtual 71, 3) := by decide +kernel
theorem dX9_addPump_69 : decode cX9_addPump 69 = .ok (.ireturn, 1) := by decide +kernel
theorem dX9_addGauge_0 : decode cX9_addGauge 0 = .ok (.iload_n 1, 1) := by decide +kernel
theorem dX9_addGauge_1 : decode cX9_addGauge 1 = .ok (.iload_n 2, 1) := by decide +kernel
theorem dX9_addGauge_2 : decode cX9_addGauge 2 = .ok (.invokestatic 19, 3) := by decide +kernel
theorem dX9_addGauge_5 : decode cX9_addGauge 5 = .ok (.iload_n 3, 1) := by decide +kernel
theorem dX9_addGauge_6 : decode cX9_addGauge 6 = .ok (.iconst 1, 1) := by decide +kernel
theorem dX9_addGauge_7 : decode cX9_addGauge 7 = .ok (.bipush 20, 2) := by decide +kernel
theorem dX9_addGauge_9 : decode cX9_addGauge 9 = .ok (.invokestatic 23, 3) := by decide +kernel
theorem dX9_addGauge_12 : decode cX9_addGauge 12 = .ok (.invokestatic 27, 3) := by decide +kernel
theorem dX9_addGauge_15 : decode cX9_addGauge 15 = .ok (.aload_n 0, 1) := by decide +kernel
theorem dX9_addGauge_16 : decode cX9_addGauge 16 = .ok (.getfield 10, 3) := by decide +kernel
theorem dX9_addGauge_19 : decode cX9_addGauge 19 = .ok (.getfield 82, 3) := by decide +kernel
theorem dX9_addGauge_22 : decode cX9_addGauge 22 = .ok (.iload_n 1, 1) := by decide +kernel
theorem dX9_addGauge_23 : decode cX9_addGauge 23 = .ok (.iload_n 2, 1) := by decide +kernel
theorem dX9_addGauge_24 : decode cX9_addGauge 24 = .ok (.invokestatic 31, 3) := by decide +kernel
theorem dX9_addGauge_27 : decode cX9_addGauge 27 = .ok (.invokevirtual 86, 3) := by decide +kernel
theorem dX9_addGauge_30 : decode cX9_addGauge 30 = .ok (.invokestatic 52, 3) := by decide +kernel
theorem dX9_addGauge_33 : decode cX9_addGauge 33 = .ok (.aload_n 0, 1) := by decide +kernel
theorem dX9_addGauge_34 : decode cX9_addGauge 34 = .ok (.getfield 10, 3) := by decide +kernel
theorem dX9_addGauge_37 : decode cX9_addGauge 37 = .ok (.getfield 82, 3) := by decide +kernel
theorem dX9_addGauge_40 : decode cX9_addGauge 40 = .ok (.iload_n 1, 1) := by decide +kernel
theorem dX9_addGauge_41 : decode cX9_addGauge 41 = .ok (.iload_n 2, 1) := by decide +kernel
theorem dX9_addGauge_42 : decode cX9_addGauge 42 = .ok (.invokestatic 31, 3) := by decide +kernel
theorem dX9_addGauge_45 : decode cX9_addGauge 45 = .ok (.iload_n 3, 1) := by decide +kernel
theorem dX9_addGauge_46 : decode cX9_addGauge 46 = .ok (.invokevirtual 89, 3) := by decide +kernel
theorem dX9_addGauge_49 : decode cX9_addGauge 49 = .ok (.ireturn, 1) := by decide +kernel
theorem dX9_addRefuge_0 : decode cX9_addRefuge 0 = .ok (.iload_n 1, 1) := by decide +kernel
theorem dX9_addRefuge_1 : decode cX9_addRefuge 1 = .ok (.iload_n 2, 1) := by decide +kernel
theorem dX9_addRefuge_2 : decode cX9_addRefuge 2 = .ok (.invokestatic 19, 3) := by decide +kernel
theorem dX9_addRefuge_5 : decode cX9_addRefuge 5 = .ok (.iload_n 3, 1) := by decide +kernel
theorem dX9_addRefuge_6 : decode cX9_addRefuge 6 = .ok (.iconst 1, 1) := by decide +kernel
theorem dX9_addRefuge_7 : decode cX9_addRefuge 7 = .ok (.bipush 20, 2) := by decide +kernel
theorem dX9_addRefuge_9 : decode cX9_addRefuge 9 = .ok (.invokestatic 23, 3) := by decide +kernel
theorem dX9_addRefuge_12 : decode cX9_addRefuge 12 = .ok (.invokestatic 27, 3) := by decide +kernel
theorem dX9_addRefuge_15 : decode cX9_addRefuge 15 = .ok (.aload_n 0, 1) := by decide +kernel
theorem dX9_addRefuge_16 : decode cX9_addRefuge 16 = .ok (.getfield 10, 3) := by decide +kernel
theorem dX9_addRefuge_19 : decode cX9_addRefuge 19 = .ok (.getfield 92, 3) := by decide +kernel
theorem dX9_addRefuge_22 : decode cX9_addRefuge 22 = .ok (.iload_n 1, 1) := by decide +kernel
theorem dX9_addRefuge_23 : decode cX9_addRefuge 23 = .ok (.iload_n 2, 1) := by decide +kernel
theorem dX9_addRefuge_24 : decode cX9_addRefuge 24 = .ok (.invokestatic 31, 3) := by decide +kernel
theorem dX9_addRefuge_27 : decode cX9_addRefuge 27 = .ok (.invokevirtual 96, 3) := by decide +kernel
theorem dX9_addRefuge_30 : decode cX9_addRefuge 30 = .ok (.invokestatic 52, 3) := by decide +kernel
theorem dX9_addRefuge_33 : decode cX9_addRefuge 33 = .ok (.aload_n 0, 1) := by decide +kernel
theorem dX9_addRefuge_34 : decode cX9_addRefuge 34 = .ok (.getfield 10, 3) := by decide +kernel
theorem dX9_addRefuge_37 : decode cX9_addRefuge 37 = .ok (.getfield 92, 3) := by decide +kernel
theorem dX9_addRefuge_40 : decode cX9_addRefuge 40 = .ok (.iload_n 1, 1) := by decide +kernel
theorem dX9_addRefuge_41 : decode cX9_addRefuge 41 = .ok (.iload_n 2, 1) := by decide +kernel
theorem dX9_addRefuge_42 : decode cX9_addRefuge 42 = .ok (.invokestatic 31, 3) := by decide +kernel
theorem dX9_addRefuge_45 : decode cX9_addRefuge 45 = .ok (.iload_n 3, 1) := by decide +kernel
theorem dX9_addRefuge_46 : decode cX9_addRefuge 46 = .ok (.invokevirtual 99, 3) := by decide +kernel
theorem dX9_addRefuge_49 : decode cX9_addRefuge 49 = .ok (.ireturn, 1) := by decide +kernel
theorem dX9_settle_0 : decode cX9_settle 0 = .ok (.iload_n 1, 1) := by decide +kernel
theorem dX9_settle_1 : decode cX9_settle 1 = .ok (.iload_n 2, 1) := by decide +kernel
theorem dX9_settle_2 : decode cX9_settle 2 = .ok (.invokestatic 19, 3) := by decide +kernel
theorem dX9_settle_5 : decode cX9_settle 5 = .ok (.iload_n 3, 1) := by decide +kernel
theorem dX9_settle_6 : decode cX9_settle 6 = .ok (.iconst 1, 1) := by decide +kernel
theorem dX9_settle_7 : decode cX9_settle 7 = .ok (.bipush 6, 2) := by decide +kernel
theorem dX9_settle_9 : decode cX9_settle 9 = .ok (.invokestatic 23, 3) := by decide +kernel
theorem dX9_settle_12 : decode cX9_settle 12 = .ok (.invokestatic 27, 3) := by decide +kernel
theorem dX9_settle_15 : decode cX9_settle 15 = .ok (.aload_n 0, 1) := by decide +kernel
theorem dX9_settle_16 : decode cX9_settle 16 = .ok (.getfield 10, 3) := by decide +kernel
theorem dX9_settle_19 : decode cX9_settle 19 = .ok (.getfield 102, 3) := by decide +kernel
theorem dX9_settle_22 : decode cX9_settle 22 = .ok (.invokevirtual 106, 3) := by decide +kernel
theorem dX9_settle_25 : decode cX9_settle 25 = .ok (.ifCond .ne 7, 3) := by decide +kernel
theorem dX9_settle_28 : decode cX9_settle 28 = .ok (.iconst 1, 1) := by decide +kernel
theorem dX9_settle_29 : decode cX9_settle 29 = .ok (.goto 4, 3) := by decide +kernel
theorem dX9_settle_32 : decode cX9_settle 32 = .ok (.iconst 0, 1) := by decide +kernel
theorem dX9_settle_33 : decode cX9_settle 33 = .ok (.invokestatic 52, 3) := by decide +kernel
theorem dX9_settle_36 : decode cX9_settle 36 = .ok (.aload_n 0, 1) := by decide +kernel
theorem dX9_settle_37 : decode cX9_settle 37 = .ok (.getfield 10, 3) := by decide +kernel
theorem dX9_settle_40 : decode cX9_settle 40 = .ok (.getfield 102, 3) := by decide +kernel
theorem dX9_settle_43 : decode cX9_settle 43 = .ok (.iload_n 1, 1) := by decide +kernel
theorem dX9_settle_44 : decode cX9_settle 44 = .ok (.iload_n 2, 1) := by decide +kernel
theorem dX9_settle_45 : decode cX9_settle 45 = .ok (.invokestatic 31, 3) := by decide +kernel
theorem dX9_settle_48 : decode cX9_settle 48 = .ok (.iload_n 3, 1) := by decide +kernel
theorem dX9_settle_49 : decode cX9_settle 49 = .ok (.invokevirtual 112, 3) := by decide +kernel
theorem dX9_settle_52 : decode cX9_settle 52 = .ok (.ireturn, 1) := by decide +kernel
theorem dX9_addCaller_0 : decode cX9_addCaller 0 = .ok (.iload_n 1, 1) := by decide +kernel
theorem dX9_addCaller_1 : decode cX9_addCaller 1 = .ok (.iload_n 2, 1) := by decide +kernel
theorem dX9_addCaller_2 : decode cX9_addCaller 2 = .ok (.invokestatic 19, 3) := by decide +kernel
theorem dX9_addCaller_5 : decode cX9_addCaller 5 = .ok (.aload_n 0, 1) := by decide +kernel
theorem dX9_addCaller_6 : decode cX9_addCaller 6 = .ok (.getfield 10, 3) := by decide +kernel
theorem dX9_addCaller_9 : decode cX9_addCaller 9 = .ok (.getfield 115, 3) := by decide +kernel
theorem dX9_addCaller_12 : decode cX9_addCaller 12 = .ok (.invokevirtual 119, 3) := by decide +kernel
theorem dX9_addCaller_15 : decode cX9_addCaller 15 = .ok (.ifCond .ne 7, 3) := by decide +kernel
theorem dX9_addCaller_18 : decode cX9_addCaller 18 = .ok (.iconst 1, 1) := by decide +kernel
theorem dX9_addCaller_19 : decode cX9_addCaller 19 = .ok (.goto 4, 3) := by decide +kernel
theorem dX9_addCaller_22 : decode cX9_addCaller 22 = .ok (.iconst 0, 1) := by decide +kernel
theorem dX9_addCaller_23 : decode cX9_addCaller 23 = .ok (.invokestatic 52, 3) := by decide +kernel
theorem dX9_addCaller_26 : decode cX9_addCaller 26 = .ok (.aload_n 0, 1) := by decide +kernel
theorem dX9_addCaller_27 : decode cX9_addCaller 27 = .ok (.getfield 10, 3) := by decide +kernel
theorem dX9_addCaller_30 : decode cX9_addCaller 30 = .ok (.getfield 115, 3) := by decide +kernel
theorem dX9_addCaller_33 : decode cX9_addCaller 33 = .ok (.iload_n 1, 1) := by decide +kernel
theorem dX9_addCaller_34 : decode cX9_addCaller 34 = .ok (.iload_n 2, 1) := by decide +kernel
theorem dX9_addCaller_35 : decode cX9_addCaller 35 = .ok (.invokestatic 31, 3) := by decide +kernel
theorem dX9_addCaller_38 : decode cX9_addCaller 38 = .ok (.invokevirtual 122, 3) := by decide +kernel
theorem dX9_addCaller_41 : decode cX9_addCaller 41 = .ok (.ireturn, 1) := by decide +kernel
theorem dX9_cell_0 : decode cX9_cell 0 = .ok (.iload_n 1, 1) := by decide +kernel
theorem dX9_cell_1 : decode cX9_cell 1 = .ok (.iload_n 2, 1) := by decide +kernel
theorem dX9_cell_2 : decode cX9_cell 2 = .ok (.invokestatic 19, 3) := by decide +kernel
theorem dX9_cell_5 : decode cX9_cell 5 = .ok (.iload_n 3, 1) := by decide +kernel
theorem dX9_cell_6 : decode cX9_cell 6 = .ok (.iconst 0, 1) := by decide +kernel
theorem dX9_cell_7 : decode cX9_cell 7 = .ok (.iconst 5, 1) := by decide +kernel
theorem dX9_cell_8 : decode cX9_cell 8 = .ok (.invokestatic 23, 3) := by decide +kernel
theorem dX9_cell_11 : decode cX9_cell 11 = .ok (.invokestatic 55, 3) := by decide +kernel
theorem dX9_cell_14 : decode cX9_cell 14 = .ok (.aload_n 0, 1) := by decide +kernel
theorem dX9_cell_15 : decode cX9_cell 15 = .ok (.getfield 10, 3) := by decide +kernel
theorem dX9_cell_18 : decode cX9_cell 18 = .ok (.iload_n 1, 1) := by decide +kernel
theorem dX9_cell_19 : decode cX9_cell 19 = .ok (.iload_n 2, 1) := by decide +kernel
theorem dX9_cell_20 : decode cX9_cell 20 = .ok (.invokestatic 31, 3) := by decide +kernel
theorem dX9_cell_23 : decode cX9_cell 23 = .ok (.iload_n 3, 1) := by decide +kernel
theorem dX9_cell_24 : decode cX9_cell 24 = .ok (.invokevirtual 126, 3) := by decide +kernel
theorem dX9_cell_27 : decode cX9_cell 27 = .ok (.ireturn, 1) := by decide +kernel
theorem dX9_gauge_0 : decode cX9_gauge 0 = .ok (.aload_n 0, 1) := by decide +kernel
theorem dX9_gauge_1 : decode cX9_gauge 1 = .ok (.getfield 10, 3) := by decide +kernel
theorem dX9_gauge_4 : decode cX9_gauge 4 = .ok (.getfield 82, 3) := by decide +kernel
theorem dX9_gauge_7 : decode cX9_gauge 7 = .ok (.iload_n 1, 1) := by decide +kernel
theorem dX9_gauge_8 : decode cX9_gauge 8 = .ok (.invokevirtual 132, 3) := by decide +kernel
theorem dX9_gauge_11 : decode cX9_gauge 11 = .ok (.ifCond .eq 16, 3) := by decide +kernel
theorem dX9_gauge_14 : decode cX9_gauge 14 = .ok (.iload_n 2, 1) := by decide +kernel
theorem dX9_gauge_15 : decode cX9_gauge 15 = .ok (.iconst 0, 1) := by decide +kernel
theorem dX9_gauge_16 : decode cX9_gauge 16 = .ok (.iconst 4, 1) := by decide +kernel
theorem dX9_gauge_17 : decode cX9_gauge 17 = .ok (.invokestatic 23, 3) := by decide +kernel
theorem dX9_gauge_20 : decode cX9_gauge 20 = .ok (.ifCond .eq 7, 3) := by decide +kernel
theorem dX9_gauge_23 : decode cX9_gauge 23 = .ok (.iconst 1, 1) := by decide +kernel
theorem dX9_gauge_24 : decode cX9_gauge 24 = .ok (.goto 4, 3) := by decide +kernel
theorem dX9_gauge_27 : decode cX9_gauge 27 = .ok (.iconst 0, 1) := by decide +kernel
theorem dX9_gauge_28 : decode cX9_gauge 28 = .ok (.invokestatic 55, 3) := by decide +kernel
theorem dX9_gauge_31 : decode cX9_gauge 31 = .ok (.aload_n 0, 1) := by decide +kernel
theorem dX9_gauge_32 : decode cX9_gauge 32 = .ok (.getfield 10, 3) := by decide +kernel
theorem dX9_gauge_35 : decode cX9_gauge 35 = .ok (.getfield 82, 3) := by decide +kernel
theorem dX9_gauge_38 : decode cX9_gauge 38 = .ok (.iload_n 1, 1) := by decide +kernel
theorem dX9_gauge_39 : decode cX9_gauge 39 = .ok (.iload_n 2, 1) := by decide +kernel
theorem dX9_gauge_40 : decode cX9_gauge 40 = .ok (.aload_n 0, 1) := by decide +kernel
theorem dX9_gauge_41 : decode cX9_gauge 41 = .ok (.getfield 10, 3) := by decide +kernel
theorem dX9_gauge_44 : decode cX9_gauge 44 = .ok (.getfield 35, 3) := by decide +kernel
theorem dX9_gauge_47 : decode cX9_gauge 47 = .ok (.invokevirtual 133, 3) := by decide +kernel
theorem dX9_gauge_50 : decode cX9_gauge 50 = .ok (.ireturn, 1) := by decide +kernel
theorem dX9_refuge_0 : decode cX9_refuge 0 = .ok (.aload_n 0, 1) := by decide +kernel
theorem dX9_refuge_1 : decode cX9_refuge 1 = .ok (.getfield 10, 3) := by decide +kernel
theorem dX9_refuge_4 : decode cX9_refuge 4 = .ok (.getfield 92, 3) := by decide +kernel
theorem dX9_refuge_7 : decode cX9_refuge 7 = .ok (.iload_n 1, 1) := by decide +kernel
theorem dX9_refuge_8 : decode cX9_refuge 8 = .ok (.invokevirtual 136, 3) := by decide +kernel
theorem dX9_refuge_11 : decode cX9_refuge 11 = .ok (.ifCond .eq 16, 3) := by decide +kernel
theorem dX9_refuge_14 : decode cX9_refuge 14 = .ok (.iload_n 2, 1) := by decide +kernel
theorem dX9_refuge_15 : decode cX9_refuge 15 = .ok (.iconst 0, 1) := by decide +kernel
theorem dX9_refuge_16 : decode cX9_refuge 16 = .ok (.iconst 4, 1) := by decide +kernel
theorem dX9_refuge_17 : decode cX9_refuge 17 = .ok (.invokestatic 23, 3) := by decide +kernel
theorem dX9_refuge_20 : decode cX9_refuge 20 = .ok (.ifCond .eq 7, 3) := by decide +kernel
theorem dX9_refuge_23 : decode cX9_refuge 23 = .ok (.iconst 1, 1) := by decide +kernel
theorem dX9_refuge_24 : decode cX9_refuge 24 = .ok (.goto 4, 3) := by decide +kernel
theorem dX9_refuge_27 : decode cX9_refuge 27 = .ok (.iconst 0, 1) := by decide +kernel
theorem dX9_refuge_28 : decode cX9_refuge 28 = .ok (.invokestatic 55, 3) := by decide +kernel
theorem dX9_refuge_31 : decode cX9_refuge 31 = .ok (.aload_n 0, 1) := by decide +kernel
theorem dX9_refuge_32 : decode cX9_refuge 32 = .ok (.getfield 10, 3) := by decide +kernel
theorem dX9_refuge_35 : decode cX9_refuge 35 = .ok (.getfield 92, 3) := by decide +kernel
theorem dX9_refuge_38 : decode cX9_refuge 38 = .ok (.iload_n 1, 1) := by decide +kernel
theorem dX9_refuge_39 : decode cX9_refuge 39 = .ok (.iload_n 2, 1) := by decide +kernel
theorem dX9_refuge_40 : decode cX9_refuge 40 = .ok (.invokevirtual 137, 3) := by decide +kernel
theorem dX9_refuge_43 : decode cX9_refuge 43 = .ok (.ireturn, 1) := by decide +kernel
theorem dX9_household_0 : decode cX9_household 0 = .ok (.aload_n 0, 1) := by decide +kernel
theorem dX9_household_1 : decode cX9_household 1 = .ok (.getfield 10, 3) := by decide +kernel
theorem dX9_household_4 : decode cX9_household 4 = .ok (.getfield 102, 3) := by decide +kernel
theorem dX9_household_7 : decode cX9_household 7 = .ok (.iload_n 1, 1) := by decide +kernel
theorem dX9_household_8 : decode cX9_household 8 = .ok (.invokevirtual 138, 3) := by decide +kernel
theorem dX9_household_11 : decode cX9_household 11 = .ok (.ifCond .eq 16, 3) := by decide +kernel
theorem dX9_household_14 : decode cX9_household 14 = .ok (.iload_n 2, 1) := by decide +kernel
theorem dX9_household_15 : decode cX9_household 15 = .ok (.iconst 0, 1) := by decide +kernel
theorem dX9_household_16 : decode cX9_household 16 = .ok (.iconst 4, 1) := by decide +kernel
theorem dX9_household_17 : decode cX9_household 17 = .ok (.invokestatic 23, 3) := by decide +kernel
theorem dX9_household_20 : decode cX9_household 20 = .ok (.ifCond .eq 7, 3) := by decide +kernel
theorem dX9_household_23 : decode cX9_household 23 = .ok (.iconst 1, 1) := by decide +kernel
theorem dX9_household_24 : decode cX9_household 24 = .ok (.goto 4, 3) := by decide +kernel
theorem dX9_household_27 : decode cX9_household 27 = .ok (.iconst 0, 1) := by decide +kernel
theorem dX9_household_28 : decode cX9_household 28 = .ok (.invokestatic 55, 3) := by decide +kernel
theorem dX9_household_31 : decode cX9_household 31 = .ok (.aload_n 0, 1) := by decide +kernel
theorem dX9_household_32 : decode cX9_household 32 = .ok (.getfield 10, 3) := by decide +kernel
theorem dX9_household_35 : decode cX9_household 35 = .ok (.iload_n 1, 1) := by decide +kernel
theorem dX9_household_36 : decode cX9_household 36 = .ok (.iload_n 2, 1) := by decide +kernel
theorem dX9_household_37 : decode cX9_household 37 = .ok (.invokevirtual 139, 3) := by decide +kernel
theorem dX9_household_40 : decode cX9_household 40 = .ok (.ireturn, 1) := by decide +kernel
theorem dX9_count_0 : decode cX9_count 0 = .ok (.iload_n 1, 1) := by decide +kernel
theorem dX9_count_1 : decode cX9_count 1 = .ok (.iconst 0, 1) := by decide +kernel
theorem dX9_count_2 : decode cX9_count 2 = .ok (.bipush 9, 2) := by decide +kernel
theorem dX9_count_4 : decode cX9_count 4 = .ok (.invokestatic 23, 3) := by decide +kernel
theorem dX9_count_7 : decode cX9_count 7 = .ok (.invokestatic 55, 3) := by decide +kernel
theorem dX9_count_10 : decode cX9_count 10 = .ok (.aload_n 0, 1) := by decide +kernel
theorem dX9_count_11 : decode cX9_count 11 = .ok (.getfield 10, 3) := by decide +kernel
theorem dX9_count_14 : decode cX9_count 14 = .ok (.iload_n 1, 1) := by decide +kernel
theorem dX9_count_15 : decode cX9_count 15 = .ok (.invokevirtual 144, 3) := by decide +kernel
theorem dX9_count_18 : decode cX9_count 18 = .ok (.ireturn, 1) := by decide +kernel
theorem dX9_pass_0 : decode cX9_pass 0 = .ok (.iload_n 1, 1) := by decide +kernel
theorem dX9_pass_1 : decode cX9_pass 1 = .ok (.iconst 1, 1) := by decide +kernel
theorem dX9_pass_2 : decode cX9_pass 2 = .ok (.bipush 36, 2) := by decide +kernel
theorem dX9_pass_4 : decode cX9_pass 4 = .ok (.invokestatic 23, 3) := by decide +kernel
theorem dX9_pass_7 : decode cX9_pass 7 = .ok (.invokestatic 27, 3) := by decide +kernel
theorem dX9_pass_10 : decode cX9_pass 10 = .ok (.aload_n 0, 1) := by decide +kernel
theorem dX9_pass_11 : decode cX9_pass 11 = .ok (.getfield 10, 3) := by decide +kernel
theorem dX9_pass_14 : decode cX9_pass 14 = .ok (.getfield 102, 3) := by decide +kernel
theorem dX9_pass_17 : decode cX9_pass 17 = .ok (.getfield 147, 3) := by decide +kernel
theorem dX9_pass_20 : decode cX9_pass 20 = .ok (.istore_n 2, 1) := by decide +kernel
theorem dX9_pass_21 : decode cX9_pass 21 = .ok (.aload_n 0, 1) := by decide +kernel
theorem dX9_pass_22 : decode cX9_pass 22 = .ok (.getfield 10, 3) := by decide +kernel
theorem dX9_pass_25 : decode cX9_pass 25 = .ok (.iload_n 1, 1) := by decide +kernel
theorem dX9_pass_26 : decode cX9_pass 26 = .ok (.invokevirtual 151, 3) := by decide +kernel
theorem dX9_pass_29 : decode cX9_pass 29 = .ok (.aload_n 0, 1) := by decide +kernel
theorem dX9_pass_30 : decode cX9_pass 30 = .ok (.getfield 10, 3) := by decide +kernel
theorem dX9_pass_33 : decode cX9_pass 33 = .ok (.getfield 102, 3) := by decide +kernel
theorem dX9_pass_36 : decode cX9_pass 36 = .ok (.getfield 147, 3) := by decide +kernel
theorem dX9_pass_39 : decode cX9_pass 39 = .ok (.iload_n 2, 1) := by decide +kernel
theorem dX9_pass_40 : decode cX9_pass 40 = .ok (.isub, 1) := by decide +kernel
theorem dX9_pass_41 : decode cX9_pass 41 = .ok (.ireturn, 1) := by decide +kernel
theorem dX9_foresee_0 : decode cX9_foresee 0 = .ok (.iload_n 1, 1) := by decide +kernel
theorem dX9_foresee_1 : decode cX9_foresee 1 = .ok (.iconst 1, 1) := by decide +kernel
theorem dX9_foresee_2 : decode cX9_foresee 2 = .ok (.bipush 36, 2) := by decide +kernel
theorem dX9_foresee_4 : decode cX9_foresee 4 = .ok (.invokestatic 23, 3) := by decide +kernel
theorem dX9_foresee_7 : decode cX9_foresee 7 = .ok (.invokestatic 27, 3) := by decide +kernel
theorem dX9_foresee_10 : decode cX9_foresee 10 = .ok (.iload_n 2, 1) := by decide +kernel
theorem dX9_foresee_11 : decode cX9_foresee 11 = .ok (.iconst 0, 1) := by decide +kernel
theorem dX9_foresee_12 : decode cX9_foresee 12 = .ok (.iconst 3, 1) := by decide +kernel
theorem dX9_foresee_13 : decode cX9_foresee 13 = .ok (.invokestatic 23, 3) := by decide +kernel
theorem dX9_foresee_16 : decode cX9_foresee 16 = .ok (.invokestatic 55, 3) := by decide +kernel
theorem dX9_foresee_19 : decode cX9_foresee 19 = .ok (.aload_n 0, 1) := by decide +kernel
theorem dX9_foresee_20 : decode cX9_foresee 20 = .ok (.getfield 16, 3) := by decide +kernel
theorem dX9_foresee_23 : decode cX9_foresee 23 = .ok (.aload_n 0, 1) := by decide +kernel
theorem dX9_foresee_24 : decode cX9_foresee 24 = .ok (.getfield 10, 3) := by decide +kernel
theorem dX9_foresee_27 : decode cX9_foresee 27 = .ok (.invokevirtual 155, 3) := by decide +kernel
theorem dX9_foresee_30 : decode cX9_foresee 30 = .ok (.aload_n 0, 1) := by decide +kernel
theorem dX9_foresee_31 : decode cX9_foresee 31 = .ok (.getfield 16, 3) := by decide +kernel
theorem dX9_foresee_34 : decode cX9_foresee 34 = .ok (.iload_n 1, 1) := by decide +kernel
theorem dX9_foresee_35 : decode cX9_foresee 35 = .ok (.invokevirtual 151, 3) := by decide +kernel
theorem dX9_foresee_38 : decode cX9_foresee 38 = .ok (.iload_n 2, 1) := by decide +kernel
theorem dX9_foresee_39 : decode cX9_foresee 39 = .ok (.tableswitch 70 0 2 #[25, 37, 59], 25) := by decide +kernel
theorem dX9_foresee_64 : decode cX9_foresee 64 = .ok (.aload_n 0, 1) := by decide +kernel
theorem dX9_foresee_65 : decode cX9_foresee 65 = .ok (.getfield 16, 3) := by decide +kernel
theorem dX9_foresee_68 : decode cX9_foresee 68 = .ok (.getfield 102, 3) := by decide +kernel
theorem dX9_foresee_71 : decode cX9_foresee 71 = .ok (.iconst 2, 1) := by decide +kernel
theorem dX9_foresee_72 : decode cX9_foresee 72 = .ok (.invokevirtual 159, 3) := by decide +kernel
theorem dX9_foresee_75 : decode cX9_foresee 75 = .ok (.ireturn, 1) := by decide +kernel
theorem dX9_foresee_76 : decode cX9_foresee 76 = .ok (.aload_n 0, 1) := by decide +kernel
theorem dX9_foresee_77 : decode cX9_foresee 77 = .ok (.getfield 16, 3) := by decide +kernel
theorem dX9_foresee_80 : decode cX9_foresee 80 = .ok (.getfield 102, 3) := by decide +kernel
theorem dX9_foresee_83 : decode cX9_foresee 83 = .ok (.getfield 147, 3) := by decide +kernel
theorem dX9_foresee_86 : decode cX9_foresee 86 = .ok (.aload_n 0, 1) := by decide +kernel
theorem dX9_foresee_87 : decode cX9_foresee 87 = .ok (.getfield 10, 3) := by decide +kernel
theorem dX9_foresee_90 : decode cX9_foresee 90 = .ok (.getfield 102, 3) := by decide +kernel
theorem dX9_foresee_93 : decode cX9_foresee 93 = .ok (.getfield 147, 3) := by decide +kernel
theorem dX9_foresee_96 : decode cX9_foresee 96 = .ok (.isub, 1) := by decide +kernel
theorem dX9_foresee_97 : decode cX9_foresee 97 = .ok (.ireturn, 1) := by decide +kernel
theorem dX9_foresee_98 : decode cX9_foresee 98 = .ok (.aload_n 0, 1) := by decide +kernel
theorem dX9_foresee_99 : decode cX9_foresee 99 = .ok (.getfield 16, 3) := by decide +kernel
theorem dX9_foresee_102 : decode cX9_foresee 102 = .ok (.getfield 35, 3) := by decide +kernel
theorem dX9_foresee_105 : decode cX9_foresee 105 = .ok (.invokevirtual 162, 3) := by decide +kernel
theorem dX9_foresee_108 : decode cX9_foresee 108 = .ok (.ireturn, 1) := by decide +kernel
theorem dX9_foresee_109 : decode cX9_foresee 109 = .ok (.aload_n 0, 1) := by decide +kernel
theorem dX9_foresee_110 : decode cX9_foresee 110 = .ok (.getfield 16, 3) := by decide +kernel
theorem dX9_foresee_113 : decode cX9_foresee 113 = .ok (.getfield 61, 3) := by decide +kernel
theorem dX9_foresee_116 : decode cX9_foresee 116 = .ok (.invokevirtual 165, 3) := by decide +kernel
theorem dX9_foresee_119 : decode cX9_foresee 119 = .ok (.ireturn, 1) := by decide +kernel
theorem dX9_rings_0 : decode cX9_rings 0 = .ok (.aload_n 0, 1) := by decide +kernel
theorem dX9_rings_1 : decode cX9_rings 1 = .ok (.getfield 10, 3) := by decide +kernel
theorem dX9_rings_4 : decode cX9_rings 4 = .ok (.getfield 82, 3) := by decide +kernel
theorem dX9_rings_7 : decode cX9_rings 7 = .ok (.iload_n 1, 1) := by decide +kernel
theorem dX9_rings_8 : decode cX9_rings 8 = .ok (.invokevirtual 132, 3) := by decide +kernel
theorem dX9_rings_11 : decode cX9_rings 11 = .ok (.invokestatic 55, 3) := by decide +kernel
theorem dX9_rings_14 : decode cX9_rings 14 = .ok (.aload_n 0, 1) := by decide +kernel
theorem dX9_rings_15 : decode cX9_rings 15 = .ok (.getfield 16, 3) := by decide +kernel
theorem dX9_rings_18 : decode cX9_rings 18 = .ok (.aload_n 0, 1) := by decide +kernel
theorem dX9_rings_19 : decode cX9_rings 19 = .ok (.getfield 10, 3) := by decide +kernel
theorem dX9_rings_22 : decode cX9_rings 22 = .ok (.invokevirtual 155, 3) := by decide +kernel
theorem dX9_rings_25 : decode cX9_rings 25 = .ok (.iconst 0, 1) := by decide +kernel
theorem dX9_rings_26 : decode cX9_rings 26 = .ok (.istore_n 2, 1) := by decide +kernel
theorem dX9_rings_27 : decode cX9_rings 27 = .ok (.iload_n 2, 1) := by decide +kernel
theorem dX9_rings_28 : decode cX9_rings 28 = .ok (.bipush 48, 2) := by decide +kernel
theorem dX9_rings_30 : decode cX9_rings 30 = .ok (.if_icmp .ge 39, 3) := by decide +kernel
theorem dX9_rings_33 : decode cX9_rings 33 = .ok (.aload_n 0, 1) := by decide +kernel
theorem dX9_rings_34 : decode cX9_rings 34 = .ok (.getfield 16, 3) := by decide +kernel
theorem dX9_rings_37 : decode cX9_rings 37 = .ok (.getfield 82, 3) := by decide +kernel
theorem dX9_rings_40 : decode cX9_rings 40 = .ok (.iload_n 1, 1) := by decide +kernel
theorem dX9_rings_41 : decode cX9_rings 41 = .ok (.aload_n 0, 1) := by decide +kernel
theorem dX9_rings_42 : decode cX9_rings 42 = .ok (.getfield 16, 3) := by decide +kernel
theorem dX9_rings_45 : decode cX9_rings 45 = .ok (.getfield 35, 3) := by decide +kernel
theorem dX9_rings_48 : decode cX9_rings 48 = .ok (.invokevirtual 168, 3) := by decide +kernel
theorem dX9_rings_51 : decode cX9_rings 51 = .ok (.ifCond .eq 5, 3) := by decide +kernel
theorem dX9_rings_54 : decode cX9_rings 54 = .ok (.iload_n 2, 1) := by decide +kernel
theorem dX9_rings_55 : decode cX9_rings 55 = .ok (.ireturn, 1) := by decide +kernel
theorem dX9_rings_56 : decode cX9_rings 56 = .ok (.aload_n 0, 1) := by decide +kernel
theorem dX9_rings_57 : decode cX9_rings 57 = .ok (.getfield 16, 3) := by decide +kernel
theorem dX9_rings_60 : decode cX9_rings 60 = .ok (.invokevirtual 172, 3) := by decide +kernel
theorem dX9_rings_63 : decode cX9_rings 63 = .ok (.iinc 2 1, 3) := by decide +kernel
theorem dX9_rings_66 : decode cX9_rings 66 = .ok (.goto (-39), 3) := by decide +kernel
theorem dX9_rings_69 : decode cX9_rings 69 = .ok (.aload_n 0, 1) := by decide +kernel
theorem dX9_rings_70 : decode cX9_rings 70 = .ok (.getfield 16, 3) := by decide +kernel
theorem dX9_rings_73 : decode cX9_rings 73 = .ok (.getfield 82, 3) := by decide +kernel
theorem dX9_rings_76 : decode cX9_rings 76 = .ok (.iload_n 1, 1) := by decide +kernel
theorem dX9_rings_77 : decode cX9_rings 77 = .ok (.aload_n 0, 1) := by decide +kernel
theorem dX9_rings_78 : decode cX9_rings 78 = .ok (.getfield 16, 3) := by decide +kernel
theorem dX9_rings_81 : decode cX9_rings 81 = .ok (.getfield 35, 3) := by decide +kernel
theorem dX9_rings_84 : decode cX9_rings 84 = .ok (.invokevirtual 168, 3) := by decide +kernel
theorem dX9_rings_87 : decode cX9_rings 87 = .ok (.ifCond .eq 8, 3) := by decide +kernel
theorem dX9_rings_90 : decode cX9_rings 90 = .ok (.bipush 48, 2) := by decide +kernel
theorem dX9_rings_92 : decode cX9_rings 92 = .ok (.goto 4, 3) := by decide +kernel
theorem dX9_rings_95 : decode cX9_rings 95 = .ok (.iconst (-1), 1) := by decide +kernel
theorem dX9_rings_96 : decode cX9_rings 96 = .ok (.ireturn, 1) := by decide +kernel
theorem dX9_digest_0 : decode cX9_digest 0 = .ok (.ldc2_w 178, 3) := by decide +kernel
theorem dX9_digest_3 : decode cX9_digest 3 = .ok (.lstore_n 1, 1) := by decide +kernel
theorem dX9_digest_4 : decode cX9_digest 4 = .ok (.iconst 0, 1) := by decide +kernel
theorem dX9_digest_5 : decode cX9_digest 5 = .ok (.istore_n 3, 1) := by decide +kernel
theorem dX9_digest_6 : decode cX9_digest 6 = .ok (.iload_n 3, 1) := by decide +kernel
theorem dX9_digest_7 : decode cX9_digest 7 = .ok (.bipush 10, 2) := by decide +kernel
theorem dX9_digest_9 : decode cX9_digest 9 = .ok (.if_icmp .ge 25, 3) := by decide +kernel
theorem dX9_digest_12 : decode cX9_digest 12 = .ok (.lload_n 1, 1) := by decide +kernel
theorem dX9_digest_13 : decode cX9_digest 13 = .ok (.ldc2_w 180, 3) := by decide +kernel
theorem dX9_digest_16 : decode cX9_digest 16 = .ok (.lmul, 1) := by decide +kernel
theorem dX9_digest_17 : decode cX9_digest 17 = .ok (.aload_n 0, 1) := by decide +kernel
theorem dX9_digest_18 : decode cX9_digest 18 = .ok (.getfield 10, 3) := by decide +kernel
theorem dX9_digest_21 : decode cX9_digest 21 = .ok (.iload_n 3, 1) := by decide +kernel
theorem dX9_digest_22 : decode cX9_digest 22 = .ok (.invokevirtual 144, 3) := by decide +kernel
theorem dX9_digest_25 : decode cX9_digest 25 = .ok (.i2l, 1) := by decide +kernel
theorem dX9_digest_26 : decode cX9_digest 26 = .ok (.ladd, 1) := by decide +kernel
theorem dX9_digest_27 : decode cX9_digest 27 = .ok (.lstore_n 1, 1) := by decide +kernel
theorem dX9_digest_28 : decode cX9_digest 28 = .ok (.iinc 3 1, 3) := by decide +kernel
theorem dX9_digest_31 : decode cX9_digest 31 = .ok (.goto (-25), 3) := by decide +kernel
theorem dX9_digest_34 : decode cX9_digest 34 = .ok (.iconst 0, 1) := by decide +kernel
theorem dX9_digest_35 : decode cX9_digest 35 = .ok (.istore_n 3, 1) := by decide +kernel
theorem dX9_digest_36 : decode cX9_digest 36 = .ok (.iload_n 3, 1) := by decide +kernel
theorem dX9_digest_37 : decode cX9_digest 37 = .ok (.bipush 80, 2) := by decide +kernel
theorem dX9_digest_39 : decode cX9_digest 39 = .ok (.if_icmp .ge 43, 3) := by decide +kernel
theorem dX9_digest_42 : decode cX9_digest 42 = .ok (.iconst 0, 1) := by decide +kernel
theorem dX9_digest_43 : decode cX9_digest 43 = .ok (.istore 4, 2) := by decide +kernel
theorem dX9_digest_45 : decode cX9_digest 45 = .ok (.iload 4, 2) := by decide +kernel
theorem dX9_digest_47 : decode cX9_digest 47 = .ok (.bipush 6, 2) := by decide +kernel
theorem dX9_digest_49 : decode cX9_digest 49 = .ok (.if_icmp .ge 27, 3) := by decide +kernel
theorem dX9_digest_52 : decode cX9_digest 52 = .ok (.lload_n 1, 1) := by decide +kernel
theorem dX9_digest_53 : decode cX9_digest 53 = .ok (.ldc2_w 180, 3) := by decide +kernel
theorem dX9_digest_56 : decode cX9_digest 56 = .ok (.lmul, 1) := by decide +kernel
theorem dX9_digest_57 : decode cX9_digest 57 = .ok (.aload_n 0, 1) := by decide +kernel
theorem dX9_digest_58 : decode cX9_digest 58 = .ok (.getfield 10, 3) := by decide +kernel
theorem dX9_digest_61 : decode cX9_digest 61 = .ok (.iload_n 3, 1) := by decide +kernel
theorem dX9_digest_62 : decode cX9_digest 62 = .ok (.iload 4, 2) := by decide +kernel
theorem dX9_digest_64 : decode cX9_digest 64 = .ok (.invokevirtual 126, 3) := by decide +kernel
theorem dX9_digest_67 : decode cX9_digest 67 = .ok (.i2l, 1) := by decide +kernel
theorem dX9_digest_68 : decode cX9_digest 68 = .ok (.ladd, 1) := by decide +kernel
theorem dX9_digest_69 : decode cX9_digest 69 = .ok (.lstore_n 1, 1) := by decide +kernel
theorem dX9_digest_70 : decode cX9_digest 70 = .ok (.iinc 4 1, 3) := by decide +kernel
theorem dX9_digest_73 : decode cX9_digest 73 = .ok (.goto (-28), 3) := by decide +kernel
theorem dX9_digest_76 : decode cX9_digest 76 = .ok (.iinc 3 1, 3) := by decide +kernel
theorem dX9_digest_79 : decode cX9_digest 79 = .ok (.goto (-43), 3) := by decide +kernel
theorem dX9_digest_82 : decode cX9_digest 82 = .ok (.iconst 0, 1) := by decide +kernel
theorem dX9_digest_83 : decode cX9_digest 83 = .ok (.istore_n 3, 1) := by decide +kernel
theorem dX9_digest_84 : decode cX9_digest 84 = .ok (.iload_n 3, 1) := by decide +kernel
theorem dX9_digest_85 : decode cX9_digest 85 = .ok (.bipush 12, 2) := by decide +kernel
theorem dX9_digest_87 : decode cX9_digest 87 = .ok (.if_icmp .ge 29, 3) := by decide +kernel
theorem dX9_digest_90 : decode cX9_digest 90 = .ok (.lload_n 1, 1) := by decide +kernel
theorem dX9_digest_91 : decode cX9_digest 91 = .ok (.ldc2_w 180, 3) := by decide +kernel
theorem dX9_digest_94 : decode cX9_digest 94 = .ok (.lmul, 1) := by decide +kernel
theorem dX9_digest_95 : decode cX9_digest 95 = .ok (.aload_n 0, 1) := by decide +kernel
theorem dX9_digest_96 : decode cX9_digest 96 = .ok (.getfield 10, 3) := by decide +kernel
theorem dX9_digest_99 : decode cX9_digest 99 = .ok (.getfield 35, 3) := by decide +kernel
theorem dX9_digest_102 : decode cX9_digest 102 = .ok (.getfield 58, 3) := by decide +kernel
theorem dX9_digest_105 : decode cX9_digest 105 = .ok (.iload_n 3, 1) := by decide +kernel
theorem dX9_digest_106 : decode cX9_digest 106 = .ok (.iaload, 1) := by decide +kernel
theorem dX9_digest_107 : decode cX9_digest 107 = .ok (.i2l, 1) := by decide +kernel
theorem dX9_digest_108 : decode cX9_digest 108 = .ok (.ladd, 1) := by decide +kernel
theorem dX9_digest_109 : decode cX9_digest 109 = .ok (.lstore_n 1, 1) := by decide +kernel
theorem dX9_digest_110 : decode cX9_digest 110 = .ok (.iinc 3 1, 3) := by decide +kernel
theorem dX9_digest_113 : decode cX9_digest 113 = .ok (.goto (-29), 3) := by decide +kernel
theorem dX9_digest_116 : decode cX9_digest 116 = .ok (.aload_n 0, 1) := by decide +kernel
theorem dX9_digest_117 : decode cX9_digest 117 = .ok (.aload_n 0, 1) := by decide +kernel
theorem dX9_digest_118 : decode cX9_digest 118 = .ok (.lload_n 1, 1) := by decide +kernel
theorem dX9_digest_119 : decode cX9_digest 119 = .ok (.invokevirtual 182, 3) := by decide +kernel
theorem dX9_digest_122 : decode cX9_digest 122 = .ok (.invokevirtual 186, 3) := by decide +kernel
theorem dX9_digest_125 : decode cX9_digest 125 = .ok (.lreturn, 1) := by decide +kernel
theorem dX9_digestOfTools_0 : decode cX9_digestOfTools 0 = .ok (.lload_n 1, 1) := by decide +kernel
theorem dX9_digestOfTools_1 : decode cX9_digestOfTools 1 = .ok (.lstore_n 3, 1) := by decide +kernel
theorem dX9_digestOfTools_2 : decode cX9_digestOfTools 2 = .ok (.iconst 0, 1) := by decide +kernel
theorem dX9_digestOfTools_3 : decode cX9_digestOfTools 3 = .ok (.istore 5, 2) := by decide +kernel
theorem dX9_digestOfTools_5 : decode cX9_digestOfTools 5 = .ok (.iload 5, 2) := by decide +kernel
theorem dX9_digestOfTools_7 : decode cX9_digestOfTools 7 = .ok (.aload_n 0, 1) := by decide +kernel
theorem dX9_digestOfTools_8 : decode cX9_digestOfTools 8 = .ok (.getfield 10, 3) := by decide +kernel
theorem dX9_digestOfTools_11 : decode cX9_digestOfTools 11 = .ok (.getfield 61, 3) := by decide +kernel
theorem dX9_digestOfTools_14 : decode cX9_digestOfTools 14 = .ok (.getfield 189, 3) := by decide +kernel
theorem dX9_digestOfTools_17 : decode cX9_digestOfTools 17 = .ok (.if_icmp .ge 47, 3) := by decide +kernel
theorem dX9_digestOfTools_20 : decode cX9_digestOfTools 20 = .ok (.iconst 0, 1) := by decide +kernel
theorem dX9_digestOfTools_21 : decode cX9_digestOfTools 21 = .ok (.istore 6, 2) := by decide +kernel
theorem dX9_digestOfTools_23 : decode cX9_digestOfTools 23 = .ok (.iload 6, 2) := by decide +kernel
theorem dX9_digestOfTools_25 : decode cX9_digestOfTools 25 = .ok (.bipush 6, 2) := by decide +kernel
theorem dX9_digestOfTools_27 : decode cX9_digestOfTools 27 = .ok (.if_icmp .ge 31, 3) := by decide +kernel
theorem dX9_digestOfTools_30 : decode cX9_digestOfTools 30 = .ok (.lload_n 3, 1) := by decide +kernel
theorem dX9_digestOfTools_31 : decode cX9_digestOfTools 31 = .ok (.ldc2_w 180, 3) := by decide +kernel
theorem dX9_digestOfTools_34 : decode cX9_digestOfTools 34 = .ok (.lmul, 1) := by decide +kernel
theorem dX9_digestOfTools_35 : decode cX9_digestOfTools 35 = .ok (.aload_n 0, 1) := by decide +kernel
theorem dX9_digestOfTools_36 : decode cX9_digestOfTools 36 = .ok (.getfield 10, 3) := by decide +kernel
theorem dX9_digestOfTools_39 : decode cX9_digestOfTools 39 = .ok (.getfield 61, 3) := by decide +kernel
theorem dX9_digestOfTools_42 : decode cX9_digestOfTools 42 = .ok (.iload 5, 2) := by decide +kernel
theorem dX9_digestOfTools_44 : decode cX9_digestOfTools 44 = .ok (.iload 6, 2) := by decide +kernel
theorem dX9_digestOfTools_46 : decode cX9_digestOfTools 46 = .ok (.invokevirtual 129, 3) := by decide +kernel
theorem dX9_digestOfTools_49 : decode cX9_digestOfTools 49 = .ok (.i2l, 1) := by decide +kernel
theorem dX9_digestOfTools_50 : decode cX9_digestOfTools 50 = .ok (.ladd, 1) := by decide +kernel
theorem dX9_digestOfTools_51 : decode cX9_digestOfTools 51 = .ok (.lstore_n 3, 1) := by decide +kernel
theorem dX9_digestOfTools_52 : decode cX9_digestOfTools 52 = .ok (.iinc 6 1, 3) := by decide +kernel
theorem dX9_digestOfTools_55 : decode cX9_digestOfTools 55 = .ok (.goto (-32), 3) := by decide +kernel
theorem dX9_digestOfTools_58 : decode cX9_digestOfTools 58 = .ok (.iinc 5 1, 3) := by decide +kernel
theorem dX9_digestOfTools_61 : decode cX9_digestOfTools 61 = .ok (.goto (-56), 3) := by decide +kernel
theorem dX9_digestOfTools_64 : decode cX9_digestOfTools 64 = .ok (.iconst 0, 1) := by decide +kernel
theorem dX9_digestOfTools_65 : decode cX9_digestOfTools 65 = .ok (.istore 5, 2) := by decide +kernel
theorem dX9_digestOfTools_67 : decode cX9_digestOfTools 67 = .ok (.iload 5, 2) := by decide +kernel
theorem dX9_digestOfTools_69 : decode cX9_digestOfTools 69 = .ok (.aload_n 0, 1) := by decide +kernel
theorem dX9_digestOfTools_70 : decode cX9_digestOfTools 70 = .ok (.getfield 10, 3) := by decide +kernel
theorem dX9_digestOfTools_73 : decode cX9_digestOfTools 73 = .ok (.getfield 82, 3) := by decide +kernel
theorem dX9_digestOfTools_76 : decode cX9_digestOfTools 76 = .ok (.getfield 192, 3) := by decide +kernel
theorem dX9_digestOfTools_79 : decode cX9_digestOfTools 79 = .ok (.if_icmp .ge 53, 3) := by decide +kernel
theorem dX9_digestOfTools_82 : decode cX9_digestOfTools 82 = .ok (.iconst 0, 1) := by decide +kernel
theorem dX9_digestOfTools_83 : decode cX9_digestOfTools 83 = .ok (.istore 6, 2) := by decide +kernel
theorem dX9_digestOfTools_85 : decode cX9_digestOfTools 85 = .ok (.iload 6, 2) := by decide +kernel
theorem dX9_digestOfTools_87 : decode cX9_digestOfTools 87 = .ok (.iconst 5, 1) := by decide +kernel
theorem dX9_digestOfTools_88 : decode cX9_digestOfTools 88 = .ok (.if_icmp .ge 38, 3) := by decide +kernel
theorem dX9_digestOfTools_91 : decode cX9_digestOfTools 91 = .ok (.lload_n 3, 1) := by decide +kernel
theorem dX9_digestOfTools_92 : decode cX9_digestOfTools 92 = .ok (.ldc2_w 180, 3) := by decide +kernel
theorem dX9_digestOfTools_95 : decode cX9_digestOfTools 95 = .ok (.lmul, 1) := by decide +kernel
theorem dX9_digestOfTools_96 : decode cX9_digestOfTools 96 = .ok (.aload_n 0, 1) := by decide +kernel
theorem dX9_digestOfTools_97 : decode cX9_digestOfTools 97 = .ok (.getfield 10, 3) := by decide +kernel
theorem dX9_digestOfTools_100 : decode cX9_digestOfTools 100 = .ok (.getfield 82, 3) := by decide +kernel
theorem dX9_digestOfTools_103 : decode cX9_digestOfTools 103 = .ok (.iload 5, 2) := by decide +kernel
theorem dX9_digestOfTools_105 : decode cX9_digestOfTools 105 = .ok (.iload 6, 2) := by decide +kernel
theorem dX9_digestOfTools_107 : decode cX9_digestOfTools 107 = .ok (.aload_n 0, 1) := by decide +kernel
theorem dX9_digestOfTools_108 : decode cX9_digestOfTools 108 = .ok (.getfield 10, 3) := by decide +kernel
theorem dX9_digestOfTools_111 : decode cX9_digestOfTools 111 = .ok (.getfield 35, 3) := by decide +kernel
theorem dX9_digestOfTools_114 : decode cX9_digestOfTools 114 = .ok (.invokevirtual 133, 3) := by decide +kernel
theorem dX9_digestOfTools_117 : decode cX9_digestOfTools 117 = .ok (.i2l, 1) := by decide +kernel
theorem dX9_digestOfTools_118 : decode cX9_digestOfTools 118 = .ok (.ladd, 1) := by decide +kernel
theorem dX9_digestOfTools_119 : decode cX9_digestOfTools 119 = .ok (.lstore_n 3, 1) := by decide +kernel
theorem dX9_digestOfTools_120 : decode cX9_digestOfTools 120 = .ok (.iinc 6 1, 3) := by decide +kernel
theorem dX9_digestOfTools_123 : decode cX9_digestOfTools 123 = .ok (.goto (-38), 3) := by decide +kernel
theorem dX9_digestOfTools_126 : decode cX9_digestOfTools 126 = .ok (.iinc 5 1, 3) := by decide +kernel
theorem dX9_digestOfTools_129 : decode cX9_digestOfTools 129 = .ok (.goto (-62), 3) := by decide +kernel
theorem dX9_digestOfTools_132 : decode cX9_digestOfTools 132 = .ok (.iconst 0, 1) := by decide +kernel
theorem dX9_digestOfTools_133 : decode cX9_digestOfTools 133 = .ok (.istore 5, 2) := by decide +kernel
theorem dX9_digestOfTools_135 : decode cX9_digestOfTools 135 = .ok (.iload 5, 2) := by decide +kernel
theorem dX9_digestOfTools_137 : decode cX9_digestOfTools 137 = .ok (.aload_n 0, 1) := by decide +kernel
theorem dX9_digestOfTools_138 : decode cX9_digestOfTools 138 = .ok (.getfield 10, 3) := by decide +kernel
theorem dX9_digestOfTools_141 : decode cX9_digestOfTools 141 = .ok (.getfield 92, 3) := by decide +kernel
theorem dX9_digestOfTools_144 : decode cX9_digestOfTools 144 = .ok (.getfield 193, 3) := by decide +kernel
theorem dX9_digestOfTools_147 : decode cX9_digestOfTools 147 = .ok (.if_icmp .ge 46, 3) := by decide +kernel
theorem dX9_digestOfTools_150 : decode cX9_digestOfTools 150 = .ok (.iconst 0, 1) := by decide +kernel
theorem dX9_digestOfTools_151 : decode cX9_digestOfTools 151 = .ok (.istore 6, 2) := by decide +kernel
theorem dX9_digestOfTools_153 : decode cX9_digestOfTools 153 = .ok (.iload 6, 2) := by decide +kernel
theorem dX9_digestOfTools_155 : decode cX9_digestOfTools 155 = .ok (.iconst 5, 1) := by decide +kernel
theorem dX9_digestOfTools_156 : decode cX9_digestOfTools 156 = .ok (.if_icmp .ge 31, 3) := by decide +kernel
theorem dX9_digestOfTools_159 : decode cX9_digestOfTools 159 = .ok (.lload_n 3, 1) := by decide +kernel
theorem dX9_digestOfTools_160 : decode cX9_digestOfTools 160 = .ok (.ldc2_w 180, 3) := by decide +kernel
theorem dX9_digestOfTools_163 : decode cX9_digestOfTools 163 = .ok (.lmul, 1) := by decide +kernel
theorem dX9_digestOfTools_164 : decode cX9_digestOfTools 164 = .ok (.aload_n 0, 1) := by decide +kernel
theorem dX9_digestOfTools_165 : decode cX9_digestOfTools 165 = .ok (.getfield 10, 3) := by decide +kernel
theorem dX9_digestOfTools_168 : decode cX9_digestOfTools 168 = .ok (.getfield 92, 3) := by decide +kernel
theorem dX9_digestOfTools_171 : decode cX9_digestOfTools 171 = .ok (.iload 5, 2) := by decide +kernel
theorem dX9_digestOfTools_173 : decode cX9_digestOfTools 173 = .ok (.iload 6, 2) := by decide +kernel
theorem dX9_digestOfTools_175 : decode cX9_digestOfTools 175 = .ok (.invokevirtual 137, 3) := by decide +kernel
theorem dX9_digestOfTools_178 : decode cX9_digestOfTools 178 = .ok (.i2l, 1) := by decide +kernel
theorem dX9_digestOfTools_179 : decode cX9_digestOfTools 179 = .ok (.ladd, 1) := by decide +kernel
theorem dX9_digestOfTools_180 : decode cX9_digestOfTools 180 = .ok (.lstore_n 3, 1) := by decide +kernel
theorem dX9_digestOfTools_181 : decode cX9_digestOfTools 181 = .ok (.iinc 6 1, 3) := by decide +kernel
theorem dX9_digestOfTools_184 : decode cX9_digestOfTools 184 = .ok (.goto (-31), 3) := by decide +kernel
theorem dX9_digestOfTools_187 : decode cX9_digestOfTools 187 = .ok (.iinc 5 1, 3) := by decide +kernel
theorem dX9_digestOfTools_190 : decode cX9_digestOfTools 190 = .ok (.goto (-55), 3) := by decide +kernel
theorem dX9_digestOfTools_193 : decode cX9_digestOfTools 193 = .ok (.lload_n 3, 1) := by decide +kernel
theorem dX9_digestOfTools_194 : decode cX9_digestOfTools 194 = .ok (.lreturn, 1) := by decide +kernel
theorem dX9_digestOfPeople_0 : decode cX9_digestOfPeople 0 = .ok (.lload_n 1, 1) := by decide +kernel
theorem dX9_digestOfPeople_1 : decode cX9_digestOfPeople 1 = .ok (.lstore_n 3, 1) := by decide +kernel
theorem dX9_digestOfPeople_2 : decode cX9_digestOfPeople 2 = .ok (.iconst 0, 1) := by decide +kernel
theorem dX9_digestOfPeople_3 : decode cX9_digestOfPeople 3 = .ok (.istore 5, 2) := by decide +kernel
theorem dX9_digestOfPeople_5 : decode cX9_digestOfPeople 5 = .ok (.iload 5, 2) := by decide +kernel
theorem dX9_digestOfPeople_7 : decode cX9_digestOfPeople 7 = .ok (.aload_n 0, 1) := by decide +kernel
theorem dX9_digestOfPeople_8 : decode cX9_digestOfPeople 8 = .ok (.getfield 10, 3) := by decide +kernel
theorem dX9_digestOfPeople_11 : decode cX9_digestOfPeople 11 = .ok (.getfield 102, 3) := by decide +kernel
theorem dX9_digestOfPeople_14 : decode cX9_digestOfPeople 14 = .ok (.getfield 194, 3) := by decide +kernel
theorem dX9_digestOfPeople_17 : decode cX9_digestOfPeople 17 = .ok (.if_icmp .ge 43, 3) := by decide +kernel
theorem dX9_digestOfPeople_20 : decode cX9_digestOfPeople 20 = .ok (.iconst 0, 1) := by decide +kernel
theorem dX9_digestOfPeople_21 : decode cX9_digestOfPeople 21 = .ok (.istore 6, 2) := by decide +kernel
theorem dX9_digestOfPeople_23 : decode cX9_digestOfPeople 23 = .ok (.iload 6, 2) := by decide +kernel
theorem dX9_digestOfPeople_25 : decode cX9_digestOfPeople 25 = .ok (.iconst 5, 1) := by decide +kernel
theorem dX9_digestOfPeople_26 : decode cX9_digestOfPeople 26 = .ok (.if_icmp .ge 28, 3) := by decide +kernel
theorem dX9_digestOfPeople_29 : decode cX9_digestOfPeople 29 = .ok (.lload_n 3, 1) := by decide +kernel
theorem dX9_digestOfPeople_30 : decode cX9_digestOfPeople 30 = .ok (.ldc2_w 180, 3) := by decide +kernel
theorem dX9_digestOfPeople_33 : decode cX9_digestOfPeople 33 = .ok (.lmul, 1) := by decide +kernel
theorem dX9_digestOfPeople_34 : decode cX9_digestOfPeople 34 = .ok (.aload_n 0, 1) := by decide +kernel
theorem dX9_digestOfPeople_35 : decode cX9_digestOfPeople 35 = .ok (.getfield 10, 3) := by decide +kernel
theorem dX9_digestOfPeople_38 : decode cX9_digestOfPeople 38 = .ok (.iload 5, 2) := by decide +kernel
theorem dX9_digestOfPeople_40 : decode cX9_digestOfPeople 40 = .ok (.iload 6, 2) := by decide +kernel
theorem dX9_digestOfPeople_42 : decode cX9_digestOfPeople 42 = .ok (.invokevirtual 139, 3) := by decide +kernel
theorem dX9_digestOfPeople_45 : decode cX9_digestOfPeople 45 = .ok (.i2l, 1) := by decide +kernel
theorem dX9_digestOfPeople_46 : decode cX9_digestOfPeople 46 = .ok (.ladd, 1) := by decide +kernel
theorem dX9_digestOfPeople_47 : decode cX9_digestOfPeople 47 = .ok (.lstore_n 3, 1) := by decide +kernel
theorem dX9_digestOfPeople_48 : decode cX9_digestOfPeople 48 = .ok (.iinc 6 1, 3) := by decide +kernel
theorem dX9_digestOfPeople_51 : decode cX9_digestOfPeople 51 = .ok (.goto (-28), 3) := by decide +kernel
theorem dX9_digestOfPeople_54 : decode cX9_digestOfPeople 54 = .ok (.iinc 5 1, 3) := by decide +kernel
theorem dX9_digestOfPeople_57 : decode cX9_digestOfPeople 57 = .ok (.goto (-52), 3) := by decide +kernel
theorem dX9_digestOfPeople_60 : decode cX9_digestOfPeople 60 = .ok (.iconst 0, 1) := by decide +kernel
theorem dX9_digestOfPeople_61 : decode cX9_digestOfPeople 61 = .ok (.istore 5, 2) := by decide +kernel
theorem dX9_digestOfPeople_63 : decode cX9_digestOfPeople 63 = .ok (.iload 5, 2) := by decide +kernel
theorem dX9_digestOfPeople_65 : decode cX9_digestOfPeople 65 = .ok (.aload_n 0, 1) := by decide +kernel
theorem dX9_digestOfPeople_66 : decode cX9_digestOfPeople 66 = .ok (.getfield 10, 3) := by decide +kernel
theorem dX9_digestOfPeople_69 : decode cX9_digestOfPeople 69 = .ok (.getfield 115, 3) := by decide +kernel
theorem dX9_digestOfPeople_72 : decode cX9_digestOfPeople 72 = .ok (.getfield 195, 3) := by decide +kernel
theorem dX9_digestOfPeople_75 : decode cX9_digestOfPeople 75 = .ok (.if_icmp .ge 46, 3) := by decide +kernel
theorem dX9_digestOfPeople_78 : decode cX9_digestOfPeople 78 = .ok (.iconst 0, 1) := by decide +kernel
theorem dX9_digestOfPeople_79 : decode cX9_digestOfPeople 79 = .ok (.istore 6, 2) := by decide +kernel
theorem dX9_digestOfPeople_81 : decode cX9_digestOfPeople 81 = .ok (.iload 6, 2) := by decide +kernel
theorem dX9_digestOfPeople_83 : decode cX9_digestOfPeople 83 = .ok (.iconst 3, 1) := by decide +kernel
theorem dX9_digestOfPeople_84 : decode cX9_digestOfPeople 84 = .ok (.if_icmp .ge 31, 3) := by decide +kernel
theorem dX9_digestOfPeople_87 : decode cX9_digestOfPeople 87 = .ok (.lload_n 3, 1) := by decide +kernel
theorem dX9_digestOfPeople_88 : decode cX9_digestOfPeople 88 = .ok (.ldc2_w 180, 3) := by decide +kernel
theorem dX9_digestOfPeople_91 : decode cX9_digestOfPeople 91 = .ok (.lmul, 1) := by decide +kernel
theorem dX9_digestOfPeople_92 : decode cX9_digestOfPeople 92 = .ok (.aload_n 0, 1) := by decide +kernel
theorem dX9_digestOfPeople_93 : decode cX9_digestOfPeople 93 = .ok (.getfield 10, 3) := by decide +kernel
theorem dX9_digestOfPeople_96 : decode cX9_digestOfPeople 96 = .ok (.getfield 115, 3) := by decide +kernel
theorem dX9_digestOfPeople_99 : decode cX9_digestOfPeople 99 = .ok (.iload 5, 2) := by decide +kernel
theorem dX9_digestOfPeople_101 : decode cX9_digestOfPeople 101 = .ok (.iload 6, 2) := by decide +kernel
theorem dX9_digestOfPeople_103 : decode cX9_digestOfPeople 103 = .ok (.invokevirtual 143, 3) := by decide +kernel
theorem dX9_digestOfPeople_106 : decode cX9_digestOfPeople 106 = .ok (.i2l, 1) := by decide +kernel
theorem dX9_digestOfPeople_107 : decode cX9_digestOfPeople 107 = .ok (.ladd, 1) := by decide +kernel
theorem dX9_digestOfPeople_108 : decode cX9_digestOfPeople 108 = .ok (.lstore_n 3, 1) := by decide +kernel
theorem dX9_digestOfPeople_109 : decode cX9_digestOfPeople 109 = .ok (.iinc 6 1, 3) := by decide +kernel
theorem dX9_digestOfPeople_112 : decode cX9_digestOfPeople 112 = .ok (.goto (-31), 3) := by decide +kernel
theorem dX9_digestOfPeople_115 : decode cX9_digestOfPeople 115 = .ok (.iinc 5 1, 3) := by decide +kernel
theorem dX9_digestOfPeople_118 : decode cX9_digestOfPeople 118 = .ok (.goto (-55), 3) := by decide +kernel
theorem dX9_digestOfPeople_121 : decode cX9_digestOfPeople 121 = .ok (.lload_n 3, 1) := by decide +kernel
theorem dX9_digestOfPeople_122 : decode cX9_digestOfPeople 122 = .ok (.lreturn, 1) := by decide +kernel
theorem dX9_placeOf_0 : decode cX9_placeOf 0 = .ok (.bipush 10, 2) := by decide +kernel
theorem dX9_placeOf_2 : decode cX9_placeOf 2 = .ok (.iload_n 1, 1) := by decide +kernel
theorem dX9_placeOf_3 : decode cX9_placeOf 3 = .ok (.imul, 1) := by decide +kernel
theorem dX9_placeOf_4 : decode cX9_placeOf 4 = .ok (.iload_n 0, 1) := by decide +kernel
theorem dX9_placeOf_5 : decode cX9_placeOf 5 = .ok (.iadd, 1) := by decide +kernel
theorem dX9_placeOf_6 : decode cX9_placeOf 6 = .ok (.ireturn, 1) := by decide +kernel
theorem dX9_isWithin_0 : decode cX9_isWithin 0 = .ok (.iload_n 0, 1) := by decide +kernel
theorem dX9_isWithin_1 : decode cX9_isWithin 1 = .ok (.iload_n 1, 1) := by decide +kernel
theorem dX9_isWithin_2 : decode cX9_isWithin 2 = .ok (.if_icmp .lt 12, 3) := by decide +kernel
theorem dX9_isWithin_5 : decode cX9_isWithin 5 = .ok (.iload_n 0, 1) := by decide +kernel
theorem dX9_isWithin_6 : decode cX9_isWithin 6 = .ok (.iload_n 2, 1) := by decide +kernel
theorem dX9_isWithin_7 : decode cX9_isWithin 7 = .ok (.if_icmp .gt 7, 3) := by decide +kernel
theorem dX9_isWithin_10 : decode cX9_isWithin 10 = .ok (.iconst 1, 1) := by decide +kernel
theorem dX9_isWithin_11 : decode cX9_isWithin 11 = .ok (.goto 4, 3) := by decide +kernel
theorem dX9_isWithin_14 : decode cX9_isWithin 14 = .ok (.iconst 0, 1) := by decide +kernel
theorem dX9_isWithin_15 : decode cX9_isWithin 15 = .ok (.ireturn, 1) := by decide +kernel
theorem dX9_checkCell_0 : decode cX9_checkCell 0 = .ok (.iload_n 0, 1) := by decide +kernel
theorem dX9_checkCell_1 : decode cX9_checkCell 1 = .ok (.iconst 0, 1) := by decide +kernel
theorem dX9_checkCell_2 : decode cX9_checkCell 2 = .ok (.bipush 9, 2) := by decide +kernel
theorem dX9_checkCell_4 : decode cX9_checkCell 4 = .ok (.invokestatic 23, 3) := by decide +kernel
theorem dX9_checkCell_7 : decode cX9_checkCell 7 = .ok (.ifCond .eq 17, 3) := by decide +kernel
theorem dX9_checkCell_10 : decode cX9_checkCell 10 = .ok (.iload_n 1, 1) := by decide +kernel
theorem dX9_checkCell_11 : decode cX9_checkCell 11 = .ok (.iconst 0, 1) := by decide +kernel
theorem dX9_checkCell_12 : decode cX9_checkCell 12 = .ok (.bipush 7, 2) := by decide +kernel
theorem dX9_checkCell_14 : decode cX9_checkCell 14 = .ok (.invokestatic 23, 3) := by decide +kernel
theorem dX9_checkCell_17 : decode cX9_checkCell 17 = .ok (.ifCond .eq 7, 3) := by decide +kernel
theorem dX9_checkCell_20 : decode cX9_checkCell 20 = .ok (.iconst 1, 1) := by decide +kernel
theorem dX9_checkCell_21 : decode cX9_checkCell 21 = .ok (.goto 4, 3) := by decide +kernel
theorem dX9_checkCell_24 : decode cX9_checkCell 24 = .ok (.iconst 0, 1) := by decide +kernel
theorem dX9_checkCell_25 : decode cX9_checkCell 25 = .ok (.invokestatic 55, 3) := by decide +kernel
theorem dX9_checkCell_28 : decode cX9_checkCell 28 = .ok (.return_, 1) := by decide +kernel
theorem dX9_checkIndex_0 : decode cX9_checkIndex 0 = .ok (.iload_n 0, 1) := by decide +kernel
theorem dX9_checkIndex_1 : decode cX9_checkIndex 1 = .ok (.ifCond .ne 13, 3) := by decide +kernel
theorem dX9_checkIndex_4 : decode cX9_checkIndex 4 = .ok (.new 199, 3) := by decide +kernel
theorem dX9_checkIndex_7 : decode cX9_checkIndex 7 = .ok (.dup, 1) := by decide +kernel
theorem dX9_checkIndex_8 : decode cX9_checkIndex 8 = .ok (.ldc 201, 2) := by decide +kernel
theorem dX9_checkIndex_10 : decode cX9_checkIndex 10 = .ok (.invokespecial 203, 3) := by decide +kernel
theorem dX9_checkIndex_13 : decode cX9_checkIndex 13 = .ok (.athrow, 1) := by decide +kernel
theorem dX9_checkIndex_14 : decode cX9_checkIndex 14 = .ok (.return_, 1) := by decide +kernel
theorem dX9_checkArgument_0 : decode cX9_checkArgument 0 = .ok (.iload_n 0, 1) := by decide +kernel
theorem dX9_checkArgument_1 : decode cX9_checkArgument 1 = .ok (.ifCond .ne 13, 3) := by decide +kernel
theorem dX9_checkArgument_4 : decode cX9_checkArgument 4 = .ok (.new 206, 3) := by decide +kernel
theorem dX9_checkArgument_7 : decode cX9_checkArgument 7 = .ok (.dup, 1) := by decide +kernel
theorem dX9_checkArgument_8 : decode cX9_checkArgument 8 = .ok (.ldc 208, 2) := by decide +kernel
theorem dX9_checkArgument_10 : decode cX9_checkArgument 10 = .ok (.invokespecial 210, 3) := by decide +kernel
theorem dX9_checkArgument_13 : decode cX9_checkArgument 13 = .ok (.athrow, 1) := by decide +kernel
theorem dX9_checkArgument_14 : decode cX9_checkArgument 14 = .ok (.return_, 1) := by decide +kernel
theorem dX9_checkState_0 : decode cX9_checkState 0 = .ok (.iload_n 0, 1) := by decide +kernel
theorem dX9_checkState_1 : decode cX9_checkState 1 = .ok (.ifCond .ne 13, 3) := by decide +kernel
theorem dX9_checkState_4 : decode cX9_checkState 4 = .ok (.new 211, 3) := by decide +kernel
theorem dX9_checkState_7 : decode cX9_checkState 7 = .ok (.dup, 1) := by decide +kernel
theorem dX9_checkState_8 : decode cX9_checkState 8 = .ok (.ldc 213, 2) := by decide +kernel
theorem dX9_checkState_10 : decode cX9_checkState 10 = .ok (.invokespecial 215, 3) := by decide +kernel
theorem dX9_checkState_13 : decode cX9_checkState 13 = .ok (.athrow, 1) := by decide +kernel
theorem dX9_checkState_14 : decode cX9_checkState 14 = .ok (.return_, 1) := by decide +kernel
theorem dJ9_floorMod_7cf53_0 : decode cJ9_floorMod_7cf53 0 = .ok (.iload_n 0, 1) := by decide +kernel
theorem dJ9_floorMod_7cf53_1 : decode cJ9_floorMod_7cf53 1 = .ok (.iload_n 1, 1) := by decide +kernel
theorem dJ9_floorMod_7cf53_2 : decode cJ9_floorMod_7cf53 2 = .ok (.irem, 1) := by decide +kernel
theorem dJ9_floorMod_7cf53_3 : decode cJ9_floorMod_7cf53 3 = .ok (.istore_n 2, 1) := by decide +kernel
theorem dJ9_floorMod_7cf53_4 : decode cJ9_floorMod_7cf53 4 = .ok (.iload_n 0, 1) := by decide +kernel
theorem dJ9_floorMod_7cf53_5 : decode cJ9_floorMod_7cf53 5 = .ok (.iload_n 1, 1) := by decide +kernel
theorem dJ9_floorMod_7cf53_6 : decode cJ9_floorMod_7cf53 6 = .ok (.ixor, 1) := by decide +kernel
theorem dJ9_floorMod_7cf53_7 : decode cJ9_floorMod_7cf53 7 = .ok (.ifCond .ge 11, 3) := by decide +kernel
theorem dJ9_floorMod_7cf53_10 : decode cJ9_floorMod_7cf53 10 = .ok (.iload_n 2, 1) := by decide +kernel
theorem dJ9_floorMod_7cf53_11 : decode cJ9_floorMod_7cf53 11 = .ok (.ifCond .eq 7, 3) := by decide +kernel
theorem dJ9_floorMod_7cf53_14 : decode cJ9_floorMod_7cf53 14 = .ok (.iload_n 2, 1) := by decide +kernel
theorem dJ9_floorMod_7cf53_15 : decode cJ9_floorMod_7cf53 15 = .ok (.iload_n 1, 1) := by decide +kernel
theorem dJ9_floorMod_7cf53_16 : decode cJ9_floorMod_7cf53 16 = .ok (.iadd, 1) := by decide +kernel
theorem dJ9_floorMod_7cf53_17 : decode cJ9_floorMod_7cf53 17 = .ok (.ireturn, 1) := by decide +kernel
theorem dJ9_floorMod_7cf53_18 : decode cJ9_floorMod_7cf53 18 = .ok (.iload_n 2, 1) := by decide +kernel
theorem dJ9_floorMod_7cf53_19 : decode cJ9_floorMod_7cf53 19 = .ok (.ireturn, 1) := by decide +kernel
theorem dJ9_min_7cf53_0 : decode cJ9_min_7cf53 0 = .ok (.iload_n 0, 1) := by decide +kernel
theorem dJ9_min_7cf53_1 : decode cJ9_min_7cf53 1 = .ok (.iload_n 1, 1) := by decide +kernel
theorem dJ9_min_7cf53_2 : decode cJ9_min_7cf53 2 = .ok (.if_icmp .gt 7, 3) := by decide +kernel
theorem dJ9_min_7cf53_5 : decode cJ9_min_7cf53 5 = .ok (.iload_n 0, 1) := by decide +kernel
theorem dJ9_min_7cf53_6 : decode cJ9_min_7cf53 6 = .ok (.goto 4, 3) := by decide +kernel
theorem dJ9_min_7cf53_9 : decode cJ9_min_7cf53 9 = .ok (.iload_n 1, 1) := by decide +kernel
theorem dJ9_min_7cf53_10 : decode cJ9_min_7cf53 10 = .ok (.ireturn, 1) := by decide +kernel
theorem dL_below_0 : decode cL_below 0 = .ok (.iload_n 0, 1) := by decide +kernel
theorem dL_below_1 : decode cL_below 1 = .ok (.ldc 7, 2) := by decide +kernel
theorem dL_below_3 : decode cL_below 3 = .ok (.iand, 1) := by decide +kernel
theorem dL_below_4 : decode cL_below 4 = .ok (.iload_n 1, 1) := by decide +kernel
theorem dL_below_5 : decode cL_below 5 = .ok (.irem, 1) := by decide +kernel
theorem dL_below_6 : decode cL_below 6 = .ok (.ireturn, 1) := by decide +kernel
theorem dL_cell_0 : decode cL_cell 0 = .ok (.iload_n 1, 1) := by decide +kernel
theorem dL_cell_1 : decode cL_cell 1 = .ok (.aload_n 0, 1) := by decide +kernel
theorem dL_cell_2 : decode cL_cell 2 = .ok (.arraylength, 1) := by decide +kernel
theorem dL_cell_3 : decode cL_cell 3 = .ok (.if_icmp .ge 9, 3) := by decide +kernel
theorem dL_cell_6 : decode cL_cell 6 = .ok (.aload_n 0, 1) := by decide +kernel
theorem dL_cell_7 : decode cL_cell 7 = .ok (.iload_n 1, 1) := by decide +kernel
theorem dL_cell_8 : decode cL_cell 8 = .ok (.iaload, 1) := by decide +kernel
theorem dL_cell_9 : decode cL_cell 9 = .ok (.goto 9, 3) := by decide +kernel
theorem dL_cell_12 : decode cL_cell 12 = .ok (.ldc 8, 2) := by decide +kernel
theorem dL_cell_14 : decode cL_cell 14 = .ok (.iload_n 1, 1) := by decide +kernel
theorem dL_cell_15 : decode cL_cell 15 = .ok (.iconst 3, 1) := by decide +kernel
theorem dL_cell_16 : decode cL_cell 16 = .ok (.iadd, 1) := by decide +kernel
theorem dL_cell_17 : decode cL_cell 17 = .ok (.imul, 1) := by decide +kernel
theorem dL_cell_18 : decode cL_cell 18 = .ok (.ireturn, 1) := by decide +kernel
theorem dL_town_0 : decode cL_town 0 = .ok (.new 9, 3) := by decide +kernel
theorem dL_town_3 : decode cL_town 3 = .ok (.dup, 1) := by decide +kernel
theorem dL_town_4 : decode cL_town 4 = .ok (.invokespecial 11, 3) := by decide +kernel
theorem dL_town_7 : decode cL_town 7 = .ok (.astore_n 2, 1) := by decide +kernel
theorem dL_town_8 : decode cL_town 8 = .ok (.iconst 0, 1) := by decide +kernel
theorem dL_town_9 : decode cL_town 9 = .ok (.istore_n 3, 1) := by decide +kernel
theorem dL_town_10 : decode cL_town 10 = .ok (.iload_n 3, 1) := by decide +kernel
theorem dL_town_11 : decode cL_town 11 = .ok (.bipush 24, 2) := by decide +kernel
theorem dL_town_13 : decode cL_town 13 = .ok (.if_icmp .ge 97, 3) := by decide +kernel
theorem dL_town_16 : decode cL_town 16 = .ok (.aload_n 0, 1) := by decide +kernel
theorem dL_town_17 : decode cL_town 17 = .ok (.iload_n 3, 1) := by decide +kernel
theorem dL_town_18 : decode cL_town 18 = .ok (.bipush 6, 2) := by decide +kernel
theorem dL_town_20 : decode cL_town 20 = .ok (.irem, 1) := by decide +kernel
theorem dL_town_21 : decode cL_town 21 = .ok (.invokestatic 12, 3) := by decide +kernel
theorem dL_town_24 : decode cL_town 24 = .ok (.iload_n 3, 1) := by decide +kernel
theorem dL_town_25 : decode cL_town 25 = .ok (.bipush 6, 2) := by decide +kernel
theorem dL_town_27 : decode cL_town 27 = .ok (.idiv, 1) := by decide +kernel
theorem dL_town_28 : decode cL_town 28 = .ok (.iconst 5, 1) := by decide +kernel
theorem dL_town_29 : decode cL_town 29 = .ok (.imul, 1) := by decide +kernel
theorem dL_town_30 : decode cL_town 30 = .ok (.ishr, 1) := by decide +kernel
theorem dL_town_31 : decode cL_town 31 = .ok (.istore 4, 2) := by decide +kernel
theorem dL_town_33 : decode cL_town 33 = .ok (.aload_n 2, 1) := by decide +kernel
theorem dL_town_34 : decode cL_town 34 = .ok (.iload 4, 2) := by decide +kernel
theorem dL_town_36 : decode cL_town 36 = .ok (.bipush 10, 2) := by decide +kernel
theorem dL_town_38 : decode cL_town 38 = .ok (.invokestatic 18, 3) := by decide +kernel
theorem dL_town_41 : decode cL_town 41 = .ok (.iload 4, 2) := by decide +kernel
theorem dL_town_43 : decode cL_town 43 = .ok (.iconst 4, 1) := by decide +kernel
theorem dL_town_44 : decode cL_town 44 = .ok (.ishr, 1) := by decide +kernel
theorem dL_town_45 : decode cL_town 45 = .ok (.bipush 8, 2) := by decide +kernel
theorem dL_town_47 : decode cL_town 47 = .ok (.invokestatic 18, 3) := by decide +kernel
theorem dL_town_50 : decode cL_town 50 = .ok (.iload 4, 2) := by decide +kernel
theorem dL_town_52 : decode cL_town 52 = .ok (.bipush 7, 2) := by decide +kernel
theorem dL_town_54 : decode cL_town 54 = .ok (.ishr, 1) := by decide +kernel
theorem dL_town_55 : decode cL_town 55 = .ok (.bipush 10, 2) := by decide +kernel
theorem dL_town_57 : decode cL_town 57 = .ok (.invokestatic 18, 3) := by decide +kernel
theorem dL_town_60 : decode cL_town 60 = .ok (.invokevirtual 22, 3) := by decide +kernel
theorem dL_town_63 : decode cL_town 63 = .ok (.pop, 1) := by decide +kernel
theorem dL_town_64 : decode cL_town 64 = .ok (.iload_n 3, 1) := by decide +kernel
theorem dL_town_65 : decode cL_town 65 = .ok (.bipush 8, 2) := by decide +kernel
theorem dL_town_67 : decode cL_town 67 = .ok (.if_icmp .ge 37, 3) := by decide +kernel
theorem dL_town_70 : decode cL_town 70 = .ok (.aload_n 2, 1) := by decide +kernel
theorem dL_town_71 : decode cL_town 71 = .ok (.iload 4, 2) := by decide +kernel
theorem dL_town_73 : decode cL_town 73 = .ok (.iconst 2, 1) := by decide +kernel
theorem dL_town_74 : decode cL_town 74 = .ok (.ishr, 1) := by decide +kernel
theorem dL_town_75 : decode cL_town 75 = .ok (.bipush 10, 2) := by decide +kernel
theorem dL_town_77 : decode cL_town 77 = .ok (.invokestatic 18, 3) := by decide +kernel
theorem dL_town_80 : decode cL_town 80 = .ok (.iconst 1, 1) := by decide +kernel
theorem dL_town_81 : decode cL_town 81 = .ok (.iload 4, 2) := by decide +kernel
theorem dL_town_83 : decode cL_town 83 = .ok (.iconst 5, 1) := by decide +kernel
theorem dL_town_84 : decode cL_town 84 = .ok (.ishr, 1) := by decide +kernel
theorem dL_town_85 : decode cL_town 85 = .ok (.iconst 2, 1) := by decide +kernel
theorem dL_town_86 : decode cL_town 86 = .ok (.invokestatic 18, 3) := by decide +kernel
theorem dL_town_89 : decode cL_town 89 = .ok (.iadd, 1) := by decide +kernel
theorem dL_town_90 : decode cL_town 90 = .ok (.iload 4, 2) := by decide +kernel
theorem dL_town_92 : decode cL_town 92 = .ok (.bipush 8, 2) := by decide +kernel
theorem dL_town_94 : decode cL_town 94 = .ok (.ishr, 1) := by decide +kernel
theorem dL_town_95 : decode cL_town 95 = .ok (.bipush 6, 2) := by decide +kernel
theorem dL_town_97 : decode cL_town 97 = .ok (.invokestatic 18, 3) := by decide +kernel
theorem dL_town_100 : decode cL_town 100 = .ok (.invokevirtual 26, 3) := by decide +kernel
theorem dL_town_103 : decode cL_town 103 = .ok (.pop, 1) := by decide +kernel
theorem dL_town_104 : decode cL_town 104 = .ok (.iinc 3 1, 3) := by decide +kernel
theorem dL_town_107 : decode cL_town 107 = .ok (.goto (-97), 3) := by decide +kernel
theorem dL_town_110 : decode cL_town 110 = .ok (.iconst 0, 1) := by decide +kernel
theorem dL_town_111 : decode cL_town 111 = .ok (.istore_n 3, 1) := by decide +kernel
theorem dL_town_112 : decode cL_town 112 = .ok (.iload_n 3, 1) := by decide +kernel
theorem dL_town_113 : decode cL_town 113 = .ok (.bipush 12, 2) := by decide +kernel
theorem dL_town_115 : decode cL_town 115 = .ok (.if_icmp .ge 32, 3) := by decide +kernel
theorem dL_town_118 : decode cL_town 118 = .ok (.aload_n 2, 1) := by decide +kernel
theorem dL_town_119 : decode cL_town 119 = .ok (.iload_n 3, 1) := by decide +kernel
theorem dL_town_120 : decode cL_town 120 = .ok (.aload_n 0, 1) := by decide +kernel
theorem dL_town_121 : decode cL_town 121 = .ok (.bipush 6, 2) := by decide +kernel
theorem dL_town_123 : decode cL_town 123 = .ok (.iload_n 3, 1) := by decide +kernel
theorem dL_town_124 : decode cL_town 124 = .ok (.iconst 3, 1) := by decide +kernel
theorem dL_town_125 : decode cL_town 125 = .ok (.irem, 1) := by decide +kernel
theorem dL_town_126 : decode cL_town 126 = .ok (.iadd, 1) := by decide +kernel
theorem dL_town_127 : decode cL_town 127 = .ok (.invokestatic 12, 3) := by decide +kernel
theorem dL_town_130 : decode cL_town 130 = .ok (.iload_n 3, 1) := by decide +kernel
theorem dL_town_131 : decode cL_town 131 = .ok (.ishr, 1) := by decide +kernel
theorem dL_town_132 : decode cL_town 132 = .ok (.bipush 13, 2) := by decide +kernel
theorem dL_town_134 : decode cL_town 134 = .ok (.invokestatic 18, 3) := by decide +kernel
theorem dL_town_137 : decode cL_town 137 = .ok (.invokevirtual 29, 3) := by decide +kernel
theorem dL_town_140 : decode cL_town 140 = .ok (.pop, 1) := by decide +kernel
theorem dL_town_141 : decode cL_town 141 = .ok (.iinc 3 1, 3) := by decide +kernel
theorem dL_town_144 : decode cL_town 144 = .ok (.goto (-32), 3) := by decide +kernel
theorem dL_town_147 : decode cL_town 147 = .ok (.iconst 0, 1) := by decide +kernel
theorem dL_town_148 : decode cL_town 148 = .ok (.istore_n 3, 1) := by decide +kernel
theorem dL_town_149 : decode cL_town 149 = .ok (.iload_n 3, 1) := by decide +kernel
theorem dL_town_150 : decode cL_town 150 = .ok (.iconst 4, 1) := by decide +kernel
theorem dL_town_151 : decode cL_town 151 = .ok (.if_icmp .ge 113, 3) := by decide +kernel
theorem dL_town_154 : decode cL_town 154 = .ok (.aload_n 0, 1) := by decide +kernel
theorem dL_town_155 : decode cL_town 155 = .ok (.bipush 9, 2) := by decide +kernel
theorem dL_town_157 : decode cL_town 157 = .ok (.iload_n 3, 1) := by decide +kernel
theorem dL_town_158 : decode cL_town 158 = .ok (.iconst 2, 1) := by decide +kernel
theorem dL_town_159 : decode cL_town 159 = .ok (.irem, 1) := by decide +kernel
theorem dL_town_160 : decode cL_town 160 = .ok (.iadd, 1) := by decide +kernel
theorem dL_town_161 : decode cL_town 161 = .ok (.invokestatic 12, 3) := by decide +kernel
theorem dL_town_164 : decode cL_town 164 = .ok (.iload_n 3, 1) := by decide +kernel
theorem dL_town_165 : decode cL_town 165 = .ok (.iconst 3, 1) := by decide +kernel
theorem dL_town_166 : decode cL_town 166 = .ok (.imul, 1) := by decide +kernel
theorem dL_town_167 : decode cL_town 167 = .ok (.ishr, 1) := by decide +kernel
theorem dL_town_168 : decode cL_town 168 = .ok (.istore 4, 2) := by decide +kernel
theorem dL_town_170 : decode cL_town 170 = .ok (.iload_n 3, 1) := by decide +kernel
theorem dL_town_171 : decode cL_town 171 = .ok (.iconst 3, 1) := by decide +kernel
theorem dL_town_172 : decode cL_town 172 = .ok (.if_icmp .ge 43, 3) := by decide +kernel
theorem dL_town_175 : decode cL_town 175 = .ok (.aload_n 2, 1) := by decide +kernel
theorem dL_town_176 : decode cL_town 176 = .ok (.iload 4, 2) := by decide +kernel
theorem dL_town_178 : decode cL_town 178 = .ok (.bipush 10, 2) := by decide +kernel
theorem dL_town_180 : decode cL_town 180 = .ok (.invokestatic 18, 3) := by decide +kernel
theorem dL_town_183 : decode cL_town 183 = .ok (.iload 4, 2) := by decide +kernel
theorem dL_town_185 : decode cL_town 185 = .ok (.iconst 4, 1) := by decide +kernel
theorem dL_town_186 : decode cL_town 186 = .ok (.ishr, 1) := by decide +kernel
theorem dL_town_187 : decode cL_town 187 = .ok (.bipush 6, 2) := by decide +kernel
theorem dL_town_189 : decode cL_town 189 = .ok (.invokestatic 18, 3) := by decide +kernel
theorem dL_town_192 : decode cL_town 192 = .ok (.iconst 1, 1) := by decide +kernel
theorem dL_town_193 : decode cL_town 193 = .ok (.iload 4, 2) := by decide +kernel
theorem dL_town_195 : decode cL_town 195 = .ok (.iconst 5, 1) := by decide +kernel
theorem dL_town_196 : decode cL_town 196 = .ok (.ishr, 1) := by decide +kernel
theorem dL_town_197 : decode cL_town 197 = .ok (.iconst 5, 1) := by decide +kernel
theorem dL_town_198 : decode cL_town 198 = .ok (.invokestatic 18, 3) := by decide +kernel
theorem dL_town_201 : decode cL_town 201 = .ok (.iadd, 1) := by decide +kernel
theorem dL_town_202 : decode cL_town 202 = .ok (.iload 4, 2) := by decide +kernel
theorem dL_town_204 : decode cL_town 204 = .ok (.bipush 6, 2) := by decide +kernel
theorem dL_town_206 : decode cL_town 206 = .ok (.ishr, 1) := by decide +kernel
theorem dL_town_207 : decode cL_town 207 = .ok (.bipush 31, 2) := by decide +kernel
theorem dL_town_209 : decode cL_town 209 = .ok (.invokestatic 18, 3) := by decide +kernel
theorem dL_town_212 : decode cL_town 212 = .ok (.invokestatic 32, 3) := by decide +kernel
theorem dL_town_215 : decode cL_town 215 = .ok (.iload_n 3, 1) := by decide +kernel
theorem dL_town_216 : decode cL_town 216 = .ok (.iconst 2, 1) := by decide +kernel
theorem dL_town_217 : decode cL_town 217 = .ok (.if_icmp .ge 41, 3) := by decide +kernel
theorem dL_town_220 : decode cL_town 220 = .ok (.aload_n 2, 1) := by decide +kernel
theorem dL_town_221 : decode cL_town 221 = .ok (.iconst 3, 1) := by decide +kernel
theorem dL_town_222 : decode cL_town 222 = .ok (.iload_n 3, 1) := by decide +kernel
theorem dL_town_223 : decode cL_town 223 = .ok (.imul, 1) := by decide +kernel
theorem dL_town_224 : decode cL_town 224 = .ok (.iload 4, 2) := by decide +kernel
theorem dL_town_226 : decode cL_town 226 = .ok (.iconst 2, 1) := by decide +kernel
theorem dL_town_227 : decode cL_town 227 = .ok (.ishr, 1) := by decide +kernel
theorem dL_town_228 : decode cL_town 228 = .ok (.iconst 3, 1) := by decide +kernel
theorem dL_town_229 : decode cL_town 229 = .ok (.invokestatic 18, 3) := by decide +kernel
theorem dL_town_232 : decode cL_town 232 = .ok (.iadd, 1) := by decide +kernel
theorem dL_town_233 : decode cL_town 233 = .ok (.iload 4, 2) := by decide +kernel
theorem dL_town_235 : decode cL_town 235 = .ok (.iconst 3, 1) := by decide +kernel
theorem dL_town_236 : decode cL_town 236 = .ok (.ishr, 1) := by decide +kernel
theorem dL_town_237 : decode cL_town 237 = .ok (.bipush 8, 2) := by decide +kernel
theorem dL_town_239 : decode cL_town 239 = .ok (.invokestatic 18, 3) := by decide +kernel
theorem dL_town_242 : decode cL_town 242 = .ok (.iconst 1, 1) := by decide +kernel
theorem dL_town_243 : decode cL_town 243 = .ok (.iload 4, 2) := by decide +kernel
theorem dL_town_245 : decode cL_town 245 = .ok (.bipush 7, 2) := by decide +kernel
theorem dL_town_247 : decode cL_town 247 = .ok (.ishr, 1) := by decide +kernel
theorem dL_town_248 : decode cL_town 248 = .ok (.bipush 9, 2) := by decide +kernel
theorem dL_town_250 : decode cL_town 250 = .ok (.invokestatic 18, 3) := by decide +kernel
theorem dL_town_253 : decode cL_town 253 = .ok (.iadd, 1) := by decide +kernel
theorem dL_town_254 : decode cL_town 254 = .ok (.invokevirtual 36, 3) := by decide +kernel
theorem dL_town_257 : decode cL_town 257 = .ok (.pop, 1) := by decide +kernel
theorem dL_town_258 : decode cL_town 258 = .ok (.iinc 3 1, 3) := by decide +kernel
theorem dL_town_261 : decode cL_town 261 = .ok (.goto (-112), 3) := by decide +kernel
theorem dL_town_264 : decode cL_town 264 = .ok (.iload_n 1, 1) := by decide +kernel
theorem dL_town_265 : decode cL_town 265 = .ok (.ifCond .ne 5, 3) := by decide +kernel
theorem dL_town_268 : decode cL_town 268 = .ok (.aload_n 2, 1) := by decide +kernel
theorem dL_town_269 : decode cL_town 269 = .ok (.areturn, 1) := by decide +kernel
theorem dL_town_270 : decode cL_town 270 = .ok (.iconst 0, 1) := by decide +kernel
theorem dL_town_271 : decode cL_town 271 = .ok (.istore_n 3, 1) := by decide +kernel
theorem dL_town_272 : decode cL_town 272 = .ok (.iload_n 3, 1) := by decide +kernel
theorem dL_town_273 : decode cL_town 273 = .ok (.iconst 2, 1) := by decide +kernel
theorem dL_town_274 : decode cL_town 274 = .ok (.if_icmp .ge 65, 3) := by decide +kernel
theorem dL_town_277 : decode cL_town 277 = .ok (.aload_n 2, 1) := by decide +kernel
theorem dL_town_278 : decode cL_town 278 = .ok (.aload_n 0, 1) := by decide +kernel
theorem dL_town_279 : decode cL_town 279 = .ok (.bipush 11, 2) := by decide +kernel
theorem dL_town_281 : decode cL_town 281 = .ok (.invokestatic 12, 3) := by decide +kernel
theorem dL_town_284 : decode cL_town 284 = .ok (.iconst 5, 1) := by decide +kernel
theorem dL_town_285 : decode cL_town 285 = .ok (.iload_n 3, 1) := by decide +kernel
theorem dL_town_286 : decode cL_town 286 = .ok (.imul, 1) := by decide +kernel
theorem dL_town_287 : decode cL_town 287 = .ok (.ishr, 1) := by decide +kernel
theorem dL_town_288 : decode cL_town 288 = .ok (.iconst 5, 1) := by decide +kernel
theorem dL_town_289 : decode cL_town 289 = .ok (.invokestatic 18, 3) := by decide +kernel
theorem dL_town_292 : decode cL_town 292 = .ok (.iconst 5, 1) := by decide +kernel
theorem dL_town_293 : decode cL_town 293 = .ok (.iload_n 3, 1) := by decide +kernel
theorem dL_town_294 : decode cL_town 294 = .ok (.imul, 1) := by decide +kernel
theorem dL_town_295 : decode cL_town 295 = .ok (.iadd, 1) := by decide +kernel
theorem dL_town_296 : decode cL_town 296 = .ok (.iconst 2, 1) := by decide +kernel
theorem dL_town_297 : decode cL_town 297 = .ok (.aload_n 0, 1) := by decide +kernel
theorem dL_town_298 : decode cL_town 298 = .ok (.bipush 11, 2) := by decide +kernel
theorem dL_town_300 : decode cL_town 300 = .ok (.invokestatic 12, 3) := by decide +kernel
theorem dL_town_303 : decode cL_town 303 = .ok (.bipush 9, 2) := by decide +kernel
theorem dL_town_305 : decode cL_town 305 = .ok (.ishr, 1) := by decide +kernel
theorem dL_town_306 : decode cL_town 306 = .ok (.bipush 6, 2) := by decide +kernel
theorem dL_town_308 : decode cL_town 308 = .ok (.invokestatic 18, 3) := by decide +kernel
theorem dL_town_311 : decode cL_town 311 = .ok (.iadd, 1) := by decide +kernel
theorem dL_town_312 : decode cL_town 312 = .ok (.iconst 1, 1) := by decide +kernel
theorem dL_town_313 : decode cL_town 313 = .ok (.aload_n 0, 1) := by decide +kernel
theorem dL_town_314 : decode cL_town 314 = .ok (.bipush 12, 2) := by decide +kernel
theorem dL_town_316 : decode cL_town 316 = .ok (.invokestatic 12, 3) := by decide +kernel
theorem dL_town_319 : decode cL_town 319 = .ok (.iconst 4, 1) := by decide +kernel
theorem dL_town_320 : decode cL_town 320 = .ok (.iload_n 3, 1) := by decide +kernel
theorem dL_town_321 : decode cL_town 321 = .ok (.imul, 1) := by decide +kernel
theorem dL_town_322 : decode cL_town 322 = .ok (.ishr, 1) := by decide +kernel
theorem dL_town_323 : decode cL_town 323 = .ok (.bipush 12, 2) := by decide +kernel
theorem dL_town_325 : decode cL_town 325 = .ok (.invokestatic 18, 3) := by decide +kernel
theorem dL_town_328 : decode cL_town 328 = .ok (.iadd, 1) := by decide +kernel
theorem dL_town_329 : decode cL_town 329 = .ok (.invokevirtual 39, 3) := by decide +kernel
theorem dL_town_332 : decode cL_town 332 = .ok (.pop, 1) := by decide +kernel
theorem dL_town_333 : decode cL_town 333 = .ok (.iinc 3 1, 3) := by decide +kernel
theorem dL_town_336 : decode cL_town 336 = .ok (.goto (-64), 3) := by decide +kernel
theorem dL_town_339 : decode cL_town 339 = .ok (.iconst 0, 1) := by decide +kernel
theorem dL_town_340 : decode cL_town 340 = .ok (.istore_n 3, 1) := by decide +kernel
theorem dL_town_341 : decode cL_town 341 = .ok (.iload_n 3, 1) := by decide +kernel
theorem dL_town_342 : decode cL_town 342 = .ok (.iconst 5, 1) := by decide +kernel
theorem dL_town_343 : decode cL_town 343 = .ok (.if_icmp .ge 61, 3) := by decide +kernel
theorem dL_town_346 : decode cL_town 346 = .ok (.aload_n 2, 1) := by decide +kernel
theorem dL_town_347 : decode cL_town 347 = .ok (.aload_n 0, 1) := by decide +kernel
theorem dL_town_348 : decode cL_town 348 = .ok (.bipush 13, 2) := by decide +kernel
theorem dL_town_350 : decode cL_town 350 = .ok (.invokestatic 12, 3) := by decide +kernel
theorem dL_town_353 : decode cL_town 353 = .ok (.iconst 2, 1) := by decide +kernel
theorem dL_town_354 : decode cL_town 354 = .ok (.iload_n 3, 1) := by decide +kernel
theorem dL_town_355 : decode cL_town 355 = .ok (.imul, 1) := by decide +kernel
theorem dL_town_356 : decode cL_town 356 = .ok (.ishr, 1) := by decide +kernel
theorem dL_town_357 : decode cL_town 357 = .ok (.bipush 10, 2) := by decide +kernel
theorem dL_town_359 : decode cL_town 359 = .ok (.invokestatic 18, 3) := by decide +kernel
theorem dL_town_362 : decode cL_town 362 = .ok (.aload_n 0, 1) := by decide +kernel
theorem dL_town_363 : decode cL_town 363 = .ok (.bipush 14, 2) := by decide +kernel
theorem dL_town_365 : decode cL_town 365 = .ok (.invokestatic 12, 3) := by decide +kernel
theorem dL_town_368 : decode cL_town 368 = .ok (.iconst 3, 1) := by decide +kernel
theorem dL_town_369 : decode cL_town 369 = .ok (.iload_n 3, 1) := by decide +kernel
theorem dL_town_370 : decode cL_town 370 = .ok (.imul, 1) := by decide +kernel
theorem dL_town_371 : decode cL_town 371 = .ok (.ishr, 1) := by decide +kernel
theorem dL_town_372 : decode cL_town 372 = .ok (.bipush 8, 2) := by decide +kernel
theorem dL_town_374 : decode cL_town 374 = .ok (.invokestatic 18, 3) := by decide +kernel
theorem dL_town_377 : decode cL_town 377 = .ok (.iconst 1, 1) := by decide +kernel
theorem dL_town_378 : decode cL_town 378 = .ok (.aload_n 0, 1) := by decide +kernel
theorem dL_town_379 : decode cL_town 379 = .ok (.bipush 12, 2) := by decide +kernel
theorem dL_town_381 : decode cL_town 381 = .ok (.invokestatic 12, 3) := by decide +kernel
theorem dL_town_384 : decode cL_town 384 = .ok (.iconst 3, 1) := by decide +kernel
theorem dL_town_385 : decode cL_town 385 = .ok (.iload_n 3, 1) := by decide +kernel
theorem dL_town_386 : decode cL_town 386 = .ok (.imul, 1) := by decide +kernel
theorem dL_town_387 : decode cL_town 387 = .ok (.ishr, 1) := by decide +kernel
theorem dL_town_388 : decode cL_town 388 = .ok (.bipush 6, 2) := by decide +kernel
theorem dL_town_390 : decode cL_town 390 = .ok (.invokestatic 18, 3) := by decide +kernel
theorem dL_town_393 : decode cL_town 393 = .ok (.iadd, 1) := by decide +kernel
theorem dL_town_394 : decode cL_town 394 = .ok (.invokevirtual 42, 3) := by decide +kernel
theorem dL_town_397 : decode cL_town 397 = .ok (.pop, 1) := by decide +kernel
theorem dL_town_398 : decode cL_town 398 = .ok (.iinc 3 1, 3) := by decide +kernel
theorem dL_town_401 : decode cL_town 401 = .ok (.goto (-60), 3) := by decide +kernel
theorem dL_town_404 : decode cL_town 404 = .ok (.iconst 0, 1) := by decide +kernel
theorem dL_town_405 : decode cL_town 405 = .ok (.istore_n 3, 1) := by decide +kernel
theorem dL_town_406 : decode cL_town 406 = .ok (.iload_n 3, 1) := by decide +kernel
theorem dL_town_407 : decode cL_town 407 = .ok (.iconst 2, 1) := by decide +kernel
theorem dL_town_408 : decode cL_town 408 = .ok (.if_icmp .ge 47, 3) := by decide +kernel
theorem dL_town_411 : decode cL_town 411 = .ok (.aload_n 2, 1) := by decide +kernel
theorem dL_town_412 : decode cL_town 412 = .ok (.aload_n 0, 1) := by decide +kernel
theorem dL_town_413 : decode cL_town 413 = .ok (.bipush 15, 2) := by decide +kernel
theorem dL_town_415 : decode cL_town 415 = .ok (.invokestatic 12, 3) := by decide +kernel
theorem dL_town_418 : decode cL_town 418 = .ok (.iconst 4, 1) := by decide +kernel
theorem dL_town_419 : decode cL_town 419 = .ok (.iload_n 3, 1) := by decide +kernel
theorem dL_town_420 : decode cL_town 420 = .ok (.imul, 1) := by decide +kernel
theorem dL_town_421 : decode cL_town 421 = .ok (.ishr, 1) := by decide +kernel
theorem dL_town_422 : decode cL_town 422 = .ok (.bipush 10, 2) := by decide +kernel
theorem dL_town_424 : decode cL_town 424 = .ok (.invokestatic 18, 3) := by decide +kernel
theorem dL_town_427 : decode cL_town 427 = .ok (.aload_n 0, 1) := by decide +kernel
theorem dL_town_428 : decode cL_town 428 = .ok (.bipush 15, 2) := by decide +kernel
theorem dL_town_430 : decode cL_town 430 = .ok (.invokestatic 12, 3) := by decide +kernel
theorem dL_town_433 : decode cL_town 433 = .ok (.bipush 6, 2) := by decide +kernel
theorem dL_town_435 : decode cL_town 435 = .ok (.iload_n 3, 1) := by decide +kernel
theorem dL_town_436 : decode cL_town 436 = .ok (.imul, 1) := by decide +kernel
theorem dL_town_437 : decode cL_town 437 = .ok (.iconst 2, 1) := by decide +kernel
theorem dL_town_438 : decode cL_town 438 = .ok (.iadd, 1) := by decide +kernel
theorem dL_town_439 : decode cL_town 439 = .ok (.ishr, 1) := by decide +kernel
theorem dL_town_440 : decode cL_town 440 = .ok (.bipush 8, 2) := by decide +kernel
theorem dL_town_442 : decode cL_town 442 = .ok (.invokestatic 18, 3) := by decide +kernel
theorem dL_town_445 : decode cL_town 445 = .ok (.invokevirtual 45, 3) := by decide +kernel
theorem dL_town_448 : decode cL_town 448 = .ok (.pop, 1) := by decide +kernel
theorem dL_town_449 : decode cL_town 449 = .ok (.iinc 3 1, 3) := by decide +kernel
theorem dL_town_452 : decode cL_town 452 = .ok (.goto (-46), 3) := by decide +kernel
theorem dL_town_455 : decode cL_town 455 = .ok (.aload_n 2, 1) := by decide +kernel
theorem dL_town_456 : decode cL_town 456 = .ok (.areturn, 1) := by decide +kernel
theorem dL_pump_0 : decode cL_pump 0 = .ok (.aload_n 0, 1) := by decide +kernel
theorem dL_pump_1 : decode cL_pump 1 = .ok (.iload_n 1, 1) := by decide +kernel
theorem dL_pump_2 : decode cL_pump 2 = .ok (.iload_n 2, 1) := by decide +kernel
theorem dL_pump_3 : decode cL_pump 3 = .ok (.iload_n 3, 1) := by decide +kernel
theorem dL_pump_4 : decode cL_pump 4 = .ok (.iload 4, 2) := by decide +kernel
theorem dL_pump_6 : decode cL_pump 6 = .ok (.invokevirtual 48, 3) := by decide +kernel
theorem dL_pump_9 : decode cL_pump 9 = .ok (.pop, 1) := by decide +kernel
theorem dL_pump_10 : decode cL_pump 10 = .ok (.goto 6, 3) := by decide +kernel
theorem dL_pump_13 : decode cL_pump 13 = .ok (.astore 5, 2) := by decide +kernel
theorem dL_pump_15 : decode cL_pump 15 = .ok (.return_, 1) := by decide +kernel
theorem dL_pump_16 : decode cL_pump 16 = .ok (.return_, 1) := by decide +kernel
theorem dL_law_0 : decode cL_law 0 = .ok (.aload_n 0, 1) := by decide +kernel
theorem dL_law_1 : decode cL_law 1 = .ok (.iconst 1, 1) := by decide +kernel
theorem dL_law_2 : decode cL_law 2 = .ok (.invokestatic 54, 3) := by decide +kernel
theorem dL_law_5 : decode cL_law 5 = .ok (.astore_n 1, 1) := by decide +kernel
theorem dL_law_6 : decode cL_law 6 = .ok (.aload_n 1, 1) := by decide +kernel
theorem dL_law_7 : decode cL_law 7 = .ok (.iconst 2, 1) := by decide +kernel
theorem dL_law_8 : decode cL_law 8 = .ok (.invokevirtual 58, 3) := by decide +kernel
theorem dL_law_11 : decode cL_law 11 = .ok (.istore_n 2, 1) := by decide +kernel
theorem dL_law_12 : decode cL_law 12 = .ok (.iconst 0, 1) := by decide +kernel
theorem dL_law_13 : decode cL_law 13 = .ok (.istore_n 3, 1) := by decide +kernel
theorem dL_law_14 : decode cL_law 14 = .ok (.iload_n 3, 1) := by decide +kernel
theorem dL_law_15 : decode cL_law 15 = .ok (.bipush 16, 2) := by decide +kernel
theorem dL_law_17 : decode cL_law 17 = .ok (.if_icmp .ge 705, 3) := by decide +kernel
theorem dL_law_20 : decode cL_law 20 = .ok (.aload_n 0, 1) := by decide +kernel
theorem dL_law_21 : decode cL_law 21 = .ok (.iload_n 3, 1) := by decide +kernel
theorem dL_law_22 : decode cL_law 22 = .ok (.invokestatic 12, 3) := by decide +kernel
theorem dL_law_25 : decode cL_law 25 = .ok (.iconst 3, 1) := by decide +kernel
theorem dL_law_26 : decode cL_law 26 = .ok (.ishr, 1) := by decide +kernel
theorem dL_law_27 : decode cL_law 27 = .ok (.istore 4, 2) := by decide +kernel
theorem dL_law_29 : decode cL_law 29 = .ok (.iload 4, 2) := by decide +kernel
theorem dL_law_31 : decode cL_law 31 = .ok (.iconst 4, 1) := by decide +kernel
theorem dL_law_32 : decode cL_law 32 = .ok (.invokestatic 18, 3) := by decide +kernel
theorem dL_law_35 : decode cL_law 35 = .ok (.ifCond .ne 26, 3) := by decide +kernel
theorem dL_law_38 : decode cL_law 38 = .ok (.aload_n 1, 1) := by decide +kernel
theorem dL_law_39 : decode cL_law 39 = .ok (.iload 4, 2) := by decide +kernel
theorem dL_law_41 : decode cL_law 41 = .ok (.iconst 2, 1) := by decide +kernel
theorem dL_law_42 : decode cL_law 42 = .ok (.ishr, 1) := by decide +kernel
theorem dL_law_43 : decode cL_law 43 = .ok (.bipush 12, 2) := by decide +kernel
theorem dL_law_45 : decode cL_law 45 = .ok (.invokestatic 18, 3) := by decide +kernel
theorem dL_law_48 : decode cL_law 48 = .ok (.iload 4, 2) := by decide +kernel
theorem dL_law_50 : decode cL_law 50 = .ok (.iconst 5, 1) := by decide +kernel
theorem dL_law_51 : decode cL_law 51 = .ok (.ishr, 1) := by decide +kernel
theorem dL_law_52 : decode cL_law 52 = .ok (.bipush 13, 2) := by decide +kernel
theorem dL_law_54 : decode cL_law 54 = .ok (.invokestatic 18, 3) := by decide +kernel
theorem dL_law_57 : decode cL_law 57 = .ok (.invokevirtual 29, 3) := by decide +kernel
theorem dL_law_60 : decode cL_law 60 = .ok (.pop, 1) := by decide +kernel
theorem dL_law_61 : decode cL_law 61 = .ok (.iload 4, 2) := by decide +kernel
theorem dL_law_63 : decode cL_law 63 = .ok (.iconst 4, 1) := by decide +kernel
theorem dL_law_64 : decode cL_law 64 = .ok (.invokestatic 18, 3) := by decide +kernel
theorem dL_law_67 : decode cL_law 67 = .ok (.iconst 1, 1) := by decide +kernel
theorem dL_law_68 : decode cL_law 68 = .ok (.if_icmp .ne 36, 3) := by decide +kernel
theorem dL_law_71 : decode cL_law 71 = .ok (.aload_n 1, 1) := by decide +kernel
theorem dL_law_72 : decode cL_law 72 = .ok (.iload 4, 2) := by decide +kernel
theorem dL_law_74 : decode cL_law 74 = .ok (.iconst 2, 1) := by decide +kernel
theorem dL_law_75 : decode cL_law 75 = .ok (.ishr, 1) := by decide +kernel
theorem dL_law_76 : decode cL_law 76 = .ok (.bipush 10, 2) := by decide +kernel
theorem dL_law_78 : decode cL_law 78 = .ok (.invokestatic 18, 3) := by decide +kernel
theorem dL_law_81 : decode cL_law 81 = .ok (.iload 4, 2) := by decide +kernel
theorem dL_law_83 : decode cL_law 83 = .ok (.iconst 5, 1) := by decide +kernel
theorem dL_law_84 : decode cL_law 84 = .ok (.ishr, 1) := by decide +kernel
theorem dL_law_85 : decode cL_law 85 = .ok (.bipush 8, 2) := by decide +kernel
theorem dL_law_87 : decode cL_law 87 = .ok (.invokestatic 18, 3) := by decide +kernel
theorem dL_law_90 : decode cL_law 90 = .ok (.iload 4, 2) := by decide +kernel
theorem dL_law_92 : decode cL_law 92 = .ok (.bipush 7, 2) := by decide +kernel
theorem dL_law_94 : decode cL_law 94 = .ok (.ishr, 1) := by decide +kernel
theorem dL_law_95 : decode cL_law 95 = .ok (.bipush 10, 2) := by decide +kernel
theorem dL_law_97 : decode cL_law 97 = .ok (.invokestatic 18, 3) := by decide +kernel
theorem dL_law_100 : decode cL_law 100 = .ok (.invokevirtual 22, 3) := by decide +kernel
theorem dL_law_103 : decode cL_law 103 = .ok (.pop, 1) := by decide +kernel
theorem dL_law_104 : decode cL_law 104 = .ok (.iconst 5, 1) := by decide +kernel
theorem dL_law_105 : decode cL_law 105 = .ok (.newarray .int, 2) := by decide +kernel
theorem dL_law_107 : decode cL_law 107 = .ok (.astore 5, 2) := by decide +kernel
theorem dL_law_109 : decode cL_law 109 = .ok (.iconst 0, 1) := by decide +kernel
theorem dL_law_110 : decode cL_law 110 = .ok (.istore 6, 2) := by decide +kernel
theorem dL_law_112 : decode cL_law 112 = .ok (.iload 6, 2) := by decide +kernel
theorem dL_law_114 : decode cL_law 114 = .ok (.iconst 5, 1) := by decide +kernel
theorem dL_law_115 : decode cL_law 115 = .ok (.if_icmp .ge 21, 3) := by decide +kernel
theorem dL_law_118 : decode cL_law 118 = .ok (.aload 5, 2) := by decide +kernel
theorem dL_law_120 : decode cL_law 120 = .ok (.iload 6, 2) := by decide +kernel
theorem dL_law_122 : decode cL_law 122 = .ok (.aload_n 1, 1) := by decide +kernel
theorem dL_law_123 : decode cL_law 123 = .ok (.iload 6, 2) := by decide +kernel
theorem dL_law_125 : decode cL_law 125 = .ok (.iconst 3, 1) := by decide +kernel
theorem dL_law_126 : decode cL_law 126 = .ok (.invokevirtual 62, 3) := by decide +kernel
theorem dL_law_129 : decode cL_law 129 = .ok (.iastore, 1) := by decide +kernel
theorem dL_law_130 : decode cL_law 130 = .ok (.iinc 6 1, 3) := by decide +kernel
theorem dL_law_133 : decode cL_law 133 = .ok (.goto (-21), 3) := by decide +kernel
theorem dL_law_136 : decode cL_law 136 = .ok (.iconst 5, 1) := by decide +kernel
theorem dL_law_137 : decode cL_law 137 = .ok (.newarray .int, 2) := by decide +kernel
theorem dL_law_139 : decode cL_law 139 = .ok (.astore 6, 2) := by decide +kernel
theorem dL_law_141 : decode cL_law 141 = .ok (.iconst 0, 1) := by decide +kernel
theorem dL_law_142 : decode cL_law 142 = .ok (.istore 7, 2) := by decide +kernel
theorem dL_law_144 : decode cL_law 144 = .ok (.iload 7, 2) := by decide +kernel
theorem dL_law_146 : decode cL_law 146 = .ok (.iconst 5, 1) := by decide +kernel
theorem dL_law_147 : decode cL_law 147 = .ok (.if_icmp .ge 21, 3) := by decide +kernel
theorem dL_law_150 : decode cL_law 150 = .ok (.aload 6, 2) := by decide +kernel
theorem dL_law_152 : decode cL_law 152 = .ok (.iload 7, 2) := by decide +kernel
theorem dL_law_154 : decode cL_law 154 = .ok (.aload_n 1, 1) := by decide +kernel
theorem dL_law_155 : decode cL_law 155 = .ok (.iload 7, 2) := by decide +kernel
theorem dL_law_157 : decode cL_law 157 = .ok (.iconst 2, 1) := by decide +kernel
theorem dL_law_158 : decode cL_law 158 = .ok (.invokevirtual 62, 3) := by decide +kernel
theorem dL_law_161 : decode cL_law 161 = .ok (.iastore, 1) := by decide +kernel
theorem dL_law_162 : decode cL_law 162 = .ok (.iinc 7 1, 3) := by decide +kernel
theorem dL_law_165 : decode cL_law 165 = .ok (.goto (-21), 3) := by decide +kernel
theorem dL_law_168 : decode cL_law 168 = .ok (.aload_n 1, 1) := by decide +kernel
theorem dL_law_169 : decode cL_law 169 = .ok (.invokevirtual 65, 3) := by decide +kernel
theorem dL_law_172 : decode cL_law 172 = .ok (.lstore 7, 2) := by decide +kernel
theorem dL_law_174 : decode cL_law 174 = .ok (.iconst 1, 1) := by decide +kernel
theorem dL_law_175 : decode cL_law 175 = .ok (.iload 4, 2) := by decide +kernel
theorem dL_law_177 : decode cL_law 177 = .ok (.iconst 4, 1) := by decide +kernel
theorem dL_law_178 : decode cL_law 178 = .ok (.ishr, 1) := by decide +kernel
theorem dL_law_179 : decode cL_law 179 = .ok (.iconst 4, 1) := by decide +kernel
theorem dL_law_180 : decode cL_law 180 = .ok (.invokestatic 18, 3) := by decide +kernel
theorem dL_law_183 : decode cL_law 183 = .ok (.iadd, 1) := by decide +kernel
theorem dL_law_184 : decode cL_law 184 = .ok (.istore 9, 2) := by decide +kernel
theorem dL_law_186 : decode cL_law 186 = .ok (.iconst 4, 1) := by decide +kernel
theorem dL_law_187 : decode cL_law 187 = .ok (.newarray .int, 2) := by decide +kernel
theorem dL_law_189 : decode cL_law 189 = .ok (.astore 10, 2) := by decide +kernel
theorem dL_law_191 : decode cL_law 191 = .ok (.iconst 0, 1) := by decide +kernel
theorem dL_law_192 : decode cL_law 192 = .ok (.istore 11, 2) := by decide +kernel
theorem dL_law_194 : decode cL_law 194 = .ok (.iload 11, 2) := by decide +kernel
theorem dL_law_196 : decode cL_law 196 = .ok (.iconst 4, 1) := by decide +kernel
theorem dL_law_197 : decode cL_law 197 = .ok (.if_icmp .ge 22, 3) := by decide +kernel
theorem dL_law_200 : decode cL_law 200 = .ok (.aload 10, 2) := by decide +kernel
theorem dL_law_202 : decode cL_law 202 = .ok (.iload 11, 2) := by decide +kernel
theorem dL_law_204 : decode cL_law 204 = .ok (.aload_n 1, 1) := by decide +kernel
theorem dL_law_205 : decode cL_law 205 = .ok (.iload 9, 2) := by decide +kernel
theorem dL_law_207 : decode cL_law 207 = .ok (.iload 11, 2) := by decide +kernel
theorem dL_law_209 : decode cL_law 209 = .ok (.invokevirtual 69, 3) := by decide +kernel
theorem dL_law_212 : decode cL_law 212 = .ok (.iastore, 1) := by decide +kernel
theorem dL_law_213 : decode cL_law 213 = .ok (.iinc 11 1, 3) := by decide +kernel
theorem dL_law_216 : decode cL_law 216 = .ok (.goto (-22), 3) := by decide +kernel
theorem dL_law_219 : decode cL_law 219 = .ok (.aload_n 1, 1) := by decide +kernel
theorem dL_law_220 : decode cL_law 220 = .ok (.iconst 1, 1) := by decide +kernel
theorem dL_law_221 : decode cL_law 221 = .ok (.invokevirtual 72, 3) := by decide +kernel
theorem dL_law_224 : decode cL_law 224 = .ok (.istore 11, 2) := by decide +kernel
theorem dL_law_226 : decode cL_law 226 = .ok (.aload_n 1, 1) := by decide +kernel
theorem dL_law_227 : decode cL_law 227 = .ok (.invokevirtual 65, 3) := by decide +kernel
theorem dL_law_230 : decode cL_law 230 = .ok (.lload 7, 2) := by decide +kernel
theorem dL_law_232 : decode cL_law 232 = .ok (.lcmp, 1) := by decide +kernel
theorem dL_law_233 : decode cL_law 233 = .ok (.ifCond .ne 31, 3) := by decide +kernel
theorem dL_law_236 : decode cL_law 236 = .ok (.iload 11, 2) := by decide +kernel
theorem dL_law_238 : decode cL_law 238 = .ok (.ifCond .ne 7, 3) := by decide +kernel
theorem dL_law_241 : decode cL_law 241 = .ok (.iconst 1, 1) := by decide +kernel
theorem dL_law_242 : decode cL_law 242 = .ok (.goto 4, 3) := by decide +kernel
theorem dL_law_245 : decode cL_law 245 = .ok (.iconst 0, 1) := by decide +kernel
theorem dL_law_246 : decode cL_law 246 = .ok (.aload_n 1, 1) := by decide +kernel
theorem dL_law_247 : decode cL_law 247 = .ok (.iconst 1, 1) := by decide +kernel
theorem dL_law_248 : decode cL_law 248 = .ok (.iconst 4, 1) := by decide +kernel
theorem dL_law_249 : decode cL_law 249 = .ok (.invokevirtual 75, 3) := by decide +kernel
theorem dL_law_252 : decode cL_law 252 = .ok (.iconst 1, 1) := by decide +kernel
theorem dL_law_253 : decode cL_law 253 = .ok (.if_icmp .ne 7, 3) := by decide +kernel
theorem dL_law_256 : decode cL_law 256 = .ok (.iconst 1, 1) := by decide +kernel
theorem dL_law_257 : decode cL_law 257 = .ok (.goto 4, 3) := by decide +kernel
theorem dL_law_260 : decode cL_law 260 = .ok (.iconst 0, 1) := by decide +kernel
theorem dL_law_261 : decode cL_law 261 = .ok (.if_icmp .eq 5, 3) := by decide +kernel
theorem dL_law_264 : decode cL_law 264 = .ok (.iconst 0, 1) := by decide +kernel
theorem dL_law_265 : decode cL_law 265 = .ok (.ireturn, 1) := by decide +kernel
theorem dL_law_266 : decode cL_law 266 = .ok (.aload_n 1, 1) := by decide +kernel
theorem dL_law_267 : decode cL_law 267 = .ok (.iload 9, 2) := by decide +kernel
theorem dL_law_269 : decode cL_law 269 = .ok (.invokevirtual 78, 3) := by decide +kernel
theorem dL_law_272 : decode cL_law 272 = .ok (.aload 10, 2) := by decide +kernel
theorem dL_law_274 : decode cL_law 274 = .ok (.iconst 1, 1) := by decide +kernel
theorem dL_law_275 : decode cL_law 275 = .ok (.iaload, 1) := by decide +kernel
theorem dL_law_276 : decode cL_law 276 = .ok (.if_icmp .ne 28, 3) := by decide +kernel
theorem dL_law_279 : decode cL_law 279 = .ok (.aload_n 1, 1) := by decide +kernel
theorem dL_law_280 : decode cL_law 280 = .ok (.iconst 4, 1) := by decide +kernel
theorem dL_law_281 : decode cL_law 281 = .ok (.invokevirtual 58, 3) := by decide +kernel
theorem dL_law_284 : decode cL_law 284 = .ok (.aload 10, 2) := by decide +kernel
theorem dL_law_286 : decode cL_law 286 = .ok (.iconst 0, 1) := by decide +kernel
theorem dL_law_287 : decode cL_law 287 = .ok (.iaload, 1) := by decide +kernel
theorem dL_law_288 : decode cL_law 288 = .ok (.if_icmp .ne 16, 3) := by decide +kernel
theorem dL_law_291 : decode cL_law 291 = .ok (.aload_n 1, 1) := by decide +kernel
theorem dL_law_292 : decode cL_law 292 = .ok (.bipush 6, 2) := by decide +kernel
theorem dL_law_294 : decode cL_law 294 = .ok (.invokevirtual 58, 3) := by decide +kernel
theorem dL_law_297 : decode cL_law 297 = .ok (.aload 10, 2) := by decide +kernel
theorem dL_law_299 : decode cL_law 299 = .ok (.iconst 2, 1) := by decide +kernel
theorem dL_law_300 : decode cL_law 300 = .ok (.iaload, 1) := by decide +kernel
theorem dL_law_301 : decode cL_law 301 = .ok (.if_icmp .eq 5, 3) := by decide +kernel
theorem dL_law_304 : decode cL_law 304 = .ok (.iconst 0, 1) := by decide +kernel
theorem dL_law_305 : decode cL_law 305 = .ok (.ireturn, 1) := by decide +kernel
theorem dL_law_306 : decode cL_law 306 = .ok (.iconst 0, 1) := by decide +kernel
theorem dL_law_307 : decode cL_law 307 = .ok (.istore 12, 2) := by decide +kernel
theorem dL_law_309 : decode cL_law 309 = .ok (.iconst 0, 1) := by decide +kernel
theorem dL_law_310 : decode cL_law 310 = .ok (.istore 13, 2) := by decide +kernel
theorem dL_law_312 : decode cL_law 312 = .ok (.iload 13, 2) := by decide +kernel
theorem dL_law_314 : decode cL_law 314 = .ok (.iconst 2, 1) := by decide +kernel
theorem dL_law_315 : decode cL_law 315 = .ok (.if_icmp .ge 69, 3) := by decide +kernel
theorem dL_law_318 : decode cL_law 318 = .ok (.aload_n 1, 1) := by decide +kernel
theorem dL_law_319 : decode cL_law 319 = .ok (.iload 13, 2) := by decide +kernel
theorem dL_law_321 : decode cL_law 321 = .ok (.invokestatic 81, 3) := by decide +kernel
theorem dL_law_324 : decode cL_law 324 = .ok (.ifCond .ne 6, 3) := by decide +kernel
theorem dL_law_327 : decode cL_law 327 = .ok (.goto 51, 3) := by decide +kernel
theorem dL_law_330 : decode cL_law 330 = .ok (.iload 12, 2) := by decide +kernel
theorem dL_law_332 : decode cL_law 332 = .ok (.aload_n 1, 1) := by decide +kernel
theorem dL_law_333 : decode cL_law 333 = .ok (.iload 13, 2) := by decide +kernel
theorem dL_law_335 : decode cL_law 335 = .ok (.iconst 3, 1) := by decide +kernel
theorem dL_law_336 : decode cL_law 336 = .ok (.invokevirtual 85, 3) := by decide +kernel
theorem dL_law_339 : decode cL_law 339 = .ok (.iadd, 1) := by decide +kernel
theorem dL_law_340 : decode cL_law 340 = .ok (.istore 12, 2) := by decide +kernel
theorem dL_law_342 : decode cL_law 342 = .ok (.aload_n 1, 1) := by decide +kernel
theorem dL_law_343 : decode cL_law 343 = .ok (.iload 13, 2) := by decide +kernel
theorem dL_law_345 : decode cL_law 345 = .ok (.iconst 3, 1) := by decide +kernel
theorem dL_law_346 : decode cL_law 346 = .ok (.invokevirtual 85, 3) := by decide +kernel
theorem dL_law_349 : decode cL_law 349 = .ok (.aload_n 1, 1) := by decide +kernel
theorem dL_law_350 : decode cL_law 350 = .ok (.iload 13, 2) := by decide +kernel
theorem dL_law_352 : decode cL_law 352 = .ok (.iconst 2, 1) := by decide +kernel
theorem dL_law_353 : decode cL_law 353 = .ok (.invokevirtual 85, 3) := by decide +kernel
theorem dL_law_356 : decode cL_law 356 = .ok (.if_icmp .gt 20, 3) := by decide +kernel
theorem dL_law_359 : decode cL_law 359 = .ok (.aload_n 1, 1) := by decide +kernel
theorem dL_law_360 : decode cL_law 360 = .ok (.iload 13, 2) := by decide +kernel
theorem dL_law_362 : decode cL_law 362 = .ok (.iconst 3, 1) := by decide +kernel
theorem dL_law_363 : decode cL_law 363 = .ok (.invokevirtual 85, 3) := by decide +kernel
theorem dL_law_366 : decode cL_law 366 = .ok (.aload_n 1, 1) := by decide +kernel
theorem dL_law_367 : decode cL_law 367 = .ok (.iload 13, 2) := by decide +kernel
theorem dL_law_369 : decode cL_law 369 = .ok (.iconst 4, 1) := by decide +kernel
theorem dL_law_370 : decode cL_law 370 = .ok (.invokevirtual 85, 3) := by decide +kernel
theorem dL_law_373 : decode cL_law 373 = .ok (.if_icmp .ge 5, 3) := by decide +kernel
theorem dL_law_376 : decode cL_law 376 = .ok (.iconst 0, 1) := by decide +kernel
theorem dL_law_377 : decode cL_law 377 = .ok (.ireturn, 1) := by decide +kernel
theorem dL_law_378 : decode cL_law 378 = .ok (.iinc 13 1, 3) := by decide +kernel
theorem dL_law_381 : decode cL_law 381 = .ok (.goto (-69), 3) := by decide +kernel
theorem dL_law_384 : decode cL_law 384 = .ok (.iconst 4, 1) := by decide +kernel
theorem dL_law_385 : decode cL_law 385 = .ok (.newarray .int, 2) := by decide +kernel
theorem dL_law_387 : decode cL_law 387 = .ok (.astore 13, 2) := by decide +kernel
theorem dL_law_389 : decode cL_law 389 = .ok (.iconst 0, 1) := by decide +kernel
theorem dL_law_390 : decode cL_law 390 = .ok (.istore 14, 2) := by decide +kernel
theorem dL_law_392 : decode cL_law 392 = .ok (.iload 14, 2) := by decide +kernel
theorem dL_law_394 : decode cL_law 394 = .ok (.iconst 5, 1) := by decide +kernel
theorem dL_law_395 : decode cL_law 395 = .ok (.if_icmp .ge 129, 3) := by decide +kernel
theorem dL_law_398 : decode cL_law 398 = .ok (.aload_n 1, 1) := by decide +kernel
theorem dL_law_399 : decode cL_law 399 = .ok (.iload 14, 2) := by decide +kernel
theorem dL_law_401 : decode cL_law 401 = .ok (.iconst 3, 1) := by decide +kernel
theorem dL_law_402 : decode cL_law 402 = .ok (.invokevirtual 62, 3) := by decide +kernel
theorem dL_law_405 : decode cL_law 405 = .ok (.istore 15, 2) := by decide +kernel
theorem dL_law_407 : decode cL_law 407 = .ok (.aload 13, 2) := by decide +kernel
theorem dL_law_409 : decode cL_law 409 = .ok (.iload 15, 2) := by decide +kernel
theorem dL_law_411 : decode cL_law 411 = .ok (.dup2, 1) := by decide +kernel
theorem dL_law_412 : decode cL_law 412 = .ok (.iaload, 1) := by decide +kernel
theorem dL_law_413 : decode cL_law 413 = .ok (.aload_n 1, 1) := by decide +kernel
theorem dL_law_414 : decode cL_law 414 = .ok (.iload 14, 2) := by decide +kernel
theorem dL_law_416 : decode cL_law 416 = .ok (.iconst 2, 1) := by decide +kernel
theorem dL_law_417 : decode cL_law 417 = .ok (.invokevirtual 62, 3) := by decide +kernel
theorem dL_law_420 : decode cL_law 420 = .ok (.iadd, 1) := by decide +kernel
theorem dL_law_421 : decode cL_law 421 = .ok (.iastore, 1) := by decide +kernel
theorem dL_law_422 : decode cL_law 422 = .ok (.iload 15, 2) := by decide +kernel
theorem dL_law_424 : decode cL_law 424 = .ok (.aload 5, 2) := by decide +kernel
theorem dL_law_426 : decode cL_law 426 = .ok (.iload 14, 2) := by decide +kernel
theorem dL_law_428 : decode cL_law 428 = .ok (.iaload, 1) := by decide +kernel
theorem dL_law_429 : decode cL_law 429 = .ok (.if_icmp .lt 87, 3) := by decide +kernel
theorem dL_law_432 : decode cL_law 432 = .ok (.aload 5, 2) := by decide +kernel
theorem dL_law_434 : decode cL_law 434 = .ok (.iload 14, 2) := by decide +kernel
theorem dL_law_436 : decode cL_law 436 = .ok (.iaload, 1) := by decide +kernel
theorem dL_law_437 : decode cL_law 437 = .ok (.iconst 2, 1) := by decide +kernel
theorem dL_law_438 : decode cL_law 438 = .ok (.if_icmp .ne 24, 3) := by decide +kernel
theorem dL_law_441 : decode cL_law 441 = .ok (.iload 15, 2) := by decide +kernel
theorem dL_law_443 : decode cL_law 443 = .ok (.iconst 2, 1) := by decide +kernel
theorem dL_law_444 : decode cL_law 444 = .ok (.if_icmp .ne 72, 3) := by decide +kernel
theorem dL_law_447 : decode cL_law 447 = .ok (.aload_n 1, 1) := by decide +kernel
theorem dL_law_448 : decode cL_law 448 = .ok (.iload 14, 2) := by decide +kernel
theorem dL_law_450 : decode cL_law 450 = .ok (.iconst 2, 1) := by decide +kernel
theorem dL_law_451 : decode cL_law 451 = .ok (.invokevirtual 62, 3) := by decide +kernel
theorem dL_law_454 : decode cL_law 454 = .ok (.aload 6, 2) := by decide +kernel
theorem dL_law_456 : decode cL_law 456 = .ok (.iload 14, 2) := by decide +kernel
theorem dL_law_458 : decode cL_law 458 = .ok (.iaload, 1) := by decide +kernel
theorem dL_law_459 : decode cL_law 459 = .ok (.if_icmp .ne 57, 3) := by decide +kernel
theorem dL_law_462 : decode cL_law 462 = .ok (.aload_n 1, 1) := by decide +kernel
theorem dL_law_463 : decode cL_law 463 = .ok (.iload 14, 2) := by decide +kernel
theorem dL_law_465 : decode cL_law 465 = .ok (.iconst 2, 1) := by decide +kernel
theorem dL_law_466 : decode cL_law 466 = .ok (.invokevirtual 62, 3) := by decide +kernel
theorem dL_law_469 : decode cL_law 469 = .ok (.aload 6, 2) := by decide +kernel
theorem dL_law_471 : decode cL_law 471 = .ok (.iload 14, 2) := by decide +kernel
theorem dL_law_473 : decode cL_law 473 = .ok (.iaload, 1) := by decide +kernel
theorem dL_law_474 : decode cL_law 474 = .ok (.if_icmp .gt 42, 3) := by decide +kernel
theorem dL_law_477 : decode cL_law 477 = .ok (.aload_n 1, 1) := by decide +kernel
theorem dL_law_478 : decode cL_law 478 = .ok (.iload 14, 2) := by decide +kernel
theorem dL_law_480 : decode cL_law 480 = .ok (.iconst 2, 1) := by decide +kernel
theorem dL_law_481 : decode cL_law 481 = .ok (.invokevirtual 62, 3) := by decide +kernel
theorem dL_law_484 : decode cL_law 484 = .ok (.ifCond .lt 32, 3) := by decide +kernel
theorem dL_law_487 : decode cL_law 487 = .ok (.iload 15, 2) := by decide +kernel
theorem dL_law_489 : decode cL_law 489 = .ok (.iconst 3, 1) := by decide +kernel
theorem dL_law_490 : decode cL_law 490 = .ok (.if_icmp .ne 7, 3) := by decide +kernel
theorem dL_law_493 : decode cL_law 493 = .ok (.iconst 1, 1) := by decide +kernel
theorem dL_law_494 : decode cL_law 494 = .ok (.goto 4, 3) := by decide +kernel
theorem dL_law_497 : decode cL_law 497 = .ok (.iconst 0, 1) := by decide +kernel
theorem dL_law_498 : decode cL_law 498 = .ok (.aload_n 1, 1) := by decide +kernel
theorem dL_law_499 : decode cL_law 499 = .ok (.iload 14, 2) := by decide +kernel
theorem dL_law_501 : decode cL_law 501 = .ok (.iconst 2, 1) := by decide +kernel
theorem dL_law_502 : decode cL_law 502 = .ok (.invokevirtual 62, 3) := by decide +kernel
theorem dL_law_505 : decode cL_law 505 = .ok (.ifCond .ne 7, 3) := by decide +kernel
theorem dL_law_508 : decode cL_law 508 = .ok (.iconst 1, 1) := by decide +kernel
theorem dL_law_509 : decode cL_law 509 = .ok (.goto 4, 3) := by decide +kernel
theorem dL_law_512 : decode cL_law 512 = .ok (.iconst 0, 1) := by decide +kernel
theorem dL_law_513 : decode cL_law 513 = .ok (.if_icmp .eq 5, 3) := by decide +kernel
theorem dL_law_516 : decode cL_law 516 = .ok (.iconst 0, 1) := by decide +kernel
theorem dL_law_517 : decode cL_law 517 = .ok (.ireturn, 1) := by decide +kernel
theorem dL_law_518 : decode cL_law 518 = .ok (.iinc 14 1, 3) := by decide +kernel
theorem dL_law_521 : decode cL_law 521 = .ok (.goto (-129), 3) := by decide +kernel
theorem dL_law_524 : decode cL_law 524 = .ok (.aload 13, 2) := by decide +kernel
theorem dL_law_526 : decode cL_law 526 = .ok (.iconst 0, 1) := by decide +kernel
theorem dL_law_527 : decode cL_law 527 = .ok (.iaload, 1) := by decide +kernel
theorem dL_law_528 : decode cL_law 528 = .ok (.aload_n 1, 1) := by decide +kernel
theorem dL_law_529 : decode cL_law 529 = .ok (.iconst 2, 1) := by decide +kernel
theorem dL_law_530 : decode cL_law 530 = .ok (.invokevirtual 58, 3) := by decide +kernel
theorem dL_law_533 : decode cL_law 533 = .ok (.if_icmp .ne 60, 3) := by decide +kernel
theorem dL_law_536 : decode cL_law 536 = .ok (.aload 13, 2) := by decide +kernel
theorem dL_law_538 : decode cL_law 538 = .ok (.iconst 1, 1) := by decide +kernel
theorem dL_law_539 : decode cL_law 539 = .ok (.iaload, 1) := by decide +kernel
theorem dL_law_540 : decode cL_law 540 = .ok (.aload_n 1, 1) := by decide +kernel
theorem dL_law_541 : decode cL_law 541 = .ok (.iconst 3, 1) := by decide +kernel
theorem dL_law_542 : decode cL_law 542 = .ok (.invokevirtual 58, 3) := by decide +kernel
theorem dL_law_545 : decode cL_law 545 = .ok (.if_icmp .ne 48, 3) := by decide +kernel
theorem dL_law_548 : decode cL_law 548 = .ok (.aload 13, 2) := by decide +kernel
theorem dL_law_550 : decode cL_law 550 = .ok (.iconst 2, 1) := by decide +kernel
theorem dL_law_551 : decode cL_law 551 = .ok (.iaload, 1) := by decide +kernel
theorem dL_law_552 : decode cL_law 552 = .ok (.aload_n 1, 1) := by decide +kernel
theorem dL_law_553 : decode cL_law 553 = .ok (.iconst 4, 1) := by decide +kernel
theorem dL_law_554 : decode cL_law 554 = .ok (.invokevirtual 58, 3) := by decide +kernel
theorem dL_law_557 : decode cL_law 557 = .ok (.if_icmp .ne 36, 3) := by decide +kernel
theorem dL_law_560 : decode cL_law 560 = .ok (.aload 13, 2) := by decide +kernel
theorem dL_law_562 : decode cL_law 562 = .ok (.iconst 2, 1) := by decide +kernel
theorem dL_law_563 : decode cL_law 563 = .ok (.iaload, 1) := by decide +kernel
theorem dL_law_564 : decode cL_law 564 = .ok (.iload 12, 2) := by decide +kernel
theorem dL_law_566 : decode cL_law 566 = .ok (.if_icmp .ne 27, 3) := by decide +kernel
theorem dL_law_569 : decode cL_law 569 = .ok (.iload_n 2, 1) := by decide +kernel
theorem dL_law_570 : decode cL_law 570 = .ok (.aload 13, 2) := by decide +kernel
theorem dL_law_572 : decode cL_law 572 = .ok (.iconst 0, 1) := by decide +kernel
theorem dL_law_573 : decode cL_law 573 = .ok (.iaload, 1) := by decide +kernel
theorem dL_law_574 : decode cL_law 574 = .ok (.isub, 1) := by decide +kernel
theorem dL_law_575 : decode cL_law 575 = .ok (.aload 13, 2) := by decide +kernel
theorem dL_law_577 : decode cL_law 577 = .ok (.iconst 1, 1) := by decide +kernel
theorem dL_law_578 : decode cL_law 578 = .ok (.iaload, 1) := by decide +kernel
theorem dL_law_579 : decode cL_law 579 = .ok (.isub, 1) := by decide +kernel
theorem dL_law_580 : decode cL_law 580 = .ok (.aload 13, 2) := by decide +kernel
theorem dL_law_582 : decode cL_law 582 = .ok (.iconst 2, 1) := by decide +kernel
theorem dL_law_583 : decode cL_law 583 = .ok (.iaload, 1) := by decide +kernel
theorem dL_law_584 : decode cL_law 584 = .ok (.isub, 1) := by decide +kernel
theorem dL_law_585 : decode cL_law 585 = .ok (.aload_n 1, 1) := by decide +kernel
theorem dL_law_586 : decode cL_law 586 = .ok (.iconst 5, 1) := by decide +kernel
theorem dL_law_587 : decode cL_law 587 = .ok (.invokevirtual 58, 3) := by decide +kernel
theorem dL_law_590 : decode cL_law 590 = .ok (.if_icmp .eq 5, 3) := by decide +kernel
theorem dL_law_593 : decode cL_law 593 = .ok (.iconst 0, 1) := by decide +kernel
theorem dL_law_594 : decode cL_law 594 = .ok (.ireturn, 1) := by decide +kernel
theorem dL_law_595 : decode cL_law 595 = .ok (.iconst 0, 1) := by decide +kernel
theorem dL_law_596 : decode cL_law 596 = .ok (.istore 14, 2) := by decide +kernel
theorem dL_law_598 : decode cL_law 598 = .ok (.iload 14, 2) := by decide +kernel
theorem dL_law_600 : decode cL_law 600 = .ok (.bipush 80, 2) := by decide +kernel
theorem dL_law_602 : decode cL_law 602 = .ok (.if_icmp .ge 114, 3) := by decide +kernel
theorem dL_law_605 : decode cL_law 605 = .ok (.aload_n 1, 1) := by decide +kernel
theorem dL_law_606 : decode cL_law 606 = .ok (.iload 14, 2) := by decide +kernel
theorem dL_law_608 : decode cL_law 608 = .ok (.bipush 10, 2) := by decide +kernel
theorem dL_law_610 : decode cL_law 610 = .ok (.irem, 1) := by decide +kernel
theorem dL_law_611 : decode cL_law 611 = .ok (.iload 14, 2) := by decide +kernel
theorem dL_law_613 : decode cL_law 613 = .ok (.bipush 10, 2) := by decide +kernel
theorem dL_law_615 : decode cL_law 615 = .ok (.idiv, 1) := by decide +kernel
theorem dL_law_616 : decode cL_law 616 = .ok (.iconst 2, 1) := by decide +kernel
theorem dL_law_617 : decode cL_law 617 = .ok (.invokevirtual 88, 3) := by decide +kernel
theorem dL_law_620 : decode cL_law 620 = .ok (.ifCond .lt 88, 3) := by decide +kernel
theorem dL_law_623 : decode cL_law 623 = .ok (.aload_n 1, 1) := by decide +kernel
theorem dL_law_624 : decode cL_law 624 = .ok (.iload 14, 2) := by decide +kernel
theorem dL_law_626 : decode cL_law 626 = .ok (.bipush 10, 2) := by decide +kernel
theorem dL_law_628 : decode cL_law 628 = .ok (.irem, 1) := by decide +kernel
theorem dL_law_629 : decode cL_law 629 = .ok (.iload 14, 2) := by decide +kernel
theorem dL_law_631 : decode cL_law 631 = .ok (.bipush 10, 2) := by decide +kernel
theorem dL_law_633 : decode cL_law 633 = .ok (.idiv, 1) := by decide +kernel
theorem dL_law_634 : decode cL_law 634 = .ok (.iconst 2, 1) := by decide +kernel
theorem dL_law_635 : decode cL_law 635 = .ok (.invokevirtual 88, 3) := by decide +kernel
theorem dL_law_638 : decode cL_law 638 = .ok (.bipush 40, 2) := by decide +kernel
theorem dL_law_640 : decode cL_law 640 = .ok (.if_icmp .gt 68, 3) := by decide +kernel
theorem dL_law_643 : decode cL_law 643 = .ok (.aload_n 1, 1) := by decide +kernel
theorem dL_law_644 : decode cL_law 644 = .ok (.iload 14, 2) := by decide +kernel
theorem dL_law_646 : decode cL_law 646 = .ok (.bipush 10, 2) := by decide +kernel
theorem dL_law_648 : decode cL_law 648 = .ok (.irem, 1) := by decide +kernel
theorem dL_law_649 : decode cL_law 649 = .ok (.iload 14, 2) := by decide +kernel
theorem dL_law_651 : decode cL_law 651 = .ok (.bipush 10, 2) := by decide +kernel
theorem dL_law_653 : decode cL_law 653 = .ok (.idiv, 1) := by decide +kernel
theorem dL_law_654 : decode cL_law 654 = .ok (.iconst 3, 1) := by decide +kernel
theorem dL_law_655 : decode cL_law 655 = .ok (.invokevirtual 88, 3) := by decide +kernel
theorem dL_law_658 : decode cL_law 658 = .ok (.aload_n 1, 1) := by decide +kernel
theorem dL_law_659 : decode cL_law 659 = .ok (.iload 14, 2) := by decide +kernel
theorem dL_law_661 : decode cL_law 661 = .ok (.bipush 10, 2) := by decide +kernel
theorem dL_law_663 : decode cL_law 663 = .ok (.irem, 1) := by decide +kernel
theorem dL_law_664 : decode cL_law 664 = .ok (.iload 14, 2) := by decide +kernel
theorem dL_law_666 : decode cL_law 666 = .ok (.bipush 10, 2) := by decide +kernel
theorem dL_law_668 : decode cL_law 668 = .ok (.idiv, 1) := by decide +kernel
theorem dL_law_669 : decode cL_law 669 = .ok (.iconst 0, 1) := by decide +kernel
theorem dL_law_670 : decode cL_law 670 = .ok (.invokevirtual 88, 3) := by decide +kernel
theorem dL_law_673 : decode cL_law 673 = .ok (.aload_n 1, 1) := by decide +kernel
theorem dL_law_674 : decode cL_law 674 = .ok (.iload 14, 2) := by decide +kernel
theorem dL_law_676 : decode cL_law 676 = .ok (.bipush 10, 2) := by decide +kernel
theorem dL_law_678 : decode cL_law 678 = .ok (.irem, 1) := by decide +kernel
theorem dL_law_679 : decode cL_law 679 = .ok (.iload 14, 2) := by decide +kernel
theorem dL_law_681 : decode cL_law 681 = .ok (.bipush 10, 2) := by decide +kernel
theorem dL_law_683 : decode cL_law 683 = .ok (.idiv, 1) := by decide +kernel
theorem dL_law_684 : decode cL_law 684 = .ok (.iconst 1, 1) := by decide +kernel
theorem dL_law_685 : decode cL_law 685 = .ok (.invokevirtual 88, 3) := by decide +kernel
theorem dL_law_688 : decode cL_law 688 = .ok (.iadd, 1) := by decide +kernel
theorem dL_law_689 : decode cL_law 689 = .ok (.aload_n 1, 1) := by decide +kernel
theorem dL_law_690 : decode cL_law 690 = .ok (.iload 14, 2) := by decide +kernel
theorem dL_law_692 : decode cL_law 692 = .ok (.bipush 10, 2) := by decide +kernel
theorem dL_law_694 : decode cL_law 694 = .ok (.irem, 1) := by decide +kernel
theorem dL_law_695 : decode cL_law 695 = .ok (.iload 14, 2) := by decide +kernel
theorem dL_law_697 : decode cL_law 697 = .ok (.bipush 10, 2) := by decide +kernel
theorem dL_law_699 : decode cL_law 699 = .ok (.idiv, 1) := by decide +kernel
theorem dL_law_700 : decode cL_law 700 = .ok (.iconst 2, 1) := by decide +kernel
theorem dL_law_701 : decode cL_law 701 = .ok (.invokevirtual 88, 3) := by decide +kernel
theorem dL_law_704 : decode cL_law 704 = .ok (.iadd, 1) := by decide +kernel
theorem dL_law_705 : decode cL_law 705 = .ok (.if_icmp .eq 5, 3) := by decide +kernel
theorem dL_law_708 : decode cL_law 708 = .ok (.iconst 0, 1) := by decide +kernel
theorem dL_law_709 : decode cL_law 709 = .ok (.ireturn, 1) := by decide +kernel
theorem dL_law_710 : decode cL_law 710 = .ok (.iinc 14 1, 3) := by decide +kernel
theorem dL_law_713 : decode cL_law 713 = .ok (.goto (-115), 3) := by decide +kernel
theorem dL_law_716 : decode cL_law 716 = .ok (.iinc 3 1, 3) := by decide +kernel
theorem dL_law_719 : decode cL_law 719 = .ok (.goto (-705), 3) := by decide +kernel
theorem dL_law_722 : decode cL_law 722 = .ok (.iconst 1, 1) := by decide +kernel
theorem dL_law_723 : decode cL_law 723 = .ok (.ireturn, 1) := by decide +kernel
theorem dL_isRefuge_0 : decode cL_isRefuge 0 = .ok (.aload_n 0, 1) := by decide +kernel
theorem dL_isRefuge_1 : decode cL_isRefuge 1 = .ok (.iload_n 1, 1) := by decide +kernel
theorem dL_isRefuge_2 : decode cL_isRefuge 2 = .ok (.iconst 2, 1) := by decide +kernel
theorem dL_isRefuge_3 : decode cL_isRefuge 3 = .ok (.invokevirtual 85, 3) := by decide +kernel
theorem dL_isRefuge_6 : decode cL_isRefuge 6 = .ok (.ifCond .le 7, 3) := by decide +kernel
theorem dL_isRefuge_9 : decode cL_isRefuge 9 = .ok (.iconst 1, 1) := by decide +kernel
theorem dL_isRefuge_10 : decode cL_isRefuge 10 = .ok (.goto 4, 3) := by decide +kernel
theorem dL_isRefuge_13 : decode cL_isRefuge 13 = .ok (.iconst 0, 1) := by decide +kernel
theorem dL_isRefuge_14 : decode cL_isRefuge 14 = .ok (.ireturn, 1) := by decide +kernel
theorem dL_isRefuge_15 : decode cL_isRefuge 15 = .ok (.astore_n 2, 1) := by decide +kernel
theorem dL_isRefuge_16 : decode cL_isRefuge 16 = .ok (.iconst 0, 1) := by decide +kernel
theorem dL_isRefuge_17 : decode cL_isRefuge 17 = .ok (.ireturn, 1) := by decide +kernel
