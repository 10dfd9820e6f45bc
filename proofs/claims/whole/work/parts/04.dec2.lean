theorem dX11_reckon_12 : decode cX11_reckon 12 = .ok (.iload_n 3, 1) := by decide +kernel
theorem dX11_reckon_13 : decode cX11_reckon 13 = .ok (.iconst (-1), 1) := by decide +kernel
theorem dX11_reckon_14 : decode cX11_reckon 14 = .ok (.iastore, 1) := by decide +kernel
theorem dX11_reckon_15 : decode cX11_reckon 15 = .ok (.iinc 3 1, 3) := by decide +kernel
theorem dX11_reckon_18 : decode cX11_reckon 18 = .ok (.goto (-16), 3) := by decide +kernel
theorem dX11_reckon_21 : decode cX11_reckon 21 = .ok (.aload_n 1, 1) := by decide +kernel
theorem dX11_reckon_22 : decode cX11_reckon 22 = .ok (.iload_n 2, 1) := by decide +kernel
theorem dX11_reckon_23 : decode cX11_reckon 23 = .ok (.invokevirtual 95, 3) := by decide +kernel
theorem dX11_reckon_26 : decode cX11_reckon 26 = .ok (.ifCond .ne 4, 3) := by decide +kernel
theorem dX11_reckon_29 : decode cX11_reckon 29 = .ok (.return_, 1) := by decide +kernel
theorem dX11_reckon_30 : decode cX11_reckon 30 = .ok (.aload_n 0, 1) := by decide +kernel
theorem dX11_reckon_31 : decode cX11_reckon 31 = .ok (.getfield 13, 3) := by decide +kernel
theorem dX11_reckon_34 : decode cX11_reckon 34 = .ok (.iload_n 2, 1) := by decide +kernel
theorem dX11_reckon_35 : decode cX11_reckon 35 = .ok (.iconst 0, 1) := by decide +kernel
theorem dX11_reckon_36 : decode cX11_reckon 36 = .ok (.iastore, 1) := by decide +kernel
theorem dX11_reckon_37 : decode cX11_reckon 37 = .ok (.aload_n 0, 1) := by decide +kernel
theorem dX11_reckon_38 : decode cX11_reckon 38 = .ok (.getfield 16, 3) := by decide +kernel
theorem dX11_reckon_41 : decode cX11_reckon 41 = .ok (.iconst 0, 1) := by decide +kernel
theorem dX11_reckon_42 : decode cX11_reckon 42 = .ok (.iload_n 2, 1) := by decide +kernel
theorem dX11_reckon_43 : decode cX11_reckon 43 = .ok (.iastore, 1) := by decide +kernel
theorem dX11_reckon_44 : decode cX11_reckon 44 = .ok (.iconst 1, 1) := by decide +kernel
theorem dX11_reckon_45 : decode cX11_reckon 45 = .ok (.istore_n 3, 1) := by decide +kernel
theorem dX11_reckon_46 : decode cX11_reckon 46 = .ok (.iconst 0, 1) := by decide +kernel
theorem dX11_reckon_47 : decode cX11_reckon 47 = .ok (.istore 4, 2) := by decide +kernel
theorem dX11_reckon_49 : decode cX11_reckon 49 = .ok (.iload 4, 2) := by decide +kernel
theorem dX11_reckon_51 : decode cX11_reckon 51 = .ok (.iload_n 3, 1) := by decide +kernel
theorem dX11_reckon_52 : decode cX11_reckon 52 = .ok (.if_icmp .ge 93, 3) := by decide +kernel
theorem dX11_reckon_55 : decode cX11_reckon 55 = .ok (.iconst 0, 1) := by decide +kernel
theorem dX11_reckon_56 : decode cX11_reckon 56 = .ok (.istore 5, 2) := by decide +kernel
theorem dX11_reckon_58 : decode cX11_reckon 58 = .ok (.iload 5, 2) := by decide +kernel
theorem dX11_reckon_60 : decode cX11_reckon 60 = .ok (.iconst 4, 1) := by decide +kernel
theorem dX11_reckon_61 : decode cX11_reckon 61 = .ok (.if_icmp .ge 78, 3) := by decide +kernel
theorem dX11_reckon_64 : decode cX11_reckon 64 = .ok (.aload_n 0, 1) := by decide +kernel
theorem dX11_reckon_65 : decode cX11_reckon 65 = .ok (.getfield 16, 3) := by decide +kernel
theorem dX11_reckon_68 : decode cX11_reckon 68 = .ok (.iload 4, 2) := by decide +kernel
theorem dX11_reckon_70 : decode cX11_reckon 70 = .ok (.iaload, 1) := by decide +kernel
theorem dX11_reckon_71 : decode cX11_reckon 71 = .ok (.iload 5, 2) := by decide +kernel
theorem dX11_reckon_73 : decode cX11_reckon 73 = .ok (.invokestatic 99, 3) := by decide +kernel
theorem dX11_reckon_76 : decode cX11_reckon 76 = .ok (.istore 6, 2) := by decide +kernel
theorem dX11_reckon_78 : decode cX11_reckon 78 = .ok (.aload_n 1, 1) := by decide +kernel
theorem dX11_reckon_79 : decode cX11_reckon 79 = .ok (.iload 6, 2) := by decide +kernel
theorem dX11_reckon_81 : decode cX11_reckon 81 = .ok (.invokevirtual 95, 3) := by decide +kernel
theorem dX11_reckon_84 : decode cX11_reckon 84 = .ok (.ifCond .eq 49, 3) := by decide +kernel
theorem dX11_reckon_87 : decode cX11_reckon 87 = .ok (.aload_n 0, 1) := by decide +kernel
theorem dX11_reckon_88 : decode cX11_reckon 88 = .ok (.getfield 13, 3) := by decide +kernel
theorem dX11_reckon_91 : decode cX11_reckon 91 = .ok (.iload 6, 2) := by decide +kernel
theorem dX11_reckon_93 : decode cX11_reckon 93 = .ok (.iaload, 1) := by decide +kernel
theorem dX11_reckon_94 : decode cX11_reckon 94 = .ok (.iconst (-1), 1) := by decide +kernel
theorem dX11_reckon_95 : decode cX11_reckon 95 = .ok (.if_icmp .eq 6, 3) := by decide +kernel
theorem dX11_reckon_98 : decode cX11_reckon 98 = .ok (.goto 35, 3) := by decide +kernel
theorem dX11_reckon_101 : decode cX11_reckon 101 = .ok (.aload_n 0, 1) := by decide +kernel
theorem dX11_reckon_102 : decode cX11_reckon 102 = .ok (.getfield 13, 3) := by decide +kernel
theorem dX11_reckon_105 : decode cX11_reckon 105 = .ok (.iload 6, 2) := by decide +kernel
theorem dX11_reckon_107 : decode cX11_reckon 107 = .ok (.aload_n 0, 1) := by decide +kernel
theorem dX11_reckon_108 : decode cX11_reckon 108 = .ok (.getfield 13, 3) := by decide +kernel
theorem dX11_reckon_111 : decode cX11_reckon 111 = .ok (.aload_n 0, 1) := by decide +kernel
theorem dX11_reckon_112 : decode cX11_reckon 112 = .ok (.getfield 16, 3) := by decide +kernel
theorem dX11_reckon_115 : decode cX11_reckon 115 = .ok (.iload 4, 2) := by decide +kernel
theorem dX11_reckon_117 : decode cX11_reckon 117 = .ok (.iaload, 1) := by decide +kernel
theorem dX11_reckon_118 : decode cX11_reckon 118 = .ok (.iaload, 1) := by decide +kernel
theorem dX11_reckon_119 : decode cX11_reckon 119 = .ok (.iconst 1, 1) := by decide +kernel
theorem dX11_reckon_120 : decode cX11_reckon 120 = .ok (.iadd, 1) := by decide +kernel
theorem dX11_reckon_121 : decode cX11_reckon 121 = .ok (.iastore, 1) := by decide +kernel
theorem dX11_reckon_122 : decode cX11_reckon 122 = .ok (.aload_n 0, 1) := by decide +kernel
theorem dX11_reckon_123 : decode cX11_reckon 123 = .ok (.getfield 16, 3) := by decide +kernel
theorem dX11_reckon_126 : decode cX11_reckon 126 = .ok (.iload_n 3, 1) := by decide +kernel
theorem dX11_reckon_127 : decode cX11_reckon 127 = .ok (.iload 6, 2) := by decide +kernel
theorem dX11_reckon_129 : decode cX11_reckon 129 = .ok (.iastore, 1) := by decide +kernel
theorem dX11_reckon_130 : decode cX11_reckon 130 = .ok (.iinc 3 1, 3) := by decide +kernel
theorem dX11_reckon_133 : decode cX11_reckon 133 = .ok (.iinc 5 1, 3) := by decide +kernel
theorem dX11_reckon_136 : decode cX11_reckon 136 = .ok (.goto (-78), 3) := by decide +kernel
theorem dX11_reckon_139 : decode cX11_reckon 139 = .ok (.iinc 4 1, 3) := by decide +kernel
theorem dX11_reckon_142 : decode cX11_reckon 142 = .ok (.goto (-93), 3) := by decide +kernel
theorem dX11_reckon_145 : decode cX11_reckon 145 = .ok (.return_, 1) := by decide +kernel
theorem dX11_first_0 : decode cX11_first 0 = .ok (.iconst (-1), 1) := by decide +kernel
theorem dX11_first_1 : decode cX11_first 1 = .ok (.istore_n 2, 1) := by decide +kernel
theorem dX11_first_2 : decode cX11_first 2 = .ok (.iconst 0, 1) := by decide +kernel
theorem dX11_first_3 : decode cX11_first 3 = .ok (.istore_n 3, 1) := by decide +kernel
theorem dX11_first_4 : decode cX11_first 4 = .ok (.iload_n 3, 1) := by decide +kernel
theorem dX11_first_5 : decode cX11_first 5 = .ok (.iconst 4, 1) := by decide +kernel
theorem dX11_first_6 : decode cX11_first 6 = .ok (.if_icmp .ge 63, 3) := by decide +kernel
theorem dX11_first_9 : decode cX11_first 9 = .ok (.iload_n 1, 1) := by decide +kernel
theorem dX11_first_10 : decode cX11_first 10 = .ok (.iload_n 3, 1) := by decide +kernel
theorem dX11_first_11 : decode cX11_first 11 = .ok (.invokestatic 99, 3) := by decide +kernel
theorem dX11_first_14 : decode cX11_first 14 = .ok (.istore 4, 2) := by decide +kernel
theorem dX11_first_16 : decode cX11_first 16 = .ok (.iload 4, 2) := by decide +kernel
theorem dX11_first_18 : decode cX11_first 18 = .ok (.iconst (-1), 1) := by decide +kernel
theorem dX11_first_19 : decode cX11_first 19 = .ok (.if_icmp .eq 44, 3) := by decide +kernel
theorem dX11_first_22 : decode cX11_first 22 = .ok (.aload_n 0, 1) := by decide +kernel
theorem dX11_first_23 : decode cX11_first 23 = .ok (.getfield 13, 3) := by decide +kernel
theorem dX11_first_26 : decode cX11_first 26 = .ok (.iload 4, 2) := by decide +kernel
theorem dX11_first_28 : decode cX11_first 28 = .ok (.iaload, 1) := by decide +kernel
theorem dX11_first_29 : decode cX11_first 29 = .ok (.iconst (-1), 1) := by decide +kernel
theorem dX11_first_30 : decode cX11_first 30 = .ok (.if_icmp .ne 6, 3) := by decide +kernel
theorem dX11_first_33 : decode cX11_first 33 = .ok (.goto 30, 3) := by decide +kernel
theorem dX11_first_36 : decode cX11_first 36 = .ok (.iload_n 2, 1) := by decide +kernel
theorem dX11_first_37 : decode cX11_first 37 = .ok (.iconst (-1), 1) := by decide +kernel
theorem dX11_first_38 : decode cX11_first 38 = .ok (.if_icmp .eq 23, 3) := by decide +kernel
theorem dX11_first_41 : decode cX11_first 41 = .ok (.aload_n 0, 1) := by decide +kernel
theorem dX11_first_42 : decode cX11_first 42 = .ok (.getfield 13, 3) := by decide +kernel
theorem dX11_first_45 : decode cX11_first 45 = .ok (.iload 4, 2) := by decide +kernel
theorem dX11_first_47 : decode cX11_first 47 = .ok (.iaload, 1) := by decide +kernel
theorem dX11_first_48 : decode cX11_first 48 = .ok (.aload_n 0, 1) := by decide +kernel
theorem dX11_first_49 : decode cX11_first 49 = .ok (.getfield 13, 3) := by decide +kernel
theorem dX11_first_52 : decode cX11_first 52 = .ok (.iload_n 1, 1) := by decide +kernel
theorem dX11_first_53 : decode cX11_first 53 = .ok (.iload_n 2, 1) := by decide +kernel
theorem dX11_first_54 : decode cX11_first 54 = .ok (.invokestatic 99, 3) := by decide +kernel
theorem dX11_first_57 : decode cX11_first 57 = .ok (.iaload, 1) := by decide +kernel
theorem dX11_first_58 : decode cX11_first 58 = .ok (.if_icmp .ge 5, 3) := by decide +kernel
theorem dX11_first_61 : decode cX11_first 61 = .ok (.iload_n 3, 1) := by decide +kernel
theorem dX11_first_62 : decode cX11_first 62 = .ok (.istore_n 2, 1) := by decide +kernel
theorem dX11_first_63 : decode cX11_first 63 = .ok (.iinc 3 1, 3) := by decide +kernel
theorem dX11_first_66 : decode cX11_first 66 = .ok (.goto (-62), 3) := by decide +kernel
theorem dX11_first_69 : decode cX11_first 69 = .ok (.iload_n 2, 1) := by decide +kernel
theorem dX11_first_70 : decode cX11_first 70 = .ok (.ireturn, 1) := by decide +kernel
theorem dX11_steps_0 : decode cX11_steps 0 = .ok (.iload_n 2, 1) := by decide +kernel
theorem dX11_steps_1 : decode cX11_steps 1 = .ok (.iload_n 3, 1) := by decide +kernel
theorem dX11_steps_2 : decode cX11_steps 2 = .ok (.if_icmp .ne 5, 3) := by decide +kernel
theorem dX11_steps_5 : decode cX11_steps 5 = .ok (.iconst 0, 1) := by decide +kernel
theorem dX11_steps_6 : decode cX11_steps 6 = .ok (.ireturn, 1) := by decide +kernel
theorem dX11_steps_7 : decode cX11_steps 7 = .ok (.aload_n 0, 1) := by decide +kernel
theorem dX11_steps_8 : decode cX11_steps 8 = .ok (.aload_n 1, 1) := by decide +kernel
theorem dX11_steps_9 : decode cX11_steps 9 = .ok (.iload_n 3, 1) := by decide +kernel
theorem dX11_steps_10 : decode cX11_steps 10 = .ok (.invokevirtual 103, 3) := by decide +kernel
theorem dX11_steps_13 : decode cX11_steps 13 = .ok (.aload_n 0, 1) := by decide +kernel
theorem dX11_steps_14 : decode cX11_steps 14 = .ok (.iload_n 2, 1) := by decide +kernel
theorem dX11_steps_15 : decode cX11_steps 15 = .ok (.invokevirtual 107, 3) := by decide +kernel
theorem dX11_steps_18 : decode cX11_steps 18 = .ok (.istore 4, 2) := by decide +kernel
theorem dX11_steps_20 : decode cX11_steps 20 = .ok (.iload 4, 2) := by decide +kernel
theorem dX11_steps_22 : decode cX11_steps 22 = .ok (.iconst (-1), 1) := by decide +kernel
theorem dX11_steps_23 : decode cX11_steps 23 = .ok (.if_icmp .ne 7, 3) := by decide +kernel
theorem dX11_steps_26 : decode cX11_steps 26 = .ok (.iconst (-1), 1) := by decide +kernel
theorem dX11_steps_27 : decode cX11_steps 27 = .ok (.goto 16, 3) := by decide +kernel
theorem dX11_steps_30 : decode cX11_steps 30 = .ok (.aload_n 0, 1) := by decide +kernel
theorem dX11_steps_31 : decode cX11_steps 31 = .ok (.getfield 13, 3) := by decide +kernel
theorem dX11_steps_34 : decode cX11_steps 34 = .ok (.iload_n 2, 1) := by decide +kernel
theorem dX11_steps_35 : decode cX11_steps 35 = .ok (.iload 4, 2) := by decide +kernel
theorem dX11_steps_37 : decode cX11_steps 37 = .ok (.invokestatic 99, 3) := by decide +kernel
theorem dX11_steps_40 : decode cX11_steps 40 = .ok (.iaload, 1) := by decide +kernel
theorem dX11_steps_41 : decode cX11_steps 41 = .ok (.iconst 1, 1) := by decide +kernel
theorem dX11_steps_42 : decode cX11_steps 42 = .ok (.iadd, 1) := by decide +kernel
theorem dX11_steps_43 : decode cX11_steps 43 = .ok (.ireturn, 1) := by decide +kernel
theorem dX11_step_0 : decode cX11_step 0 = .ok (.iload_n 2, 1) := by decide +kernel
theorem dX11_step_1 : decode cX11_step 1 = .ok (.iload_n 3, 1) := by decide +kernel
theorem dX11_step_2 : decode cX11_step 2 = .ok (.if_icmp .ne 5, 3) := by decide +kernel
theorem dX11_step_5 : decode cX11_step 5 = .ok (.iload_n 2, 1) := by decide +kernel
theorem dX11_step_6 : decode cX11_step 6 = .ok (.ireturn, 1) := by decide +kernel
theorem dX11_step_7 : decode cX11_step 7 = .ok (.aload_n 0, 1) := by decide +kernel
theorem dX11_step_8 : decode cX11_step 8 = .ok (.aload_n 1, 1) := by decide +kernel
theorem dX11_step_9 : decode cX11_step 9 = .ok (.iload_n 3, 1) := by decide +kernel
theorem dX11_step_10 : decode cX11_step 10 = .ok (.invokevirtual 103, 3) := by decide +kernel
theorem dX11_step_13 : decode cX11_step 13 = .ok (.iload_n 2, 1) := by decide +kernel
theorem dX11_step_14 : decode cX11_step 14 = .ok (.aload_n 0, 1) := by decide +kernel
theorem dX11_step_15 : decode cX11_step 15 = .ok (.iload_n 2, 1) := by decide +kernel
theorem dX11_step_16 : decode cX11_step 16 = .ok (.invokevirtual 107, 3) := by decide +kernel
theorem dX11_step_19 : decode cX11_step 19 = .ok (.invokestatic 99, 3) := by decide +kernel
theorem dX11_step_22 : decode cX11_step 22 = .ok (.ireturn, 1) := by decide +kernel
theorem dX11_rings_0 : decode cX11_rings 0 = .ok (.aload_n 1, 1) := by decide +kernel
theorem dX11_rings_1 : decode cX11_rings 1 = .ok (.getfield 110, 3) := by decide +kernel
theorem dX11_rings_4 : decode cX11_rings 4 = .ok (.aload_n 1, 1) := by decide +kernel
theorem dX11_rings_5 : decode cX11_rings 5 = .ok (.getfield 74, 3) := by decide +kernel
theorem dX11_rings_8 : decode cX11_rings 8 = .ok (.iconst 2, 1) := by decide +kernel
theorem dX11_rings_9 : decode cX11_rings 9 = .ok (.iload_n 2, 1) := by decide +kernel
theorem dX11_rings_10 : decode cX11_rings 10 = .ok (.imul, 1) := by decide +kernel
theorem dX11_rings_11 : decode cX11_rings 11 = .ok (.iaload, 1) := by decide +kernel
theorem dX11_rings_12 : decode cX11_rings 12 = .ok (.iaload, 1) := by decide +kernel
theorem dX11_rings_13 : decode cX11_rings 13 = .ok (.aload_n 1, 1) := by decide +kernel
theorem dX11_rings_14 : decode cX11_rings 14 = .ok (.getfield 74, 3) := by decide +kernel
theorem dX11_rings_17 : decode cX11_rings 17 = .ok (.iconst 2, 1) := by decide +kernel
theorem dX11_rings_18 : decode cX11_rings 18 = .ok (.iload_n 2, 1) := by decide +kernel
theorem dX11_rings_19 : decode cX11_rings 19 = .ok (.imul, 1) := by decide +kernel
theorem dX11_rings_20 : decode cX11_rings 20 = .ok (.iconst 1, 1) := by decide +kernel
theorem dX11_rings_21 : decode cX11_rings 21 = .ok (.iadd, 1) := by decide +kernel
theorem dX11_rings_22 : decode cX11_rings 22 = .ok (.iaload, 1) := by decide +kernel
theorem dX11_rings_23 : decode cX11_rings 23 = .ok (.if_icmp .lt 7, 3) := by decide +kernel
theorem dX11_rings_26 : decode cX11_rings 26 = .ok (.iconst 1, 1) := by decide +kernel
theorem dX11_rings_27 : decode cX11_rings 27 = .ok (.goto 4, 3) := by decide +kernel
theorem dX11_rings_30 : decode cX11_rings 30 = .ok (.iconst 0, 1) := by decide +kernel
theorem dX11_rings_31 : decode cX11_rings 31 = .ok (.ireturn, 1) := by decide +kernel
theorem dX11_ringing_0 : decode cX11_ringing 0 = .ok (.iconst 0, 1) := by decide +kernel
theorem dX11_ringing_1 : decode cX11_ringing 1 = .ok (.istore_n 2, 1) := by decide +kernel
theorem dX11_ringing_2 : decode cX11_ringing 2 = .ok (.iconst 0, 1) := by decide +kernel
theorem dX11_ringing_3 : decode cX11_ringing 3 = .ok (.istore_n 3, 1) := by decide +kernel
theorem dX11_ringing_4 : decode cX11_ringing 4 = .ok (.iload_n 3, 1) := by decide +kernel
theorem dX11_ringing_5 : decode cX11_ringing 5 = .ok (.aload_n 0, 1) := by decide +kernel
theorem dX11_ringing_6 : decode cX11_ringing 6 = .ok (.getfield 71, 3) := by decide +kernel
theorem dX11_ringing_9 : decode cX11_ringing 9 = .ok (.if_icmp .ge 26, 3) := by decide +kernel
theorem dX11_ringing_12 : decode cX11_ringing 12 = .ok (.iload_n 2, 1) := by decide +kernel
theorem dX11_ringing_13 : decode cX11_ringing 13 = .ok (.aload_n 0, 1) := by decide +kernel
theorem dX11_ringing_14 : decode cX11_ringing 14 = .ok (.aload_n 1, 1) := by decide +kernel
theorem dX11_ringing_15 : decode cX11_ringing 15 = .ok (.iload_n 3, 1) := by decide +kernel
theorem dX11_ringing_16 : decode cX11_ringing 16 = .ok (.invokevirtual 113, 3) := by decide +kernel
theorem dX11_ringing_19 : decode cX11_ringing 19 = .ok (.ifCond .eq 7, 3) := by decide +kernel
theorem dX11_ringing_22 : decode cX11_ringing 22 = .ok (.iconst 1, 1) := by decide +kernel
theorem dX11_ringing_23 : decode cX11_ringing 23 = .ok (.goto 4, 3) := by decide +kernel
theorem dX11_ringing_26 : decode cX11_ringing 26 = .ok (.iconst 0, 1) := by decide +kernel
theorem dX11_ringing_27 : decode cX11_ringing 27 = .ok (.iadd, 1) := by decide +kernel
theorem dX11_ringing_28 : decode cX11_ringing 28 = .ok (.istore_n 2, 1) := by decide +kernel
theorem dX11_ringing_29 : decode cX11_ringing 29 = .ok (.iinc 3 1, 3) := by decide +kernel
theorem dX11_ringing_32 : decode cX11_ringing 32 = .ok (.goto (-28), 3) := by decide +kernel
theorem dX11_ringing_35 : decode cX11_ringing 35 = .ok (.iload_n 2, 1) := by decide +kernel
theorem dX11_ringing_36 : decode cX11_ringing 36 = .ok (.ireturn, 1) := by decide +kernel
theorem dX11_flow_0 : decode cX11_flow 0 = .ok (.iconst 0, 1) := by decide +kernel
theorem dX11_flow_1 : decode cX11_flow 1 = .ok (.istore_n 2, 1) := by decide +kernel
theorem dX11_flow_2 : decode cX11_flow 2 = .ok (.iload_n 2, 1) := by decide +kernel
theorem dX11_flow_3 : decode cX11_flow 3 = .ok (.bipush 80, 2) := by decide +kernel
theorem dX11_flow_5 : decode cX11_flow 5 = .ok (.if_icmp .ge 27, 3) := by decide +kernel
theorem dX11_flow_8 : decode cX11_flow 8 = .ok (.aload_n 0, 1) := by decide +kernel
theorem dX11_flow_9 : decode cX11_flow 9 = .ok (.getfield 19, 3) := by decide +kernel
theorem dX11_flow_12 : decode cX11_flow 12 = .ok (.iload_n 2, 1) := by decide +kernel
theorem dX11_flow_13 : decode cX11_flow 13 = .ok (.aload_n 1, 1) := by decide +kernel
theorem dX11_flow_14 : decode cX11_flow 14 = .ok (.iload_n 2, 1) := by decide +kernel
theorem dX11_flow_15 : decode cX11_flow 15 = .ok (.invokevirtual 117, 3) := by decide +kernel
theorem dX11_flow_18 : decode cX11_flow 18 = .ok (.iastore, 1) := by decide +kernel
theorem dX11_flow_19 : decode cX11_flow 19 = .ok (.aload_n 0, 1) := by decide +kernel
theorem dX11_flow_20 : decode cX11_flow 20 = .ok (.getfield 22, 3) := by decide +kernel
theorem dX11_flow_23 : decode cX11_flow 23 = .ok (.iload_n 2, 1) := by decide +kernel
theorem dX11_flow_24 : decode cX11_flow 24 = .ok (.iconst 0, 1) := by decide +kernel
theorem dX11_flow_25 : decode cX11_flow 25 = .ok (.iastore, 1) := by decide +kernel
theorem dX11_flow_26 : decode cX11_flow 26 = .ok (.iinc 2 1, 3) := by decide +kernel
theorem dX11_flow_29 : decode cX11_flow 29 = .ok (.goto (-27), 3) := by decide +kernel
theorem dX11_flow_32 : decode cX11_flow 32 = .ok (.iconst 0, 1) := by decide +kernel
theorem dX11_flow_33 : decode cX11_flow 33 = .ok (.istore_n 2, 1) := by decide +kernel
theorem dX11_flow_34 : decode cX11_flow 34 = .ok (.iload_n 2, 1) := by decide +kernel
theorem dX11_flow_35 : decode cX11_flow 35 = .ok (.bipush 80, 2) := by decide +kernel
theorem dX11_flow_37 : decode cX11_flow 37 = .ok (.if_icmp .ge 133, 3) := by decide +kernel
theorem dX11_flow_40 : decode cX11_flow 40 = .ok (.iconst (-1), 1) := by decide +kernel
theorem dX11_flow_41 : decode cX11_flow 41 = .ok (.istore_n 3, 1) := by decide +kernel
theorem dX11_flow_42 : decode cX11_flow 42 = .ok (.iconst 0, 1) := by decide +kernel
theorem dX11_flow_43 : decode cX11_flow 43 = .ok (.istore 4, 2) := by decide +kernel
theorem dX11_flow_45 : decode cX11_flow 45 = .ok (.iload 4, 2) := by decide +kernel
theorem dX11_flow_47 : decode cX11_flow 47 = .ok (.iconst 4, 1) := by decide +kernel
theorem dX11_flow_48 : decode cX11_flow 48 = .ok (.if_icmp .ge 47, 3) := by decide +kernel
theorem dX11_flow_51 : decode cX11_flow 51 = .ok (.iload_n 2, 1) := by decide +kernel
theorem dX11_flow_52 : decode cX11_flow 52 = .ok (.iload 4, 2) := by decide +kernel
theorem dX11_flow_54 : decode cX11_flow 54 = .ok (.invokestatic 99, 3) := by decide +kernel
theorem dX11_flow_57 : decode cX11_flow 57 = .ok (.istore 5, 2) := by decide +kernel
theorem dX11_flow_59 : decode cX11_flow 59 = .ok (.iload 5, 2) := by decide +kernel
theorem dX11_flow_61 : decode cX11_flow 61 = .ok (.iconst (-1), 1) := by decide +kernel
theorem dX11_flow_62 : decode cX11_flow 62 = .ok (.if_icmp .eq 27, 3) := by decide +kernel
theorem dX11_flow_65 : decode cX11_flow 65 = .ok (.iload_n 3, 1) := by decide +kernel
theorem dX11_flow_66 : decode cX11_flow 66 = .ok (.iconst (-1), 1) := by decide +kernel
theorem dX11_flow_67 : decode cX11_flow 67 = .ok (.if_icmp .eq 19, 3) := by decide +kernel
theorem dX11_flow_70 : decode cX11_flow 70 = .ok (.aload_n 0, 1) := by decide +kernel
theorem dX11_flow_71 : decode cX11_flow 71 = .ok (.getfield 19, 3) := by decide +kernel
theorem dX11_flow_74 : decode cX11_flow 74 = .ok (.iload 5, 2) := by decide +kernel
theorem dX11_flow_76 : decode cX11_flow 76 = .ok (.iaload, 1) := by decide +kernel
theorem dX11_flow_77 : decode cX11_flow 77 = .ok (.aload_n 0, 1) := by decide +kernel
theorem dX11_flow_78 : decode cX11_flow 78 = .ok (.getfield 19, 3) := by decide +kernel
theorem dX11_flow_81 : decode cX11_flow 81 = .ok (.iload_n 3, 1) := by decide +kernel
theorem dX11_flow_82 : decode cX11_flow 82 = .ok (.iaload, 1) := by decide +kernel
theorem dX11_flow_83 : decode cX11_flow 83 = .ok (.if_icmp .ge 6, 3) := by decide +kernel
theorem dX11_flow_86 : decode cX11_flow 86 = .ok (.iload 5, 2) := by decide +kernel
theorem dX11_flow_88 : decode cX11_flow 88 = .ok (.istore_n 3, 1) := by decide +kernel
theorem dX11_flow_89 : decode cX11_flow 89 = .ok (.iinc 4 1, 3) := by decide +kernel
theorem dX11_flow_92 : decode cX11_flow 92 = .ok (.goto (-47), 3) := by decide +kernel
theorem dX11_flow_95 : decode cX11_flow 95 = .ok (.aload_n 0, 1) := by decide +kernel
theorem dX11_flow_96 : decode cX11_flow 96 = .ok (.getfield 19, 3) := by decide +kernel
theorem dX11_flow_99 : decode cX11_flow 99 = .ok (.iload_n 2, 1) := by decide +kernel
theorem dX11_flow_100 : decode cX11_flow 100 = .ok (.iaload, 1) := by decide +kernel
theorem dX11_flow_101 : decode cX11_flow 101 = .ok (.aload_n 0, 1) := by decide +kernel
theorem dX11_flow_102 : decode cX11_flow 102 = .ok (.getfield 19, 3) := by decide +kernel
theorem dX11_flow_105 : decode cX11_flow 105 = .ok (.iload_n 3, 1) := by decide +kernel
theorem dX11_flow_106 : decode cX11_flow 106 = .ok (.iaload, 1) := by decide +kernel
theorem dX11_flow_107 : decode cX11_flow 107 = .ok (.isub, 1) := by decide +kernel
theorem dX11_flow_108 : decode cX11_flow 108 = .ok (.iconst 2, 1) := by decide +kernel
theorem dX11_flow_109 : decode cX11_flow 109 = .ok (.if_icmp .lt 30, 3) := by decide +kernel
theorem dX11_flow_112 : decode cX11_flow 112 = .ok (.aload_n 1, 1) := by decide +kernel
theorem dX11_flow_113 : decode cX11_flow 113 = .ok (.getfield 110, 3) := by decide +kernel
theorem dX11_flow_116 : decode cX11_flow 116 = .ok (.iload_n 2, 1) := by decide +kernel
theorem dX11_flow_117 : decode cX11_flow 117 = .ok (.iaload, 1) := by decide +kernel
theorem dX11_flow_118 : decode cX11_flow 118 = .ok (.aload_n 0, 1) := by decide +kernel
theorem dX11_flow_119 : decode cX11_flow 119 = .ok (.getfield 19, 3) := by decide +kernel
theorem dX11_flow_122 : decode cX11_flow 122 = .ok (.iload_n 2, 1) := by decide +kernel
theorem dX11_flow_123 : decode cX11_flow 123 = .ok (.iaload, 1) := by decide +kernel
theorem dX11_flow_124 : decode cX11_flow 124 = .ok (.aload_n 0, 1) := by decide +kernel
theorem dX11_flow_125 : decode cX11_flow 125 = .ok (.getfield 19, 3) := by decide +kernel
theorem dX11_flow_128 : decode cX11_flow 128 = .ok (.iload_n 3, 1) := by decide +kernel
theorem dX11_flow_129 : decode cX11_flow 129 = .ok (.iaload, 1) := by decide +kernel
theorem dX11_flow_130 : decode cX11_flow 130 = .ok (.isub, 1) := by decide +kernel
theorem dX11_flow_131 : decode cX11_flow 131 = .ok (.iconst 2, 1) := by decide +kernel
theorem dX11_flow_132 : decode cX11_flow 132 = .ok (.idiv, 1) := by decide +kernel
theorem dX11_flow_133 : decode cX11_flow 133 = .ok (.invokestatic 120, 3) := by decide +kernel
theorem dX11_flow_136 : decode cX11_flow 136 = .ok (.goto 4, 3) := by decide +kernel
theorem dX11_flow_139 : decode cX11_flow 139 = .ok (.iconst 0, 1) := by decide +kernel
theorem dX11_flow_140 : decode cX11_flow 140 = .ok (.istore 4, 2) := by decide +kernel
theorem dX11_flow_142 : decode cX11_flow 142 = .ok (.aload_n 0, 1) := by decide +kernel
theorem dX11_flow_143 : decode cX11_flow 143 = .ok (.getfield 22, 3) := by decide +kernel
theorem dX11_flow_146 : decode cX11_flow 146 = .ok (.iload_n 2, 1) := by decide +kernel
theorem dX11_flow_147 : decode cX11_flow 147 = .ok (.dup2, 1) := by decide +kernel
theorem dX11_flow_148 : decode cX11_flow 148 = .ok (.iaload, 1) := by decide +kernel
theorem dX11_flow_149 : decode cX11_flow 149 = .ok (.iload 4, 2) := by decide +kernel
theorem dX11_flow_151 : decode cX11_flow 151 = .ok (.isub, 1) := by decide +kernel
theorem dX11_flow_152 : decode cX11_flow 152 = .ok (.iastore, 1) := by decide +kernel
theorem dX11_flow_153 : decode cX11_flow 153 = .ok (.aload_n 0, 1) := by decide +kernel
theorem dX11_flow_154 : decode cX11_flow 154 = .ok (.getfield 22, 3) := by decide +kernel
theorem dX11_flow_157 : decode cX11_flow 157 = .ok (.iload_n 3, 1) := by decide +kernel
theorem dX11_flow_158 : decode cX11_flow 158 = .ok (.dup2, 1) := by decide +kernel
theorem dX11_flow_159 : decode cX11_flow 159 = .ok (.iaload, 1) := by decide +kernel
theorem dX11_flow_160 : decode cX11_flow 160 = .ok (.iload 4, 2) := by decide +kernel
theorem dX11_flow_162 : decode cX11_flow 162 = .ok (.iadd, 1) := by decide +kernel
theorem dX11_flow_163 : decode cX11_flow 163 = .ok (.iastore, 1) := by decide +kernel
theorem dX11_flow_164 : decode cX11_flow 164 = .ok (.iinc 2 1, 3) := by decide +kernel
theorem dX11_flow_167 : decode cX11_flow 167 = .ok (.goto (-133), 3) := by decide +kernel
theorem dX11_flow_170 : decode cX11_flow 170 = .ok (.iconst 0, 1) := by decide +kernel
theorem dX11_flow_171 : decode cX11_flow 171 = .ok (.istore_n 2, 1) := by decide +kernel
theorem dX11_flow_172 : decode cX11_flow 172 = .ok (.iload_n 2, 1) := by decide +kernel
theorem dX11_flow_173 : decode cX11_flow 173 = .ok (.bipush 80, 2) := by decide +kernel
theorem dX11_flow_175 : decode cX11_flow 175 = .ok (.if_icmp .ge 33, 3) := by decide +kernel
theorem dX11_flow_178 : decode cX11_flow 178 = .ok (.aload_n 1, 1) := by decide +kernel
theorem dX11_flow_179 : decode cX11_flow 179 = .ok (.getfield 110, 3) := by decide +kernel
theorem dX11_flow_182 : decode cX11_flow 182 = .ok (.iload_n 2, 1) := by decide +kernel
theorem dX11_flow_183 : decode cX11_flow 183 = .ok (.bipush 40, 2) := by decide +kernel
theorem dX11_flow_185 : decode cX11_flow 185 = .ok (.aload_n 1, 1) := by decide +kernel
theorem dX11_flow_186 : decode cX11_flow 186 = .ok (.getfield 110, 3) := by decide +kernel
theorem dX11_flow_189 : decode cX11_flow 189 = .ok (.iload_n 2, 1) := by decide +kernel
theorem dX11_flow_190 : decode cX11_flow 190 = .ok (.iaload, 1) := by decide +kernel
theorem dX11_flow_191 : decode cX11_flow 191 = .ok (.aload_n 0, 1) := by decide +kernel
theorem dX11_flow_192 : decode cX11_flow 192 = .ok (.getfield 22, 3) := by decide +kernel
theorem dX11_flow_195 : decode cX11_flow 195 = .ok (.iload_n 2, 1) := by decide +kernel
theorem dX11_flow_196 : decode cX11_flow 196 = .ok (.iaload, 1) := by decide +kernel
theorem dX11_flow_197 : decode cX11_flow 197 = .ok (.iadd, 1) := by decide +kernel
theorem dX11_flow_198 : decode cX11_flow 198 = .ok (.invokestatic 120, 3) := by decide +kernel
theorem dX11_flow_201 : decode cX11_flow 201 = .ok (.iastore, 1) := by decide +kernel
theorem dX11_flow_202 : decode cX11_flow 202 = .ok (.iinc 2 1, 3) := by decide +kernel
theorem dX11_flow_205 : decode cX11_flow 205 = .ok (.goto (-33), 3) := by decide +kernel
theorem dX11_flow_208 : decode cX11_flow 208 = .ok (.return_, 1) := by decide +kernel
theorem dX11_drain_0 : decode cX11_drain 0 = .ok (.iconst 5, 1) := by decide +kernel
theorem dX11_drain_1 : decode cX11_drain 1 = .ok (.iload_n 2, 1) := by decide +kernel
theorem dX11_drain_2 : decode cX11_drain 2 = .ok (.imul, 1) := by decide +kernel
theorem dX11_drain_3 : decode cX11_drain 3 = .ok (.istore_n 3, 1) := by decide +kernel
theorem dX11_drain_4 : decode cX11_drain 4 = .ok (.aload_n 1, 1) := by decide +kernel
theorem dX11_drain_5 : decode cX11_drain 5 = .ok (.getfield 64, 3) := by decide +kernel
theorem dX11_drain_8 : decode cX11_drain 8 = .ok (.iload_n 3, 1) := by decide +kernel
theorem dX11_drain_9 : decode cX11_drain 9 = .ok (.iaload, 1) := by decide +kernel
theorem dX11_drain_10 : decode cX11_drain 10 = .ok (.istore 4, 2) := by decide +kernel
theorem dX11_drain_12 : decode cX11_drain 12 = .ok (.aload_n 1, 1) := by decide +kernel
theorem dX11_drain_13 : decode cX11_drain 13 = .ok (.getfield 64, 3) := by decide +kernel
theorem dX11_drain_16 : decode cX11_drain 16 = .ok (.iload_n 3, 1) := by decide +kernel
theorem dX11_drain_17 : decode cX11_drain 17 = .ok (.iconst 3, 1) := by decide +kernel
theorem dX11_drain_18 : decode cX11_drain 18 = .ok (.iadd, 1) := by decide +kernel
theorem dX11_drain_19 : decode cX11_drain 19 = .ok (.iaload, 1) := by decide +kernel
theorem dX11_drain_20 : decode cX11_drain 20 = .ok (.ifCond .eq 24, 3) := by decide +kernel
theorem dX11_drain_23 : decode cX11_drain 23 = .ok (.aload_n 1, 1) := by decide +kernel
theorem dX11_drain_24 : decode cX11_drain 24 = .ok (.getfield 64, 3) := by decide +kernel
theorem dX11_drain_27 : decode cX11_drain 27 = .ok (.iload_n 3, 1) := by decide +kernel
theorem dX11_drain_28 : decode cX11_drain 28 = .ok (.iconst 2, 1) := by decide +kernel
theorem dX11_drain_29 : decode cX11_drain 29 = .ok (.iadd, 1) := by decide +kernel
theorem dX11_drain_30 : decode cX11_drain 30 = .ok (.iaload, 1) := by decide +kernel
theorem dX11_drain_31 : decode cX11_drain 31 = .ok (.ifCond .eq 13, 3) := by decide +kernel
theorem dX11_drain_34 : decode cX11_drain 34 = .ok (.aload_n 1, 1) := by decide +kernel
theorem dX11_drain_35 : decode cX11_drain 35 = .ok (.getfield 110, 3) := by decide +kernel
theorem dX11_drain_38 : decode cX11_drain 38 = .ok (.iload 4, 2) := by decide +kernel
theorem dX11_drain_40 : decode cX11_drain 40 = .ok (.iaload, 1) := by decide +kernel
theorem dX11_drain_41 : decode cX11_drain 41 = .ok (.ifCond .ne 4, 3) := by decide +kernel
theorem dX11_drain_44 : decode cX11_drain 44 = .ok (.return_, 1) := by decide +kernel
theorem dX11_drain_45 : decode cX11_drain 45 = .ok (.aload_n 1, 1) := by decide +kernel
theorem dX11_drain_46 : decode cX11_drain 46 = .ok (.getfield 64, 3) := by decide +kernel
theorem dX11_drain_49 : decode cX11_drain 49 = .ok (.iload_n 3, 1) := by decide +kernel
theorem dX11_drain_50 : decode cX11_drain 50 = .ok (.iconst 1, 1) := by decide +kernel
theorem dX11_drain_51 : decode cX11_drain 51 = .ok (.iadd, 1) := by decide +kernel
theorem dX11_drain_52 : decode cX11_drain 52 = .ok (.iaload, 1) := by decide +kernel
theorem dX11_drain_53 : decode cX11_drain 53 = .ok (.aload_n 1, 1) := by decide +kernel
theorem dX11_drain_54 : decode cX11_drain 54 = .ok (.getfield 110, 3) := by decide +kernel
theorem dX11_drain_57 : decode cX11_drain 57 = .ok (.iload 4, 2) := by decide +kernel
theorem dX11_drain_59 : decode cX11_drain 59 = .ok (.iaload, 1) := by decide +kernel
theorem dX11_drain_60 : decode cX11_drain 60 = .ok (.invokestatic 120, 3) := by decide +kernel
theorem dX11_drain_63 : decode cX11_drain 63 = .ok (.istore 5, 2) := by decide +kernel
theorem dX11_drain_65 : decode cX11_drain 65 = .ok (.aload_n 1, 1) := by decide +kernel
theorem dX11_drain_66 : decode cX11_drain 66 = .ok (.getfield 110, 3) := by decide +kernel
theorem dX11_drain_69 : decode cX11_drain 69 = .ok (.iload 4, 2) := by decide +kernel
theorem dX11_drain_71 : decode cX11_drain 71 = .ok (.dup2, 1) := by decide +kernel
theorem dX11_drain_72 : decode cX11_drain 72 = .ok (.iaload, 1) := by decide +kernel
theorem dX11_drain_73 : decode cX11_drain 73 = .ok (.iload 5, 2) := by decide +kernel
theorem dX11_drain_75 : decode cX11_drain 75 = .ok (.isub, 1) := by decide +kernel
theorem dX11_drain_76 : decode cX11_drain 76 = .ok (.iastore, 1) := by decide +kernel
theorem dX11_drain_77 : decode cX11_drain 77 = .ok (.aload_n 1, 1) := by decide +kernel
theorem dX11_drain_78 : decode cX11_drain 78 = .ok (.getfield 64, 3) := by decide +kernel
theorem dX11_drain_81 : decode cX11_drain 81 = .ok (.iload_n 3, 1) := by decide +kernel
theorem dX11_drain_82 : decode cX11_drain 82 = .ok (.iconst 2, 1) := by decide +kernel
theorem dX11_drain_83 : decode cX11_drain 83 = .ok (.iadd, 1) := by decide +kernel
theorem dX11_drain_84 : decode cX11_drain 84 = .ok (.dup2, 1) := by decide +kernel
theorem dX11_drain_85 : decode cX11_drain 85 = .ok (.iaload, 1) := by decide +kernel
theorem dX11_drain_86 : decode cX11_drain 86 = .ok (.iconst 1, 1) := by decide +kernel
theorem dX11_drain_87 : decode cX11_drain 87 = .ok (.isub, 1) := by decide +kernel
theorem dX11_drain_88 : decode cX11_drain 88 = .ok (.iastore, 1) := by decide +kernel
theorem dX11_drain_89 : decode cX11_drain 89 = .ok (.aload_n 1, 1) := by decide +kernel
theorem dX11_drain_90 : decode cX11_drain 90 = .ok (.getfield 64, 3) := by decide +kernel
theorem dX11_drain_93 : decode cX11_drain 93 = .ok (.iload_n 3, 1) := by decide +kernel
theorem dX11_drain_94 : decode cX11_drain 94 = .ok (.iconst 4, 1) := by decide +kernel
theorem dX11_drain_95 : decode cX11_drain 95 = .ok (.iadd, 1) := by decide +kernel
theorem dX11_drain_96 : decode cX11_drain 96 = .ok (.dup2, 1) := by decide +kernel
theorem dX11_drain_97 : decode cX11_drain 97 = .ok (.iaload, 1) := by decide +kernel
theorem dX11_drain_98 : decode cX11_drain 98 = .ok (.iload 5, 2) := by decide +kernel
theorem dX11_drain_100 : decode cX11_drain 100 = .ok (.iadd, 1) := by decide +kernel
theorem dX11_drain_101 : decode cX11_drain 101 = .ok (.iastore, 1) := by decide +kernel
theorem dX11_drain_102 : decode cX11_drain 102 = .ok (.return_, 1) := by decide +kernel
theorem dX11_call_0 : decode cX11_call 0 = .ok (.iconst (-1), 1) := by decide +kernel
theorem dX11_call_1 : decode cX11_call 1 = .ok (.istore_n 3, 1) := by decide +kernel
theorem dX11_call_2 : decode cX11_call 2 = .ok (.iconst (-1), 1) := by decide +kernel
theorem dX11_call_3 : decode cX11_call 3 = .ok (.istore 4, 2) := by decide +kernel
theorem dX11_call_5 : decode cX11_call 5 = .ok (.iconst 0, 1) := by decide +kernel
theorem dX11_call_6 : decode cX11_call 6 = .ok (.istore 5, 2) := by decide +kernel
theorem dX11_call_8 : decode cX11_call 8 = .ok (.iload 5, 2) := by decide +kernel
theorem dX11_call_10 : decode cX11_call 10 = .ok (.aload_n 0, 1) := by decide +kernel
theorem dX11_call_11 : decode cX11_call 11 = .ok (.getfield 83, 3) := by decide +kernel
theorem dX11_call_14 : decode cX11_call 14 = .ok (.if_icmp .ge 78, 3) := by decide +kernel
theorem dX11_call_17 : decode cX11_call 17 = .ok (.aload_n 1, 1) := by decide +kernel
theorem dX11_call_18 : decode cX11_call 18 = .ok (.getfield 86, 3) := by decide +kernel
theorem dX11_call_21 : decode cX11_call 21 = .ok (.iconst 4, 1) := by decide +kernel
theorem dX11_call_22 : decode cX11_call 22 = .ok (.iload 5, 2) := by decide +kernel
theorem dX11_call_24 : decode cX11_call 24 = .ok (.imul, 1) := by decide +kernel
theorem dX11_call_25 : decode cX11_call 25 = .ok (.iconst 2, 1) := by decide +kernel
theorem dX11_call_26 : decode cX11_call 26 = .ok (.iadd, 1) := by decide +kernel
theorem dX11_call_27 : decode cX11_call 27 = .ok (.iaload, 1) := by decide +kernel
theorem dX11_call_28 : decode cX11_call 28 = .ok (.ifCond .eq 6, 3) := by decide +kernel
theorem dX11_call_31 : decode cX11_call 31 = .ok (.goto 55, 3) := by decide +kernel
theorem dX11_call_34 : decode cX11_call 34 = .ok (.aload_n 0, 1) := by decide +kernel
theorem dX11_call_35 : decode cX11_call 35 = .ok (.aload_n 1, 1) := by decide +kernel
theorem dX11_call_36 : decode cX11_call 36 = .ok (.aload_n 1, 1) := by decide +kernel
theorem dX11_call_37 : decode cX11_call 37 = .ok (.getfield 92, 3) := by decide +kernel
theorem dX11_call_40 : decode cX11_call 40 = .ok (.iconst 2, 1) := by decide +kernel
theorem dX11_call_41 : decode cX11_call 41 = .ok (.iload_n 2, 1) := by decide +kernel
theorem dX11_call_42 : decode cX11_call 42 = .ok (.imul, 1) := by decide +kernel
theorem dX11_call_43 : decode cX11_call 43 = .ok (.iaload, 1) := by decide +kernel
theorem dX11_call_44 : decode cX11_call 44 = .ok (.aload_n 1, 1) := by decide +kernel
theorem dX11_call_45 : decode cX11_call 45 = .ok (.getfield 86, 3) := by decide +kernel
theorem dX11_call_48 : decode cX11_call 48 = .ok (.iconst 4, 1) := by decide +kernel
theorem dX11_call_49 : decode cX11_call 49 = .ok (.iload 5, 2) := by decide +kernel
theorem dX11_call_51 : decode cX11_call 51 = .ok (.imul, 1) := by decide +kernel
theorem dX11_call_52 : decode cX11_call 52 = .ok (.iaload, 1) := by decide +kernel
theorem dX11_call_53 : decode cX11_call 53 = .ok (.invokevirtual 125, 3) := by decide +kernel
theorem dX11_call_56 : decode cX11_call 56 = .ok (.istore 6, 2) := by decide +kernel
theorem dX11_call_58 : decode cX11_call 58 = .ok (.iload 6, 2) := by decide +kernel
theorem dX11_call_60 : decode cX11_call 60 = .ok (.iconst (-1), 1) := by decide +kernel
theorem dX11_call_61 : decode cX11_call 61 = .ok (.if_icmp .eq 25, 3) := by decide +kernel
theorem dX11_call_64 : decode cX11_call 64 = .ok (.iload_n 3, 1) := by decide +kernel
theorem dX11_call_65 : decode cX11_call 65 = .ok (.iconst (-1), 1) := by decide +kernel
theorem dX11_call_66 : decode cX11_call 66 = .ok (.if_icmp .eq 13, 3) := by decide +kernel
theorem dX11_call_69 : decode cX11_call 69 = .ok (.iload 6, 2) := by decide +kernel
theorem dX11_call_71 : decode cX11_call 71 = .ok (.iload 4, 2) := by decide +kernel
theorem dX11_call_73 : decode cX11_call 73 = .ok (.if_icmp .lt 6, 3) := by decide +kernel
theorem dX11_call_76 : decode cX11_call 76 = .ok (.goto 10, 3) := by decide +kernel
theorem dX11_call_79 : decode cX11_call 79 = .ok (.iload 5, 2) := by decide +kernel
theorem dX11_call_81 : decode cX11_call 81 = .ok (.istore_n 3, 1) := by decide +kernel
theorem dX11_call_82 : decode cX11_call 82 = .ok (.iload 6, 2) := by decide +kernel
theorem dX11_call_84 : decode cX11_call 84 = .ok (.istore 4, 2) := by decide +kernel
theorem dX11_call_86 : decode cX11_call 86 = .ok (.iinc 5 1, 3) := by decide +kernel
theorem dX11_call_89 : decode cX11_call 89 = .ok (.goto (-81), 3) := by decide +kernel
theorem dX11_call_92 : decode cX11_call 92 = .ok (.iload_n 3, 1) := by decide +kernel
theorem dX11_call_93 : decode cX11_call 93 = .ok (.iconst (-1), 1) := by decide +kernel
theorem dX11_call_94 : decode cX11_call 94 = .ok (.if_icmp .eq 32, 3) := by decide +kernel
theorem dX11_call_97 : decode cX11_call 97 = .ok (.aload_n 1, 1) := by decide +kernel
theorem dX11_call_98 : decode cX11_call 98 = .ok (.getfield 92, 3) := by decide +kernel
theorem dX11_call_101 : decode cX11_call 101 = .ok (.iconst 2, 1) := by decide +kernel
theorem dX11_call_102 : decode cX11_call 102 = .ok (.iload_n 2, 1) := by decide +kernel
theorem dX11_call_103 : decode cX11_call 103 = .ok (.imul, 1) := by decide +kernel
theorem dX11_call_104 : decode cX11_call 104 = .ok (.aload_n 0, 1) := by decide +kernel
theorem dX11_call_105 : decode cX11_call 105 = .ok (.aload_n 1, 1) := by decide +kernel
theorem dX11_call_106 : decode cX11_call 106 = .ok (.aload_n 1, 1) := by decide +kernel
theorem dX11_call_107 : decode cX11_call 107 = .ok (.getfield 92, 3) := by decide +kernel
theorem dX11_call_110 : decode cX11_call 110 = .ok (.iconst 2, 1) := by decide +kernel
theorem dX11_call_111 : decode cX11_call 111 = .ok (.iload_n 2, 1) := by decide +kernel
theorem dX11_call_112 : decode cX11_call 112 = .ok (.imul, 1) := by decide +kernel
theorem dX11_call_113 : decode cX11_call 113 = .ok (.iaload, 1) := by decide +kernel
theorem dX11_call_114 : decode cX11_call 114 = .ok (.aload_n 1, 1) := by decide +kernel
theorem dX11_call_115 : decode cX11_call 115 = .ok (.getfield 86, 3) := by decide +kernel
theorem dX11_call_118 : decode cX11_call 118 = .ok (.iconst 4, 1) := by decide +kernel
theorem dX11_call_119 : decode cX11_call 119 = .ok (.iload_n 3, 1) := by decide +kernel
theorem dX11_call_120 : decode cX11_call 120 = .ok (.imul, 1) := by decide +kernel
theorem dX11_call_121 : decode cX11_call 121 = .ok (.iaload, 1) := by decide +kernel
theorem dX11_call_122 : decode cX11_call 122 = .ok (.invokevirtual 129, 3) := by decide +kernel
theorem dX11_call_125 : decode cX11_call 125 = .ok (.iastore, 1) := by decide +kernel
theorem dX11_call_126 : decode cX11_call 126 = .ok (.iconst 0, 1) := by decide +kernel
theorem dX11_call_127 : decode cX11_call 127 = .ok (.istore 5, 2) := by decide +kernel
theorem dX11_call_129 : decode cX11_call 129 = .ok (.iload 5, 2) := by decide +kernel
theorem dX11_call_131 : decode cX11_call 131 = .ok (.aload_n 0, 1) := by decide +kernel
theorem dX11_call_132 : decode cX11_call 132 = .ok (.getfield 83, 3) := by decide +kernel
theorem dX11_call_135 : decode cX11_call 135 = .ok (.if_icmp .ge 75, 3) := by decide +kernel
theorem dX11_call_138 : decode cX11_call 138 = .ok (.aload_n 1, 1) := by decide +kernel
theorem dX11_call_139 : decode cX11_call 139 = .ok (.getfield 86, 3) := by decide +kernel
theorem dX11_call_142 : decode cX11_call 142 = .ok (.iconst 4, 1) := by decide +kernel
theorem dX11_call_143 : decode cX11_call 143 = .ok (.iload 5, 2) := by decide +kernel
theorem dX11_call_145 : decode cX11_call 145 = .ok (.imul, 1) := by decide +kernel
theorem dX11_call_146 : decode cX11_call 146 = .ok (.iconst 2, 1) := by decide +kernel
theorem dX11_call_147 : decode cX11_call 147 = .ok (.iadd, 1) := by decide +kernel
theorem dX11_call_148 : decode cX11_call 148 = .ok (.iaload, 1) := by decide +kernel
theorem dX11_call_149 : decode cX11_call 149 = .ok (.ifCond .ne 55, 3) := by decide +kernel
theorem dX11_call_152 : decode cX11_call 152 = .ok (.aload_n 1, 1) := by decide +kernel
theorem dX11_call_153 : decode cX11_call 153 = .ok (.getfield 92, 3) := by decide +kernel
theorem dX11_call_156 : decode cX11_call 156 = .ok (.iconst 2, 1) := by decide +kernel
theorem dX11_call_157 : decode cX11_call 157 = .ok (.iload_n 2, 1) := by decide +kernel
theorem dX11_call_158 : decode cX11_call 158 = .ok (.imul, 1) := by decide +kernel
theorem dX11_call_159 : decode cX11_call 159 = .ok (.iaload, 1) := by decide +kernel
theorem dX11_call_160 : decode cX11_call 160 = .ok (.aload_n 1, 1) := by decide +kernel
theorem dX11_call_161 : decode cX11_call 161 = .ok (.getfield 86, 3) := by decide +kernel
theorem dX11_call_164 : decode cX11_call 164 = .ok (.iconst 4, 1) := by decide +kernel
theorem dX11_call_165 : decode cX11_call 165 = .ok (.iload 5, 2) := by decide +kernel
theorem dX11_call_167 : decode cX11_call 167 = .ok (.imul, 1) := by decide +kernel
theorem dX11_call_168 : decode cX11_call 168 = .ok (.iaload, 1) := by decide +kernel
theorem dX11_call_169 : decode cX11_call 169 = .ok (.invokestatic 132, 3) := by decide +kernel
theorem dX11_call_172 : decode cX11_call 172 = .ok (.ifCond .ne 6, 3) := by decide +kernel
theorem dX11_call_175 : decode cX11_call 175 = .ok (.goto 29, 3) := by decide +kernel
theorem dX11_call_178 : decode cX11_call 178 = .ok (.aload_n 1, 1) := by decide +kernel
theorem dX11_call_179 : decode cX11_call 179 = .ok (.getfield 86, 3) := by decide +kernel
theorem dX11_call_182 : decode cX11_call 182 = .ok (.iconst 4, 1) := by decide +kernel
theorem dX11_call_183 : decode cX11_call 183 = .ok (.iload 5, 2) := by decide +kernel
theorem dX11_call_185 : decode cX11_call 185 = .ok (.imul, 1) := by decide +kernel
theorem dX11_call_186 : decode cX11_call 186 = .ok (.iconst 2, 1) := by decide +kernel
theorem dX11_call_187 : decode cX11_call 187 = .ok (.iadd, 1) := by decide +kernel
theorem dX11_call_188 : decode cX11_call 188 = .ok (.iconst 1, 1) := by decide +kernel
theorem dX11_call_189 : decode cX11_call 189 = .ok (.iastore, 1) := by decide +kernel
theorem dX11_call_190 : decode cX11_call 190 = .ok (.aload_n 1, 1) := by decide +kernel
theorem dX11_call_191 : decode cX11_call 191 = .ok (.getfield 92, 3) := by decide +kernel
theorem dX11_call_194 : decode cX11_call 194 = .ok (.iconst 2, 1) := by decide +kernel
theorem dX11_call_195 : decode cX11_call 195 = .ok (.iload_n 2, 1) := by decide +kernel
theorem dX11_call_196 : decode cX11_call 196 = .ok (.imul, 1) := by decide +kernel
theorem dX11_call_197 : decode cX11_call 197 = .ok (.iconst 1, 1) := by decide +kernel
theorem dX11_call_198 : decode cX11_call 198 = .ok (.iadd, 1) := by decide +kernel
theorem dX11_call_199 : decode cX11_call 199 = .ok (.dup2, 1) := by decide +kernel
theorem dX11_call_200 : decode cX11_call 200 = .ok (.iaload, 1) := by decide +kernel
theorem dX11_call_201 : decode cX11_call 201 = .ok (.iconst 1, 1) := by decide +kernel
theorem dX11_call_202 : decode cX11_call 202 = .ok (.iadd, 1) := by decide +kernel
theorem dX11_call_203 : decode cX11_call 203 = .ok (.iastore, 1) := by decide +kernel
theorem dX11_call_204 : decode cX11_call 204 = .ok (.iinc 5 1, 3) := by decide +kernel
theorem dX11_call_207 : decode cX11_call 207 = .ok (.goto (-78), 3) := by decide +kernel
theorem dX11_call_210 : decode cX11_call 210 = .ok (.return_, 1) := by decide +kernel
theorem dX11_isNear_0 : decode cX11_isNear 0 = .ok (.iload_n 0, 1) := by decide +kernel
theorem dX11_isNear_1 : decode cX11_isNear 1 = .ok (.bipush 10, 2) := by decide +kernel
theorem dX11_isNear_3 : decode cX11_isNear 3 = .ok (.irem, 1) := by decide +kernel
theorem dX11_isNear_4 : decode cX11_isNear 4 = .ok (.iload_n 1, 1) := by decide +kernel
theorem dX11_isNear_5 : decode cX11_isNear 5 = .ok (.bipush 10, 2) := by decide +kernel
theorem dX11_isNear_7 : decode cX11_isNear 7 = .ok (.irem, 1) := by decide +kernel
theorem dX11_isNear_8 : decode cX11_isNear 8 = .ok (.isub, 1) := by decide +kernel
theorem dX11_isNear_9 : decode cX11_isNear 9 = .ok (.invokestatic 135, 3) := by decide +kernel
theorem dX11_isNear_12 : decode cX11_isNear 12 = .ok (.iload_n 0, 1) := by decide +kernel
theorem dX11_isNear_13 : decode cX11_isNear 13 = .ok (.bipush 10, 2) := by decide +kernel
theorem dX11_isNear_15 : decode cX11_isNear 15 = .ok (.idiv, 1) := by decide +kernel
theorem dX11_isNear_16 : decode cX11_isNear 16 = .ok (.iload_n 1, 1) := by decide +kernel
theorem dX11_isNear_17 : decode cX11_isNear 17 = .ok (.bipush 10, 2) := by decide +kernel
theorem dX11_isNear_19 : decode cX11_isNear 19 = .ok (.idiv, 1) := by decide +kernel
theorem dX11_isNear_20 : decode cX11_isNear 20 = .ok (.isub, 1) := by decide +kernel
theorem dX11_isNear_21 : decode cX11_isNear 21 = .ok (.invokestatic 135, 3) := by decide +kernel
theorem dX11_isNear_24 : decode cX11_isNear 24 = .ok (.iadd, 1) := by decide +kernel
theorem dX11_isNear_25 : decode cX11_isNear 25 = .ok (.iconst 1, 1) := by decide +kernel
theorem dX11_isNear_26 : decode cX11_isNear 26 = .ok (.if_icmp .gt 7, 3) := by decide +kernel
theorem dX11_isNear_29 : decode cX11_isNear 29 = .ok (.iconst 1, 1) := by decide +kernel
theorem dX11_isNear_30 : decode cX11_isNear 30 = .ok (.goto 4, 3) := by decide +kernel
theorem dX11_isNear_33 : decode cX11_isNear 33 = .ok (.iconst 0, 1) := by decide +kernel
theorem dX11_isNear_34 : decode cX11_isNear 34 = .ok (.ireturn, 1) := by decide +kernel
theorem dX11_peopleIn_0 : decode cX11_peopleIn 0 = .ok (.iconst 0, 1) := by decide +kernel
theorem dX11_peopleIn_1 : decode cX11_peopleIn 1 = .ok (.istore_n 3, 1) := by decide +kernel
theorem dX11_peopleIn_2 : decode cX11_peopleIn 2 = .ok (.iconst 0, 1) := by decide +kernel
theorem dX11_peopleIn_3 : decode cX11_peopleIn 3 = .ok (.istore 4, 2) := by decide +kernel
theorem dX11_peopleIn_5 : decode cX11_peopleIn 5 = .ok (.iload 4, 2) := by decide +kernel
theorem dX11_peopleIn_7 : decode cX11_peopleIn 7 = .ok (.aload_n 0, 1) := by decide +kernel
theorem dX11_peopleIn_8 : decode cX11_peopleIn 8 = .ok (.getfield 83, 3) := by decide +kernel
theorem dX11_peopleIn_11 : decode cX11_peopleIn 11 = .ok (.if_icmp .ge 57, 3) := by decide +kernel
theorem dX11_peopleIn_14 : decode cX11_peopleIn 14 = .ok (.iload_n 3, 1) := by decide +kernel
theorem dX11_peopleIn_15 : decode cX11_peopleIn 15 = .ok (.aload_n 1, 1) := by decide +kernel
theorem dX11_peopleIn_16 : decode cX11_peopleIn 16 = .ok (.getfield 86, 3) := by decide +kernel
theorem dX11_peopleIn_19 : decode cX11_peopleIn 19 = .ok (.iconst 4, 1) := by decide +kernel
theorem dX11_peopleIn_20 : decode cX11_peopleIn 20 = .ok (.iload 4, 2) := by decide +kernel
theorem dX11_peopleIn_22 : decode cX11_peopleIn 22 = .ok (.imul, 1) := by decide +kernel
theorem dX11_peopleIn_23 : decode cX11_peopleIn 23 = .ok (.iconst 2, 1) := by decide +kernel
theorem dX11_peopleIn_24 : decode cX11_peopleIn 24 = .ok (.iadd, 1) := by decide +kernel
theorem dX11_peopleIn_25 : decode cX11_peopleIn 25 = .ok (.iaload, 1) := by decide +kernel
theorem dX11_peopleIn_26 : decode cX11_peopleIn 26 = .ok (.iconst 2, 1) := by decide +kernel
theorem dX11_peopleIn_27 : decode cX11_peopleIn 27 = .ok (.if_icmp .ne 32, 3) := by decide +kernel
theorem dX11_peopleIn_30 : decode cX11_peopleIn 30 = .ok (.aload_n 1, 1) := by decide +kernel
theorem dX11_peopleIn_31 : decode cX11_peopleIn 31 = .ok (.getfield 86, 3) := by decide +kernel
theorem dX11_peopleIn_34 : decode cX11_peopleIn 34 = .ok (.iconst 4, 1) := by decide +kernel
theorem dX11_peopleIn_35 : decode cX11_peopleIn 35 = .ok (.iload 4, 2) := by decide +kernel
theorem dX11_peopleIn_37 : decode cX11_peopleIn 37 = .ok (.imul, 1) := by decide +kernel
theorem dX11_peopleIn_38 : decode cX11_peopleIn 38 = .ok (.iconst 3, 1) := by decide +kernel
theorem dX11_peopleIn_39 : decode cX11_peopleIn 39 = .ok (.iadd, 1) := by decide +kernel
theorem dX11_peopleIn_40 : decode cX11_peopleIn 40 = .ok (.iaload, 1) := by decide +kernel
theorem dX11_peopleIn_41 : decode cX11_peopleIn 41 = .ok (.iload_n 2, 1) := by decide +kernel
theorem dX11_peopleIn_42 : decode cX11_peopleIn 42 = .ok (.if_icmp .ne 17, 3) := by decide +kernel
theorem dX11_peopleIn_45 : decode cX11_peopleIn 45 = .ok (.aload_n 1, 1) := by decide +kernel
theorem dX11_peopleIn_46 : decode cX11_peopleIn 46 = .ok (.getfield 86, 3) := by decide +kernel
theorem dX11_peopleIn_49 : decode cX11_peopleIn 49 = .ok (.iconst 4, 1) := by decide +kernel
theorem dX11_peopleIn_50 : decode cX11_peopleIn 50 = .ok (.iload 4, 2) := by decide +kernel
theorem dX11_peopleIn_52 : decode cX11_peopleIn 52 = .ok (.imul, 1) := by decide +kernel
theorem dX11_peopleIn_53 : decode cX11_peopleIn 53 = .ok (.iconst 1, 1) := by decide +kernel
theorem dX11_peopleIn_54 : decode cX11_peopleIn 54 = .ok (.iadd, 1) := by decide +kernel
theorem dX11_peopleIn_55 : decode cX11_peopleIn 55 = .ok (.iaload, 1) := by decide +kernel
theorem dX11_peopleIn_56 : decode cX11_peopleIn 56 = .ok (.goto 4, 3) := by decide +kernel
theorem dX11_peopleIn_59 : decode cX11_peopleIn 59 = .ok (.iconst 0, 1) := by decide +kernel
theorem dX11_peopleIn_60 : decode cX11_peopleIn 60 = .ok (.iadd, 1) := by decide +kernel
theorem dX11_peopleIn_61 : decode cX11_peopleIn 61 = .ok (.istore_n 3, 1) := by decide +kernel
theorem dX11_peopleIn_62 : decode cX11_peopleIn 62 = .ok (.iinc 4 1, 3) := by decide +kernel
theorem dX11_peopleIn_65 : decode cX11_peopleIn 65 = .ok (.goto (-60), 3) := by decide +kernel
theorem dX11_peopleIn_68 : decode cX11_peopleIn 68 = .ok (.iload_n 3, 1) := by decide +kernel
theorem dX11_peopleIn_69 : decode cX11_peopleIn 69 = .ok (.ireturn, 1) := by decide +kernel
theorem dX11_hasRoom_0 : decode cX11_hasRoom 0 = .ok (.aload_n 1, 1) := by decide +kernel
theorem dX11_hasRoom_1 : decode cX11_hasRoom 1 = .ok (.getfield 80, 3) := by decide +kernel
theorem dX11_hasRoom_4 : decode cX11_hasRoom 4 = .ok (.iconst 2, 1) := by decide +kernel
theorem dX11_hasRoom_5 : decode cX11_hasRoom 5 = .ok (.iload_n 2, 1) := by decide +kernel
theorem dX11_hasRoom_6 : decode cX11_hasRoom 6 = .ok (.imul, 1) := by decide +kernel
theorem dX11_hasRoom_7 : decode cX11_hasRoom 7 = .ok (.iconst 1, 1) := by decide +kernel
theorem dX11_hasRoom_8 : decode cX11_hasRoom 8 = .ok (.iadd, 1) := by decide +kernel
theorem dX11_hasRoom_9 : decode cX11_hasRoom 9 = .ok (.iaload, 1) := by decide +kernel
theorem dX11_hasRoom_10 : decode cX11_hasRoom 10 = .ok (.aload_n 0, 1) := by decide +kernel
theorem dX11_hasRoom_11 : decode cX11_hasRoom 11 = .ok (.aload_n 1, 1) := by decide +kernel
theorem dX11_hasRoom_12 : decode cX11_hasRoom 12 = .ok (.iload_n 2, 1) := by decide +kernel
theorem dX11_hasRoom_13 : decode cX11_hasRoom 13 = .ok (.invokevirtual 138, 3) := by decide +kernel
theorem dX11_hasRoom_16 : decode cX11_hasRoom 16 = .ok (.isub, 1) := by decide +kernel
theorem dX11_hasRoom_17 : decode cX11_hasRoom 17 = .ok (.iload_n 3, 1) := by decide +kernel
theorem dX11_hasRoom_18 : decode cX11_hasRoom 18 = .ok (.if_icmp .lt 7, 3) := by decide +kernel
theorem dX11_hasRoom_21 : decode cX11_hasRoom 21 = .ok (.iconst 1, 1) := by decide +kernel
theorem dX11_hasRoom_22 : decode cX11_hasRoom 22 = .ok (.goto 4, 3) := by decide +kernel
theorem dX11_hasRoom_25 : decode cX11_hasRoom 25 = .ok (.iconst 0, 1) := by decide +kernel
theorem dX11_hasRoom_26 : decode cX11_hasRoom 26 = .ok (.ireturn, 1) := by decide +kernel
theorem dX11_refugeFor_0 : decode cX11_refugeFor 0 = .ok (.iconst (-1), 1) := by decide +kernel
theorem dX11_refugeFor_1 : decode cX11_refugeFor 1 = .ok (.istore_n 3, 1) := by decide +kernel
theorem dX11_refugeFor_2 : decode cX11_refugeFor 2 = .ok (.iconst (-1), 1) := by decide +kernel
theorem dX11_refugeFor_3 : decode cX11_refugeFor 3 = .ok (.istore 4, 2) := by decide +kernel
theorem dX11_refugeFor_5 : decode cX11_refugeFor 5 = .ok (.iconst 0, 1) := by decide +kernel
theorem dX11_refugeFor_6 : decode cX11_refugeFor 6 = .ok (.istore 5, 2) := by decide +kernel
theorem dX11_refugeFor_8 : decode cX11_refugeFor 8 = .ok (.iload 5, 2) := by decide +kernel
theorem dX11_refugeFor_10 : decode cX11_refugeFor 10 = .ok (.aload_n 0, 1) := by decide +kernel
theorem dX11_refugeFor_11 : decode cX11_refugeFor 11 = .ok (.getfield 77, 3) := by decide +kernel
theorem dX11_refugeFor_14 : decode cX11_refugeFor 14 = .ok (.if_icmp .ge 84, 3) := by decide +kernel
theorem dX11_refugeFor_17 : decode cX11_refugeFor 17 = .ok (.aload_n 0, 1) := by decide +kernel
theorem dX11_refugeFor_18 : decode cX11_refugeFor 18 = .ok (.aload_n 1, 1) := by decide +kernel
theorem dX11_refugeFor_19 : decode cX11_refugeFor 19 = .ok (.iload 5, 2) := by decide +kernel
theorem dX11_refugeFor_21 : decode cX11_refugeFor 21 = .ok (.aload_n 1, 1) := by decide +kernel
theorem dX11_refugeFor_22 : decode cX11_refugeFor 22 = .ok (.getfield 86, 3) := by decide +kernel
theorem dX11_refugeFor_25 : decode cX11_refugeFor 25 = .ok (.iconst 4, 1) := by decide +kernel
theorem dX11_refugeFor_26 : decode cX11_refugeFor 26 = .ok (.iload_n 2, 1) := by decide +kernel
theorem dX11_refugeFor_27 : decode cX11_refugeFor 27 = .ok (.imul, 1) := by decide +kernel
theorem dX11_refugeFor_28 : decode cX11_refugeFor 28 = .ok (.iconst 1, 1) := by decide +kernel
theorem dX11_refugeFor_29 : decode cX11_refugeFor 29 = .ok (.iadd, 1) := by decide +kernel
theorem dX11_refugeFor_30 : decode cX11_refugeFor 30 = .ok (.iaload, 1) := by decide +kernel
theorem dX11_refugeFor_31 : decode cX11_refugeFor 31 = .ok (.invokevirtual 142, 3) := by decide +kernel
theorem dX11_refugeFor_34 : decode cX11_refugeFor 34 = .ok (.ifCond .ne 6, 3) := by decide +kernel
theorem dX11_refugeFor_37 : decode cX11_refugeFor 37 = .ok (.goto 55, 3) := by decide +kernel
theorem dX11_refugeFor_40 : decode cX11_refugeFor 40 = .ok (.aload_n 0, 1) := by decide +kernel
theorem dX11_refugeFor_41 : decode cX11_refugeFor 41 = .ok (.aload_n 1, 1) := by decide +kernel
theorem dX11_refugeFor_42 : decode cX11_refugeFor 42 = .ok (.aload_n 1, 1) := by decide +kernel
theorem dX11_refugeFor_43 : decode cX11_refugeFor 43 = .ok (.getfield 86, 3) := by decide +kernel
theorem dX11_refugeFor_46 : decode cX11_refugeFor 46 = .ok (.iconst 4, 1) := by decide +kernel
theorem dX11_refugeFor_47 : decode cX11_refugeFor 47 = .ok (.iload_n 2, 1) := by decide +kernel
theorem dX11_refugeFor_48 : decode cX11_refugeFor 48 = .ok (.imul, 1) := by decide +kernel
theorem dX11_refugeFor_49 : decode cX11_refugeFor 49 = .ok (.iaload, 1) := by decide +kernel
theorem dX11_refugeFor_50 : decode cX11_refugeFor 50 = .ok (.aload_n 1, 1) := by decide +kernel
theorem dX11_refugeFor_51 : decode cX11_refugeFor 51 = .ok (.getfield 80, 3) := by decide +kernel
theorem dX11_refugeFor_54 : decode cX11_refugeFor 54 = .ok (.iconst 2, 1) := by decide +kernel
theorem dX11_refugeFor_55 : decode cX11_refugeFor 55 = .ok (.iload 5, 2) := by decide +kernel
theorem dX11_refugeFor_57 : decode cX11_refugeFor 57 = .ok (.imul, 1) := by decide +kernel
theorem dX11_refugeFor_58 : decode cX11_refugeFor 58 = .ok (.iaload, 1) := by decide +kernel
theorem dX11_refugeFor_59 : decode cX11_refugeFor 59 = .ok (.invokevirtual 125, 3) := by decide +kernel
theorem dX11_refugeFor_62 : decode cX11_refugeFor 62 = .ok (.istore 6, 2) := by decide +kernel
theorem dX11_refugeFor_64 : decode cX11_refugeFor 64 = .ok (.iload 6, 2) := by decide +kernel
theorem dX11_refugeFor_66 : decode cX11_refugeFor 66 = .ok (.iconst (-1), 1) := by decide +kernel
theorem dX11_refugeFor_67 : decode cX11_refugeFor 67 = .ok (.if_icmp .eq 25, 3) := by decide +kernel
theorem dX11_refugeFor_70 : decode cX11_refugeFor 70 = .ok (.iload_n 3, 1) := by decide +kernel
theorem dX11_refugeFor_71 : decode cX11_refugeFor 71 = .ok (.iconst (-1), 1) := by decide +kernel
theorem dX11_refugeFor_72 : decode cX11_refugeFor 72 = .ok (.if_icmp .eq 13, 3) := by decide +kernel
theorem dX11_refugeFor_75 : decode cX11_refugeFor 75 = .ok (.iload 6, 2) := by decide +kernel
theorem dX11_refugeFor_77 : decode cX11_refugeFor 77 = .ok (.iload 4, 2) := by decide +kernel
theorem dX11_refugeFor_79 : decode cX11_refugeFor 79 = .ok (.if_icmp .lt 6, 3) := by decide +kernel
theorem dX11_refugeFor_82 : decode cX11_refugeFor 82 = .ok (.goto 10, 3) := by decide +kernel
theorem dX11_refugeFor_85 : decode cX11_refugeFor 85 = .ok (.iload 5, 2) := by decide +kernel
theorem dX11_refugeFor_87 : decode cX11_refugeFor 87 = .ok (.istore_n 3, 1) := by decide +kernel
theorem dX11_refugeFor_88 : decode cX11_refugeFor 88 = .ok (.iload 6, 2) := by decide +kernel
theorem dX11_refugeFor_90 : decode cX11_refugeFor 90 = .ok (.istore 4, 2) := by decide +kernel
theorem dX11_refugeFor_92 : decode cX11_refugeFor 92 = .ok (.iinc 5 1, 3) := by decide +kernel
theorem dX11_refugeFor_95 : decode cX11_refugeFor 95 = .ok (.goto (-87), 3) := by decide +kernel
theorem dX11_refugeFor_98 : decode cX11_refugeFor 98 = .ok (.iload_n 3, 1) := by decide +kernel
theorem dX11_refugeFor_99 : decode cX11_refugeFor 99 = .ok (.ireturn, 1) := by decide +kernel
theorem dX11_flee_0 : decode cX11_flee 0 = .ok (.aload_n 0, 1) := by decide +kernel
theorem dX11_flee_1 : decode cX11_flee 1 = .ok (.aload_n 1, 1) := by decide +kernel
theorem dX11_flee_2 : decode cX11_flee 2 = .ok (.iload_n 2, 1) := by decide +kernel
theorem dX11_flee_3 : decode cX11_flee 3 = .ok (.invokevirtual 146, 3) := by decide +kernel
theorem dX11_flee_6 : decode cX11_flee 6 = .ok (.istore_n 3, 1) := by decide +kernel
theorem dX11_flee_7 : decode cX11_flee 7 = .ok (.iload_n 3, 1) := by decide +kernel
theorem dX11_flee_8 : decode cX11_flee 8 = .ok (.iconst (-1), 1) := by decide +kernel
theorem dX11_flee_9 : decode cX11_flee 9 = .ok (.if_icmp .eq 32, 3) := by decide +kernel
theorem dX11_flee_12 : decode cX11_flee 12 = .ok (.aload_n 1, 1) := by decide +kernel
theorem dX11_flee_13 : decode cX11_flee 13 = .ok (.getfield 86, 3) := by decide +kernel
theorem dX11_flee_16 : decode cX11_flee 16 = .ok (.iconst 4, 1) := by decide +kernel
theorem dX11_flee_17 : decode cX11_flee 17 = .ok (.iload_n 2, 1) := by decide +kernel
theorem dX11_flee_18 : decode cX11_flee 18 = .ok (.imul, 1) := by decide +kernel
theorem dX11_flee_19 : decode cX11_flee 19 = .ok (.aload_n 0, 1) := by decide +kernel
theorem dX11_flee_20 : decode cX11_flee 20 = .ok (.aload_n 1, 1) := by decide +kernel
theorem dX11_flee_21 : decode cX11_flee 21 = .ok (.aload_n 1, 1) := by decide +kernel
theorem dX11_flee_22 : decode cX11_flee 22 = .ok (.getfield 86, 3) := by decide +kernel
theorem dX11_flee_25 : decode cX11_flee 25 = .ok (.iconst 4, 1) := by decide +kernel
theorem dX11_flee_26 : decode cX11_flee 26 = .ok (.iload_n 2, 1) := by decide +kernel
theorem dX11_flee_27 : decode cX11_flee 27 = .ok (.imul, 1) := by decide +kernel
theorem dX11_flee_28 : decode cX11_flee 28 = .ok (.iaload, 1) := by decide +kernel
theorem dX11_flee_29 : decode cX11_flee 29 = .ok (.aload_n 1, 1) := by decide +kernel
theorem dX11_flee_30 : decode cX11_flee 30 = .ok (.getfield 80, 3) := by decide +kernel
theorem dX11_flee_33 : decode cX11_flee 33 = .ok (.iconst 2, 1) := by decide +kernel
theorem dX11_flee_34 : decode cX11_flee 34 = .ok (.iload_n 3, 1) := by decide +kernel
theorem dX11_flee_35 : decode cX11_flee 35 = .ok (.imul, 1) := by decide +kernel
theorem dX11_flee_36 : decode cX11_flee 36 = .ok (.iaload, 1) := by decide +kernel
theorem dX11_flee_37 : decode cX11_flee 37 = .ok (.invokevirtual 129, 3) := by decide +kernel
theorem dX11_flee_40 : decode cX11_flee 40 = .ok (.iastore, 1) := by decide +kernel
theorem dX11_flee_41 : decode cX11_flee 41 = .ok (.aload_n 1, 1) := by decide +kernel
theorem dX11_flee_42 : decode cX11_flee 42 = .ok (.getfield 80, 3) := by decide +kernel
theorem dX11_flee_45 : decode cX11_flee 45 = .ok (.iconst 2, 1) := by decide +kernel
theorem dX11_flee_46 : decode cX11_flee 46 = .ok (.aload_n 0, 1) := by decide +kernel
theorem dX11_flee_47 : decode cX11_flee 47 = .ok (.getfield 77, 3) := by decide +kernel
theorem dX11_flee_50 : decode cX11_flee 50 = .ok (.aload_n 1, 1) := by decide +kernel
theorem dX11_flee_51 : decode cX11_flee 51 = .ok (.getfield 86, 3) := by decide +kernel
theorem dX11_flee_54 : decode cX11_flee 54 = .ok (.iconst 4, 1) := by decide +kernel
theorem dX11_flee_55 : decode cX11_flee 55 = .ok (.iload_n 2, 1) := by decide +kernel
theorem dX11_flee_56 : decode cX11_flee 56 = .ok (.imul, 1) := by decide +kernel
theorem dX11_flee_57 : decode cX11_flee 57 = .ok (.iaload, 1) := by decide +kernel
theorem dX11_flee_58 : decode cX11_flee 58 = .ok (.invokestatic 67, 3) := by decide +kernel
theorem dX11_flee_61 : decode cX11_flee 61 = .ok (.istore 4, 2) := by decide +kernel
theorem dX11_flee_63 : decode cX11_flee 63 = .ok (.iload 4, 2) := by decide +kernel
theorem dX11_flee_65 : decode cX11_flee 65 = .ok (.iconst (-1), 1) := by decide +kernel
theorem dX11_flee_66 : decode cX11_flee 66 = .ok (.if_icmp .eq 23, 3) := by decide +kernel
theorem dX11_flee_69 : decode cX11_flee 69 = .ok (.aload_n 0, 1) := by decide +kernel
theorem dX11_flee_70 : decode cX11_flee 70 = .ok (.aload_n 1, 1) := by decide +kernel
theorem dX11_flee_71 : decode cX11_flee 71 = .ok (.iload 4, 2) := by decide +kernel
theorem dX11_flee_73 : decode cX11_flee 73 = .ok (.aload_n 1, 1) := by decide +kernel
theorem dX11_flee_74 : decode cX11_flee 74 = .ok (.getfield 86, 3) := by decide +kernel
theorem dX11_flee_77 : decode cX11_flee 77 = .ok (.iconst 4, 1) := by decide +kernel
theorem dX11_flee_78 : decode cX11_flee 78 = .ok (.iload_n 2, 1) := by decide +kernel
theorem dX11_flee_79 : decode cX11_flee 79 = .ok (.imul, 1) := by decide +kernel
theorem dX11_flee_80 : decode cX11_flee 80 = .ok (.iconst 1, 1) := by decide +kernel
theorem dX11_flee_81 : decode cX11_flee 81 = .ok (.iadd, 1) := by decide +kernel
theorem dX11_flee_82 : decode cX11_flee 82 = .ok (.iaload, 1) := by decide +kernel
theorem dX11_flee_83 : decode cX11_flee 83 = .ok (.invokevirtual 142, 3) := by decide +kernel
theorem dX11_flee_86 : decode cX11_flee 86 = .ok (.ifCond .ne 4, 3) := by decide +kernel
theorem dX11_flee_89 : decode cX11_flee 89 = .ok (.return_, 1) := by decide +kernel
theorem dX11_flee_90 : decode cX11_flee 90 = .ok (.aload_n 1, 1) := by decide +kernel
theorem dX11_flee_91 : decode cX11_flee 91 = .ok (.getfield 86, 3) := by decide +kernel
theorem dX11_flee_94 : decode cX11_flee 94 = .ok (.iconst 4, 1) := by decide +kernel
theorem dX11_flee_95 : decode cX11_flee 95 = .ok (.iload_n 2, 1) := by decide +kernel
theorem dX11_flee_96 : decode cX11_flee 96 = .ok (.imul, 1) := by decide +kernel
theorem dX11_flee_97 : decode cX11_flee 97 = .ok (.iconst 2, 1) := by decide +kernel
theorem dX11_flee_98 : decode cX11_flee 98 = .ok (.iadd, 1) := by decide +kernel
theorem dX11_flee_99 : decode cX11_flee 99 = .ok (.iconst 2, 1) := by decide +kernel
theorem dX11_flee_100 : decode cX11_flee 100 = .ok (.iastore, 1) := by decide +kernel
theorem dX11_flee_101 : decode cX11_flee 101 = .ok (.aload_n 1, 1) := by decide +kernel
theorem dX11_flee_102 : decode cX11_flee 102 = .ok (.getfield 86, 3) := by decide +kernel
theorem dX11_flee_105 : decode cX11_flee 105 = .ok (.iconst 4, 1) := by decide +kernel
theorem dX11_flee_106 : decode cX11_flee 106 = .ok (.iload_n 2, 1) := by decide +kernel
theorem dX11_flee_107 : decode cX11_flee 107 = .ok (.imul, 1) := by decide +kernel
theorem dX11_flee_108 : decode cX11_flee 108 = .ok (.iconst 3, 1) := by decide +kernel
theorem dX11_flee_109 : decode cX11_flee 109 = .ok (.iadd, 1) := by decide +kernel
theorem dX11_flee_110 : decode cX11_flee 110 = .ok (.iload 4, 2) := by decide +kernel
theorem dX11_flee_112 : decode cX11_flee 112 = .ok (.iastore, 1) := by decide +kernel
theorem dX11_flee_113 : decode cX11_flee 113 = .ok (.return_, 1) := by decide +kernel
theorem dX11_drown_0 : decode cX11_drown 0 = .ok (.aload_n 0, 1) := by decide +kernel
theorem dX11_drown_1 : decode cX11_drown 1 = .ok (.getfield 86, 3) := by decide +kernel
theorem dX11_drown_4 : decode cX11_drown 4 = .ok (.iconst 4, 1) := by decide +kernel
theorem dX11_drown_5 : decode cX11_drown 5 = .ok (.iload_n 1, 1) := by decide +kernel
theorem dX11_drown_6 : decode cX11_drown 6 = .ok (.imul, 1) := by decide +kernel
theorem dX11_drown_7 : decode cX11_drown 7 = .ok (.iconst 2, 1) := by decide +kernel
theorem dX11_drown_8 : decode cX11_drown 8 = .ok (.iadd, 1) := by decide +kernel
theorem dX11_drown_9 : decode cX11_drown 9 = .ok (.iaload, 1) := by decide +kernel
theorem dX11_drown_10 : decode cX11_drown 10 = .ok (.iconst 1, 1) := by decide +kernel
theorem dX11_drown_11 : decode cX11_drown 11 = .ok (.if_icmp .gt 20, 3) := by decide +kernel
theorem dX11_drown_14 : decode cX11_drown 14 = .ok (.aload_n 0, 1) := by decide +kernel
theorem dX11_drown_15 : decode cX11_drown 15 = .ok (.getfield 110, 3) := by decide +kernel
theorem dX11_drown_18 : decode cX11_drown 18 = .ok (.aload_n 0, 1) := by decide +kernel
theorem dX11_drown_19 : decode cX11_drown 19 = .ok (.getfield 86, 3) := by decide +kernel
theorem dX11_drown_22 : decode cX11_drown 22 = .ok (.iconst 4, 1) := by decide +kernel
theorem dX11_drown_23 : decode cX11_drown 23 = .ok (.iload_n 1, 1) := by decide +kernel
theorem dX11_drown_24 : decode cX11_drown 24 = .ok (.imul, 1) := by decide +kernel
theorem dX11_drown_25 : decode cX11_drown 25 = .ok (.iaload, 1) := by decide +kernel
theorem dX11_drown_26 : decode cX11_drown 26 = .ok (.iaload, 1) := by decide +kernel
theorem dX11_drown_27 : decode cX11_drown 27 = .ok (.iconst 5, 1) := by decide +kernel
theorem dX11_drown_28 : decode cX11_drown 28 = .ok (.if_icmp .ge 4, 3) := by decide +kernel
theorem dX11_drown_31 : decode cX11_drown 31 = .ok (.return_, 1) := by decide +kernel
theorem dX11_drown_32 : decode cX11_drown 32 = .ok (.aload_n 0, 1) := by decide +kernel
theorem dX11_drown_33 : decode cX11_drown 33 = .ok (.getfield 86, 3) := by decide +kernel
theorem dX11_drown_36 : decode cX11_drown 36 = .ok (.iconst 4, 1) := by decide +kernel
theorem dX11_drown_37 : decode cX11_drown 37 = .ok (.iload_n 1, 1) := by decide +kernel
theorem dX11_drown_38 : decode cX11_drown 38 = .ok (.imul, 1) := by decide +kernel
theorem dX11_drown_39 : decode cX11_drown 39 = .ok (.iconst 1, 1) := by decide +kernel
theorem dX11_drown_40 : decode cX11_drown 40 = .ok (.iadd, 1) := by decide +kernel
theorem dX11_drown_41 : decode cX11_drown 41 = .ok (.dup2, 1) := by decide +kernel
theorem dX11_drown_42 : decode cX11_drown 42 = .ok (.iaload, 1) := by decide +kernel
theorem dX11_drown_43 : decode cX11_drown 43 = .ok (.iconst 1, 1) := by decide +kernel
theorem dX11_drown_44 : decode cX11_drown 44 = .ok (.isub, 1) := by decide +kernel
theorem dX11_drown_45 : decode cX11_drown 45 = .ok (.iastore, 1) := by decide +kernel
theorem dX11_drown_46 : decode cX11_drown 46 = .ok (.aload_n 0, 1) := by decide +kernel
theorem dX11_drown_47 : decode cX11_drown 47 = .ok (.dup, 1) := by decide +kernel
theorem dX11_drown_48 : decode cX11_drown 48 = .ok (.getfield 149, 3) := by decide +kernel
theorem dX11_drown_51 : decode cX11_drown 51 = .ok (.iconst 1, 1) := by decide +kernel
theorem dX11_drown_52 : decode cX11_drown 52 = .ok (.iadd, 1) := by decide +kernel
theorem dX11_drown_53 : decode cX11_drown 53 = .ok (.putfield 149, 3) := by decide +kernel
theorem dX11_drown_56 : decode cX11_drown 56 = .ok (.aload_n 0, 1) := by decide +kernel
theorem dX11_drown_57 : decode cX11_drown 57 = .ok (.getfield 86, 3) := by decide +kernel
theorem dX11_drown_60 : decode cX11_drown 60 = .ok (.iconst 4, 1) := by decide +kernel
theorem dX11_drown_61 : decode cX11_drown 61 = .ok (.iload_n 1, 1) := by decide +kernel
theorem dX11_drown_62 : decode cX11_drown 62 = .ok (.imul, 1) := by decide +kernel
theorem dX11_drown_63 : decode cX11_drown 63 = .ok (.iconst 1, 1) := by decide +kernel
theorem dX11_drown_64 : decode cX11_drown 64 = .ok (.iadd, 1) := by decide +kernel
theorem dX11_drown_65 : decode cX11_drown 65 = .ok (.iaload, 1) := by decide +kernel
theorem dX11_drown_66 : decode cX11_drown 66 = .ok (.ifCond .ne 14, 3) := by decide +kernel
theorem dX11_drown_69 : decode cX11_drown 69 = .ok (.aload_n 0, 1) := by decide +kernel
theorem dX11_drown_70 : decode cX11_drown 70 = .ok (.getfield 86, 3) := by decide +kernel
theorem dX11_drown_73 : decode cX11_drown 73 = .ok (.iconst 4, 1) := by decide +kernel
theorem dX11_drown_74 : decode cX11_drown 74 = .ok (.iload_n 1, 1) := by decide +kernel
theorem dX11_drown_75 : decode cX11_drown 75 = .ok (.imul, 1) := by decide +kernel
theorem dX11_drown_76 : decode cX11_drown 76 = .ok (.iconst 2, 1) := by decide +kernel
theorem dX11_drown_77 : decode cX11_drown 77 = .ok (.iadd, 1) := by decide +kernel
theorem dX11_drown_78 : decode cX11_drown 78 = .ok (.iconst 3, 1) := by decide +kernel
theorem dX11_drown_79 : decode cX11_drown 79 = .ok (.iastore, 1) := by decide +kernel
theorem dX11_drown_80 : decode cX11_drown 80 = .ok (.return_, 1) := by decide +kernel
theorem dX11_hour_0 : decode cX11_hour 0 = .ok (.iconst 0, 1) := by decide +kernel
theorem dX11_hour_1 : decode cX11_hour 1 = .ok (.istore_n 2, 1) := by decide +kernel
theorem dX11_hour_2 : decode cX11_hour 2 = .ok (.iload_n 2, 1) := by decide +kernel
theorem dX11_hour_3 : decode cX11_hour 3 = .ok (.bipush 10, 2) := by decide +kernel
theorem dX11_hour_5 : decode cX11_hour 5 = .ok (.if_icmp .ge 27, 3) := by decide +kernel
theorem dX11_hour_8 : decode cX11_hour 8 = .ok (.aload_n 1, 1) := by decide +kernel
theorem dX11_hour_9 : decode cX11_hour 9 = .ok (.getfield 110, 3) := by decide +kernel
theorem dX11_hour_12 : decode cX11_hour 12 = .ok (.iload_n 2, 1) := by decide +kernel
theorem dX11_hour_13 : decode cX11_hour 13 = .ok (.aload_n 0, 1) := by decide +kernel
theorem dX11_hour_14 : decode cX11_hour 14 = .ok (.getfield 9, 3) := by decide +kernel
theorem dX11_hour_17 : decode cX11_hour 17 = .ok (.aload_n 1, 1) := by decide +kernel
theorem dX11_hour_18 : decode cX11_hour 18 = .ok (.getfield 152, 3) := by decide +kernel
theorem dX11_hour_21 : decode cX11_hour 21 = .ok (.bipush 12, 2) := by decide +kernel
theorem dX11_hour_23 : decode cX11_hour 23 = .ok (.irem, 1) := by decide +kernel
theorem dX11_hour_24 : decode cX11_hour 24 = .ok (.iaload, 1) := by decide +kernel
theorem dX11_hour_25 : decode cX11_hour 25 = .ok (.iastore, 1) := by decide +kernel
theorem dX11_hour_26 : decode cX11_hour 26 = .ok (.iinc 2 1, 3) := by decide +kernel
theorem dX11_hour_29 : decode cX11_hour 29 = .ok (.goto (-27), 3) := by decide +kernel
theorem dX11_hour_32 : decode cX11_hour 32 = .ok (.aload_n 0, 1) := by decide +kernel
theorem dX11_hour_33 : decode cX11_hour 33 = .ok (.aload_n 1, 1) := by decide +kernel
theorem dX11_hour_34 : decode cX11_hour 34 = .ok (.invokevirtual 155, 3) := by decide +kernel
theorem dX11_hour_37 : decode cX11_hour 37 = .ok (.iconst 0, 1) := by decide +kernel
theorem dX11_hour_38 : decode cX11_hour 38 = .ok (.istore_n 2, 1) := by decide +kernel
theorem dX11_hour_39 : decode cX11_hour 39 = .ok (.iload_n 2, 1) := by decide +kernel
theorem dX11_hour_40 : decode cX11_hour 40 = .ok (.aload_n 0, 1) := by decide +kernel
theorem dX11_hour_41 : decode cX11_hour 41 = .ok (.getfield 61, 3) := by decide +kernel
theorem dX11_hour_44 : decode cX11_hour 44 = .ok (.if_icmp .ge 15, 3) := by decide +kernel
theorem dX11_hour_47 : decode cX11_hour 47 = .ok (.aload_n 0, 1) := by decide +kernel
theorem dX11_hour_48 : decode cX11_hour 48 = .ok (.aload_n 1, 1) := by decide +kernel
theorem dX11_hour_49 : decode cX11_hour 49 = .ok (.iload_n 2, 1) := by decide +kernel
theorem dX11_hour_50 : decode cX11_hour 50 = .ok (.invokevirtual 159, 3) := by decide +kernel
theorem dX11_hour_53 : decode cX11_hour 53 = .ok (.iinc 2 1, 3) := by decide +kernel
theorem dX11_hour_56 : decode cX11_hour 56 = .ok (.goto (-17), 3) := by decide +kernel
theorem dX11_hour_59 : decode cX11_hour 59 = .ok (.aload_n 0, 1) := by decide +kernel
theorem dX11_hour_60 : decode cX11_hour 60 = .ok (.aload_n 1, 1) := by decide +kernel
theorem dX11_hour_61 : decode cX11_hour 61 = .ok (.invokevirtual 162, 3) := by decide +kernel
theorem dX11_hour_64 : decode cX11_hour 64 = .ok (.ifCond .le 7, 3) := by decide +kernel
theorem dX11_hour_67 : decode cX11_hour 67 = .ok (.iconst 1, 1) := by decide +kernel
theorem dX11_hour_68 : decode cX11_hour 68 = .ok (.goto 4, 3) := by decide +kernel
theorem dX11_hour_71 : decode cX11_hour 71 = .ok (.iconst 0, 1) := by decide +kernel
theorem dX11_hour_72 : decode cX11_hour 72 = .ok (.istore_n 2, 1) := by decide +kernel
theorem dX11_hour_73 : decode cX11_hour 73 = .ok (.iconst 0, 1) := by decide +kernel
theorem dX11_hour_74 : decode cX11_hour 74 = .ok (.istore_n 3, 1) := by decide +kernel
theorem dX11_hour_75 : decode cX11_hour 75 = .ok (.iload_n 3, 1) := by decide +kernel
theorem dX11_hour_76 : decode cX11_hour 76 = .ok (.aload_n 0, 1) := by decide +kernel
theorem dX11_hour_77 : decode cX11_hour 77 = .ok (.getfield 89, 3) := by decide +kernel
theorem dX11_hour_80 : decode cX11_hour 80 = .ok (.if_icmp .ge 19, 3) := by decide +kernel
theorem dX11_hour_83 : decode cX11_hour 83 = .ok (.iload_n 2, 1) := by decide +kernel
theorem dX11_hour_84 : decode cX11_hour 84 = .ok (.ifCond .eq 15, 3) := by decide +kernel
theorem dX11_hour_87 : decode cX11_hour 87 = .ok (.aload_n 0, 1) := by decide +kernel
theorem dX11_hour_88 : decode cX11_hour 88 = .ok (.aload_n 1, 1) := by decide +kernel
theorem dX11_hour_89 : decode cX11_hour 89 = .ok (.iload_n 3, 1) := by decide +kernel
theorem dX11_hour_90 : decode cX11_hour 90 = .ok (.invokevirtual 166, 3) := by decide +kernel
theorem dX11_hour_93 : decode cX11_hour 93 = .ok (.iinc 3 1, 3) := by decide +kernel
theorem dX11_hour_96 : decode cX11_hour 96 = .ok (.goto (-21), 3) := by decide +kernel
theorem dX11_hour_99 : decode cX11_hour 99 = .ok (.iconst 0, 1) := by decide +kernel
theorem dX11_hour_100 : decode cX11_hour 100 = .ok (.istore_n 3, 1) := by decide +kernel
theorem dX11_hour_101 : decode cX11_hour 101 = .ok (.iload_n 3, 1) := by decide +kernel
theorem dX11_hour_102 : decode cX11_hour 102 = .ok (.aload_n 0, 1) := by decide +kernel
theorem dX11_hour_103 : decode cX11_hour 103 = .ok (.getfield 83, 3) := by decide +kernel
theorem dX11_hour_106 : decode cX11_hour 106 = .ok (.if_icmp .ge 29, 3) := by decide +kernel
theorem dX11_hour_109 : decode cX11_hour 109 = .ok (.aload_n 1, 1) := by decide +kernel
theorem dX11_hour_110 : decode cX11_hour 110 = .ok (.getfield 86, 3) := by decide +kernel
theorem dX11_hour_113 : decode cX11_hour 113 = .ok (.iconst 4, 1) := by decide +kernel
theorem dX11_hour_114 : decode cX11_hour 114 = .ok (.iload_n 3, 1) := by decide +kernel
theorem dX11_hour_115 : decode cX11_hour 115 = .ok (.imul, 1) := by decide +kernel
theorem dX11_hour_116 : decode cX11_hour 116 = .ok (.iconst 2, 1) := by decide +kernel
theorem dX11_hour_117 : decode cX11_hour 117 = .ok (.iadd, 1) := by decide +kernel
theorem dX11_hour_118 : decode cX11_hour 118 = .ok (.iaload, 1) := by decide +kernel
theorem dX11_hour_119 : decode cX11_hour 119 = .ok (.iconst 1, 1) := by decide +kernel
theorem dX11_hour_120 : decode cX11_hour 120 = .ok (.if_icmp .ne 9, 3) := by decide +kernel
theorem dX11_hour_123 : decode cX11_hour 123 = .ok (.aload_n 0, 1) := by decide +kernel
theorem dX11_hour_124 : decode cX11_hour 124 = .ok (.aload_n 1, 1) := by decide +kernel
theorem dX11_hour_125 : decode cX11_hour 125 = .ok (.iload_n 3, 1) := by decide +kernel
theorem dX11_hour_126 : decode cX11_hour 126 = .ok (.invokevirtual 169, 3) := by decide +kernel
theorem dX11_hour_129 : decode cX11_hour 129 = .ok (.iinc 3 1, 3) := by decide +kernel
theorem dX11_hour_132 : decode cX11_hour 132 = .ok (.goto (-31), 3) := by decide +kernel
theorem dX11_hour_135 : decode cX11_hour 135 = .ok (.iconst 0, 1) := by decide +kernel
theorem dX11_hour_136 : decode cX11_hour 136 = .ok (.istore_n 3, 1) := by decide +kernel
theorem dX11_hour_137 : decode cX11_hour 137 = .ok (.iload_n 3, 1) := by decide +kernel
theorem dX11_hour_138 : decode cX11_hour 138 = .ok (.aload_n 0, 1) := by decide +kernel
theorem dX11_hour_139 : decode cX11_hour 139 = .ok (.getfield 83, 3) := by decide +kernel
theorem dX11_hour_142 : decode cX11_hour 142 = .ok (.if_icmp .ge 14, 3) := by decide +kernel
theorem dX11_hour_145 : decode cX11_hour 145 = .ok (.aload_n 1, 1) := by decide +kernel
theorem dX11_hour_146 : decode cX11_hour 146 = .ok (.iload_n 3, 1) := by decide +kernel
theorem dX11_hour_147 : decode cX11_hour 147 = .ok (.invokestatic 172, 3) := by decide +kernel
theorem dX11_hour_150 : decode cX11_hour 150 = .ok (.iinc 3 1, 3) := by decide +kernel
theorem dX11_hour_153 : decode cX11_hour 153 = .ok (.goto (-16), 3) := by decide +kernel
theorem dX11_hour_156 : decode cX11_hour 156 = .ok (.aload_n 1, 1) := by decide +kernel
theorem dX11_hour_157 : decode cX11_hour 157 = .ok (.dup, 1) := by decide +kernel
theorem dX11_hour_158 : decode cX11_hour 158 = .ok (.getfield 152, 3) := by decide +kernel
theorem dX11_hour_161 : decode cX11_hour 161 = .ok (.iconst 1, 1) := by decide +kernel
theorem dX11_hour_162 : decode cX11_hour 162 = .ok (.iadd, 1) := by decide +kernel
theorem dX11_hour_163 : decode cX11_hour 163 = .ok (.putfield 152, 3) := by decide +kernel
theorem dX11_hour_166 : decode cX11_hour 166 = .ok (.return_, 1) := by decide +kernel
theorem dX11_hours_0 : decode cX11_hours 0 = .ok (.iconst 0, 1) := by decide +kernel
theorem dX11_hours_1 : decode cX11_hours 1 = .ok (.istore_n 3, 1) := by decide +kernel
theorem dX11_hours_2 : decode cX11_hours 2 = .ok (.iload_n 3, 1) := by decide +kernel
theorem dX11_hours_3 : decode cX11_hours 3 = .ok (.iload_n 2, 1) := by decide +kernel
theorem dX11_hours_4 : decode cX11_hours 4 = .ok (.if_icmp .ge 14, 3) := by decide +kernel
theorem dX11_hours_7 : decode cX11_hours 7 = .ok (.aload_n 0, 1) := by decide +kernel
theorem dX11_hours_8 : decode cX11_hours 8 = .ok (.aload_n 1, 1) := by decide +kernel
theorem dX11_hours_9 : decode cX11_hours 9 = .ok (.invokevirtual 175, 3) := by decide +kernel
theorem dX11_hours_12 : decode cX11_hours 12 = .ok (.iinc 3 1, 3) := by decide +kernel
theorem dX11_hours_15 : decode cX11_hours 15 = .ok (.goto (-13), 3) := by decide +kernel
theorem dX11_hours_18 : decode cX11_hours 18 = .ok (.return_, 1) := by decide +kernel
theorem dX11_peopleAt_0 : decode cX11_peopleAt 0 = .ok (.iconst 0, 1) := by decide +kernel
theorem dX11_peopleAt_1 : decode cX11_peopleAt 1 = .ok (.istore_n 2, 1) := by decide +kernel
theorem dX11_peopleAt_2 : decode cX11_peopleAt 2 = .ok (.iconst 0, 1) := by decide +kernel
theorem dX11_peopleAt_3 : decode cX11_peopleAt 3 = .ok (.istore_n 3, 1) := by decide +kernel
theorem dX11_peopleAt_4 : decode cX11_peopleAt 4 = .ok (.iload_n 3, 1) := by decide +kernel
theorem dX11_peopleAt_5 : decode cX11_peopleAt 5 = .ok (.aload_n 0, 1) := by decide +kernel
theorem dX11_peopleAt_6 : decode cX11_peopleAt 6 = .ok (.getfield 83, 3) := by decide +kernel
theorem dX11_peopleAt_9 : decode cX11_peopleAt 9 = .ok (.if_icmp .ge 61, 3) := by decide +kernel
theorem dX11_peopleAt_12 : decode cX11_peopleAt 12 = .ok (.iload_n 2, 1) := by decide +kernel
theorem dX11_peopleAt_13 : decode cX11_peopleAt 13 = .ok (.aload_n 0, 1) := by decide +kernel
theorem dX11_peopleAt_14 : decode cX11_peopleAt 14 = .ok (.getfield 28, 3) := by decide +kernel
theorem dX11_peopleAt_17 : decode cX11_peopleAt 17 = .ok (.getfield 86, 3) := by decide +kernel
theorem dX11_peopleAt_20 : decode cX11_peopleAt 20 = .ok (.iconst 4, 1) := by decide +kernel
theorem dX11_peopleAt_21 : decode cX11_peopleAt 21 = .ok (.iload_n 3, 1) := by decide +kernel
theorem dX11_peopleAt_22 : decode cX11_peopleAt 22 = .ok (.imul, 1) := by decide +kernel
theorem dX11_peopleAt_23 : decode cX11_peopleAt 23 = .ok (.iaload, 1) := by decide +kernel
theorem dX11_peopleAt_24 : decode cX11_peopleAt 24 = .ok (.iload_n 1, 1) := by decide +kernel
theorem dX11_peopleAt_25 : decode cX11_peopleAt 25 = .ok (.if_icmp .ne 36, 3) := by decide +kernel
theorem dX11_peopleAt_28 : decode cX11_peopleAt 28 = .ok (.aload_n 0, 1) := by decide +kernel
theorem dX11_peopleAt_29 : decode cX11_peopleAt 29 = .ok (.getfield 28, 3) := by decide +kernel
theorem dX11_peopleAt_32 : decode cX11_peopleAt 32 = .ok (.getfield 86, 3) := by decide +kernel
theorem dX11_peopleAt_35 : decode cX11_peopleAt 35 = .ok (.iconst 4, 1) := by decide +kernel
theorem dX11_peopleAt_36 : decode cX11_peopleAt 36 = .ok (.iload_n 3, 1) := by decide +kernel
theorem dX11_peopleAt_37 : decode cX11_peopleAt 37 = .ok (.imul, 1) := by decide +kernel
theorem dX11_peopleAt_38 : decode cX11_peopleAt 38 = .ok (.iconst 2, 1) := by decide +kernel
theorem dX11_peopleAt_39 : decode cX11_peopleAt 39 = .ok (.iadd, 1) := by decide +kernel
theorem dX11_peopleAt_40 : decode cX11_peopleAt 40 = .ok (.iaload, 1) := by decide +kernel
theorem dX11_peopleAt_41 : decode cX11_peopleAt 41 = .ok (.iconst 2, 1) := by decide +kernel
theorem dX11_peopleAt_42 : decode cX11_peopleAt 42 = .ok (.if_icmp .ge 19, 3) := by decide +kernel
theorem dX11_peopleAt_45 : decode cX11_peopleAt 45 = .ok (.aload_n 0, 1) := by decide +kernel
theorem dX11_peopleAt_46 : decode cX11_peopleAt 46 = .ok (.getfield 28, 3) := by decide +kernel
theorem dX11_peopleAt_49 : decode cX11_peopleAt 49 = .ok (.getfield 86, 3) := by decide +kernel
theorem dX11_peopleAt_52 : decode cX11_peopleAt 52 = .ok (.iconst 4, 1) := by decide +kernel
theorem dX11_peopleAt_53 : decode cX11_peopleAt 53 = .ok (.iload_n 3, 1) := by decide +kernel
theorem dX11_peopleAt_54 : decode cX11_peopleAt 54 = .ok (.imul, 1) := by decide +kernel
theorem dX11_peopleAt_55 : decode cX11_peopleAt 55 = .ok (.iconst 1, 1) := by decide +kernel
theorem dX11_peopleAt_56 : decode cX11_peopleAt 56 = .ok (.iadd, 1) := by decide +kernel
theorem dX11_peopleAt_57 : decode cX11_peopleAt 57 = .ok (.iaload, 1) := by decide +kernel
theorem dX11_peopleAt_58 : decode cX11_peopleAt 58 = .ok (.goto 4, 3) := by decide +kernel
theorem dX11_peopleAt_61 : decode cX11_peopleAt 61 = .ok (.iconst 0, 1) := by decide +kernel
theorem dX11_peopleAt_62 : decode cX11_peopleAt 62 = .ok (.iadd, 1) := by decide +kernel
theorem dX11_peopleAt_63 : decode cX11_peopleAt 63 = .ok (.istore_n 2, 1) := by decide +kernel
theorem dX11_peopleAt_64 : decode cX11_peopleAt 64 = .ok (.iinc 3 1, 3) := by decide +kernel
theorem dX11_peopleAt_67 : decode cX11_peopleAt 67 = .ok (.goto (-63), 3) := by decide +kernel
theorem dX11_peopleAt_70 : decode cX11_peopleAt 70 = .ok (.iload_n 2, 1) := by decide +kernel
theorem dX11_peopleAt_71 : decode cX11_peopleAt 71 = .ok (.ireturn, 1) := by decide +kernel
theorem dX11_cellTold_0 : decode cX11_cellTold 0 = .ok (.bipush 6, 2) := by decide +kernel
theorem dX11_cellTold_2 : decode cX11_cellTold 2 = .ok (.newarray .int, 2) := by decide +kernel
theorem dX11_cellTold_4 : decode cX11_cellTold 4 = .ok (.dup, 1) := by decide +kernel
theorem dX11_cellTold_5 : decode cX11_cellTold 5 = .ok (.iconst 0, 1) := by decide +kernel
theorem dX11_cellTold_6 : decode cX11_cellTold 6 = .ok (.aload_n 0, 1) := by decide +kernel
theorem dX11_cellTold_7 : decode cX11_cellTold 7 = .ok (.getfield 28, 3) := by decide +kernel
theorem dX11_cellTold_10 : decode cX11_cellTold 10 = .ok (.getfield 35, 3) := by decide +kernel
theorem dX11_cellTold_13 : decode cX11_cellTold 13 = .ok (.iload_n 1, 1) := by decide +kernel
theorem dX11_cellTold_14 : decode cX11_cellTold 14 = .ok (.iaload, 1) := by decide +kernel
theorem dX11_cellTold_15 : decode cX11_cellTold 15 = .ok (.iastore, 1) := by decide +kernel
theorem dX11_cellTold_16 : decode cX11_cellTold 16 = .ok (.dup, 1) := by decide +kernel
theorem dX11_cellTold_17 : decode cX11_cellTold 17 = .ok (.iconst 1, 1) := by decide +kernel
theorem dX11_cellTold_18 : decode cX11_cellTold 18 = .ok (.aload_n 0, 1) := by decide +kernel
theorem dX11_cellTold_19 : decode cX11_cellTold 19 = .ok (.getfield 28, 3) := by decide +kernel
theorem dX11_cellTold_22 : decode cX11_cellTold 22 = .ok (.getfield 54, 3) := by decide +kernel
theorem dX11_cellTold_25 : decode cX11_cellTold 25 = .ok (.iload_n 1, 1) := by decide +kernel
theorem dX11_cellTold_26 : decode cX11_cellTold 26 = .ok (.iaload, 1) := by decide +kernel
theorem dX11_cellTold_27 : decode cX11_cellTold 27 = .ok (.iastore, 1) := by decide +kernel
theorem dX11_cellTold_28 : decode cX11_cellTold 28 = .ok (.dup, 1) := by decide +kernel
theorem dX11_cellTold_29 : decode cX11_cellTold 29 = .ok (.iconst 2, 1) := by decide +kernel
theorem dX11_cellTold_30 : decode cX11_cellTold 30 = .ok (.aload_n 0, 1) := by decide +kernel
theorem dX11_cellTold_31 : decode cX11_cellTold 31 = .ok (.getfield 28, 3) := by decide +kernel
theorem dX11_cellTold_34 : decode cX11_cellTold 34 = .ok (.getfield 110, 3) := by decide +kernel
theorem dX11_cellTold_37 : decode cX11_cellTold 37 = .ok (.iload_n 1, 1) := by decide +kernel
theorem dX11_cellTold_38 : decode cX11_cellTold 38 = .ok (.iaload, 1) := by decide +kernel
theorem dX11_cellTold_39 : decode cX11_cellTold 39 = .ok (.iastore, 1) := by decide +kernel
theorem dX11_cellTold_40 : decode cX11_cellTold 40 = .ok (.dup, 1) := by decide +kernel
theorem dX11_cellTold_41 : decode cX11_cellTold 41 = .ok (.iconst 3, 1) := by decide +kernel
theorem dX11_cellTold_42 : decode cX11_cellTold 42 = .ok (.aload_n 0, 1) := by decide +kernel
theorem dX11_cellTold_43 : decode cX11_cellTold 43 = .ok (.getfield 28, 3) := by decide +kernel
theorem dX11_cellTold_46 : decode cX11_cellTold 46 = .ok (.iload_n 1, 1) := by decide +kernel
theorem dX11_cellTold_47 : decode cX11_cellTold 47 = .ok (.invokevirtual 117, 3) := by decide +kernel
theorem dX11_cellTold_50 : decode cX11_cellTold 50 = .ok (.iastore, 1) := by decide +kernel
theorem dX11_cellTold_51 : decode cX11_cellTold 51 = .ok (.dup, 1) := by decide +kernel
theorem dX11_cellTold_52 : decode cX11_cellTold 52 = .ok (.iconst 4, 1) := by decide +kernel
theorem dX11_cellTold_53 : decode cX11_cellTold 53 = .ok (.aload_n 0, 1) := by decide +kernel
theorem dX11_cellTold_54 : decode cX11_cellTold 54 = .ok (.iload_n 1, 1) := by decide +kernel
theorem dX11_cellTold_55 : decode cX11_cellTold 55 = .ok (.invokevirtual 177, 3) := by decide +kernel
theorem dX11_cellTold_58 : decode cX11_cellTold 58 = .ok (.iastore, 1) := by decide +kernel
theorem dX11_cellTold_59 : decode cX11_cellTold 59 = .ok (.dup, 1) := by decide +kernel
theorem dX11_cellTold_60 : decode cX11_cellTold 60 = .ok (.iconst 5, 1) := by decide +kernel
theorem dX11_cellTold_61 : decode cX11_cellTold 61 = .ok (.aload_n 0, 1) := by decide +kernel
theorem dX11_cellTold_62 : decode cX11_cellTold 62 = .ok (.getfield 28, 3) := by decide +kernel
theorem dX11_cellTold_65 : decode cX11_cellTold 65 = .ok (.iload_n 1, 1) := by decide +kernel
theorem dX11_cellTold_66 : decode cX11_cellTold 66 = .ok (.invokevirtual 95, 3) := by decide +kernel
theorem dX11_cellTold_69 : decode cX11_cellTold 69 = .ok (.ifCond .eq 7, 3) := by decide +kernel
theorem dX11_cellTold_72 : decode cX11_cellTold 72 = .ok (.iconst 1, 1) := by decide +kernel
theorem dX11_cellTold_73 : decode cX11_cellTold 73 = .ok (.goto 4, 3) := by decide +kernel
theorem dX11_cellTold_76 : decode cX11_cellTold 76 = .ok (.iconst 0, 1) := by decide +kernel
theorem dX11_cellTold_77 : decode cX11_cellTold 77 = .ok (.iastore, 1) := by decide +kernel
theorem dX11_cellTold_78 : decode cX11_cellTold 78 = .ok (.astore_n 3, 1) := by decide +kernel
theorem dX11_cellTold_79 : decode cX11_cellTold 79 = .ok (.aload_n 3, 1) := by decide +kernel
theorem dX11_cellTold_80 : decode cX11_cellTold 80 = .ok (.iload_n 2, 1) := by decide +kernel
theorem dX11_cellTold_81 : decode cX11_cellTold 81 = .ok (.iaload, 1) := by decide +kernel
theorem dX11_cellTold_82 : decode cX11_cellTold 82 = .ok (.ireturn, 1) := by decide +kernel
theorem dX11_cell_0 : decode cX11_cell 0 = .ok (.aload_n 0, 1) := by decide +kernel
theorem dX11_cell_1 : decode cX11_cell 1 = .ok (.iconst 0, 1) := by decide +kernel
theorem dX11_cell_2 : decode cX11_cell 2 = .ok (.putfield 38, 3) := by decide +kernel
theorem dX11_cell_5 : decode cX11_cell 5 = .ok (.iload_n 1, 1) := by decide +kernel
theorem dX11_cell_6 : decode cX11_cell 6 = .ok (.iload_n 2, 1) := by decide +kernel
theorem dX11_cell_7 : decode cX11_cell 7 = .ok (.invokestatic 46, 3) := by decide +kernel
theorem dX11_cell_10 : decode cX11_cell 10 = .ok (.ifCond .eq 26, 3) := by decide +kernel
theorem dX11_cell_13 : decode cX11_cell 13 = .ok (.iload_n 3, 1) := by decide +kernel
theorem dX11_cell_14 : decode cX11_cell 14 = .ok (.iconst 0, 1) := by decide +kernel
theorem dX11_cell_15 : decode cX11_cell 15 = .ok (.iconst 5, 1) := by decide +kernel
theorem dX11_cell_16 : decode cX11_cell 16 = .ok (.invokestatic 42, 3) := by decide +kernel
theorem dX11_cell_19 : decode cX11_cell 19 = .ok (.ifCond .eq 17, 3) := by decide +kernel
theorem dX11_cell_22 : decode cX11_cell 22 = .ok (.aload_n 0, 1) := by decide +kernel
theorem dX11_cell_23 : decode cX11_cell 23 = .ok (.bipush 10, 2) := by decide +kernel
theorem dX11_cell_25 : decode cX11_cell 25 = .ok (.iload_n 2, 1) := by decide +kernel
theorem dX11_cell_26 : decode cX11_cell 26 = .ok (.imul, 1) := by decide +kernel
theorem dX11_cell_27 : decode cX11_cell 27 = .ok (.iload_n 1, 1) := by decide +kernel
theorem dX11_cell_28 : decode cX11_cell 28 = .ok (.iadd, 1) := by decide +kernel
theorem dX11_cell_29 : decode cX11_cell 29 = .ok (.iload_n 3, 1) := by decide +kernel
theorem dX11_cell_30 : decode cX11_cell 30 = .ok (.invokevirtual 180, 3) := by decide +kernel
theorem dX11_cell_33 : decode cX11_cell 33 = .ok (.goto 8, 3) := by decide +kernel
theorem dX11_cell_36 : decode cX11_cell 36 = .ok (.aload_n 0, 1) := by decide +kernel
theorem dX11_cell_37 : decode cX11_cell 37 = .ok (.iconst 1, 1) := by decide +kernel
theorem dX11_cell_38 : decode cX11_cell 38 = .ok (.invokevirtual 50, 3) := by decide +kernel
theorem dX11_cell_41 : decode cX11_cell 41 = .ok (.ireturn, 1) := by decide +kernel
theorem dX11_pumpTold_0 : decode cX11_pumpTold 0 = .ok (.iload_n 2, 1) := by decide +kernel
theorem dX11_pumpTold_1 : decode cX11_pumpTold 1 = .ok (.ifCond .ne 20, 3) := by decide +kernel
theorem dX11_pumpTold_4 : decode cX11_pumpTold 4 = .ok (.aload_n 0, 1) := by decide +kernel
theorem dX11_pumpTold_5 : decode cX11_pumpTold 5 = .ok (.getfield 28, 3) := by decide +kernel
theorem dX11_pumpTold_8 : decode cX11_pumpTold 8 = .ok (.getfield 64, 3) := by decide +kernel
theorem dX11_pumpTold_11 : decode cX11_pumpTold 11 = .ok (.iconst 5, 1) := by decide +kernel
theorem dX11_pumpTold_12 : decode cX11_pumpTold 12 = .ok (.iload_n 1, 1) := by decide +kernel
theorem dX11_pumpTold_13 : decode cX11_pumpTold 13 = .ok (.imul, 1) := by decide +kernel
theorem dX11_pumpTold_14 : decode cX11_pumpTold 14 = .ok (.iaload, 1) := by decide +kernel
theorem dX11_pumpTold_15 : decode cX11_pumpTold 15 = .ok (.bipush 10, 2) := by decide +kernel
theorem dX11_pumpTold_17 : decode cX11_pumpTold 17 = .ok (.irem, 1) := by decide +kernel
theorem dX11_pumpTold_18 : decode cX11_pumpTold 18 = .ok (.goto 40, 3) := by decide +kernel
theorem dX11_pumpTold_21 : decode cX11_pumpTold 21 = .ok (.iload_n 2, 1) := by decide +kernel
theorem dX11_pumpTold_22 : decode cX11_pumpTold 22 = .ok (.iconst 1, 1) := by decide +kernel
theorem dX11_pumpTold_23 : decode cX11_pumpTold 23 = .ok (.if_icmp .ne 20, 3) := by decide +kernel
theorem dX11_pumpTold_26 : decode cX11_pumpTold 26 = .ok (.aload_n 0, 1) := by decide +kernel
theorem dX11_pumpTold_27 : decode cX11_pumpTold 27 = .ok (.getfield 28, 3) := by decide +kernel
theorem dX11_pumpTold_30 : decode cX11_pumpTold 30 = .ok (.getfield 64, 3) := by decide +kernel
theorem dX11_pumpTold_33 : decode cX11_pumpTold 33 = .ok (.iconst 5, 1) := by decide +kernel
theorem dX11_pumpTold_34 : decode cX11_pumpTold 34 = .ok (.iload_n 1, 1) := by decide +kernel
theorem dX11_pumpTold_35 : decode cX11_pumpTold 35 = .ok (.imul, 1) := by decide +kernel
theorem dX11_pumpTold_36 : decode cX11_pumpTold 36 = .ok (.iaload, 1) := by decide +kernel
theorem dX11_pumpTold_37 : decode cX11_pumpTold 37 = .ok (.bipush 10, 2) := by decide +kernel
theorem dX11_pumpTold_39 : decode cX11_pumpTold 39 = .ok (.idiv, 1) := by decide +kernel
theorem dX11_pumpTold_40 : decode cX11_pumpTold 40 = .ok (.goto 18, 3) := by decide +kernel
theorem dX11_pumpTold_43 : decode cX11_pumpTold 43 = .ok (.aload_n 0, 1) := by decide +kernel
theorem dX11_pumpTold_44 : decode cX11_pumpTold 44 = .ok (.getfield 28, 3) := by decide +kernel
theorem dX11_pumpTold_47 : decode cX11_pumpTold 47 = .ok (.getfield 64, 3) := by decide +kernel
theorem dX11_pumpTold_50 : decode cX11_pumpTold 50 = .ok (.iconst 5, 1) := by decide +kernel
theorem dX11_pumpTold_51 : decode cX11_pumpTold 51 = .ok (.iload_n 1, 1) := by decide +kernel
theorem dX11_pumpTold_52 : decode cX11_pumpTold 52 = .ok (.imul, 1) := by decide +kernel
theorem dX11_pumpTold_53 : decode cX11_pumpTold 53 = .ok (.iload_n 2, 1) := by decide +kernel
theorem dX11_pumpTold_54 : decode cX11_pumpTold 54 = .ok (.iadd, 1) := by decide +kernel
theorem dX11_pumpTold_55 : decode cX11_pumpTold 55 = .ok (.iconst 1, 1) := by decide +kernel
theorem dX11_pumpTold_56 : decode cX11_pumpTold 56 = .ok (.isub, 1) := by decide +kernel
theorem dX11_pumpTold_57 : decode cX11_pumpTold 57 = .ok (.iaload, 1) := by decide +kernel
theorem dX11_pumpTold_58 : decode cX11_pumpTold 58 = .ok (.ireturn, 1) := by decide +kernel
theorem dX11_pump_0 : decode cX11_pump 0 = .ok (.aload_n 0, 1) := by decide +kernel
theorem dX11_pump_1 : decode cX11_pump 1 = .ok (.iconst 0, 1) := by decide +kernel
theorem dX11_pump_2 : decode cX11_pump 2 = .ok (.putfield 38, 3) := by decide +kernel
theorem dX11_pump_5 : decode cX11_pump 5 = .ok (.iload_n 1, 1) := by decide +kernel
theorem dX11_pump_6 : decode cX11_pump 6 = .ok (.iconst 0, 1) := by decide +kernel
theorem dX11_pump_7 : decode cX11_pump 7 = .ok (.aload_n 0, 1) := by decide +kernel
theorem dX11_pump_8 : decode cX11_pump 8 = .ok (.getfield 61, 3) := by decide +kernel
theorem dX11_pump_11 : decode cX11_pump 11 = .ok (.iconst 1, 1) := by decide +kernel
theorem dX11_pump_12 : decode cX11_pump 12 = .ok (.isub, 1) := by decide +kernel
theorem dX11_pump_13 : decode cX11_pump 13 = .ok (.invokestatic 42, 3) := by decide +kernel
theorem dX11_pump_16 : decode cX11_pump 16 = .ok (.ifCond .eq 21, 3) := by decide +kernel
theorem dX11_pump_19 : decode cX11_pump 19 = .ok (.iload_n 2, 1) := by decide +kernel
theorem dX11_pump_20 : decode cX11_pump 20 = .ok (.iconst 0, 1) := by decide +kernel
theorem dX11_pump_21 : decode cX11_pump 21 = .ok (.iconst 5, 1) := by decide +kernel
theorem dX11_pump_22 : decode cX11_pump 22 = .ok (.invokestatic 42, 3) := by decide +kernel
theorem dX11_pump_25 : decode cX11_pump 25 = .ok (.ifCond .eq 12, 3) := by decide +kernel
theorem dX11_pump_28 : decode cX11_pump 28 = .ok (.aload_n 0, 1) := by decide +kernel
theorem dX11_pump_29 : decode cX11_pump 29 = .ok (.iload_n 1, 1) := by decide +kernel
theorem dX11_pump_30 : decode cX11_pump 30 = .ok (.iload_n 2, 1) := by decide +kernel
theorem dX11_pump_31 : decode cX11_pump 31 = .ok (.invokevirtual 183, 3) := by decide +kernel
theorem dX11_pump_34 : decode cX11_pump 34 = .ok (.goto 8, 3) := by decide +kernel
theorem dX11_pump_37 : decode cX11_pump 37 = .ok (.aload_n 0, 1) := by decide +kernel
theorem dX11_pump_38 : decode cX11_pump 38 = .ok (.iconst 1, 1) := by decide +kernel
theorem dX11_pump_39 : decode cX11_pump 39 = .ok (.invokevirtual 50, 3) := by decide +kernel
theorem dX11_pump_42 : decode cX11_pump 42 = .ok (.ireturn, 1) := by decide +kernel
theorem dX11_gaugeTold_0 : decode cX11_gaugeTold 0 = .ok (.aload_n 0, 1) := by decide +kernel
theorem dX11_gaugeTold_1 : decode cX11_gaugeTold 1 = .ok (.getfield 28, 3) := by decide +kernel
theorem dX11_gaugeTold_4 : decode cX11_gaugeTold 4 = .ok (.getfield 74, 3) := by decide +kernel
theorem dX11_gaugeTold_7 : decode cX11_gaugeTold 7 = .ok (.iconst 2, 1) := by decide +kernel
theorem dX11_gaugeTold_8 : decode cX11_gaugeTold 8 = .ok (.iload_n 1, 1) := by decide +kernel
theorem dX11_gaugeTold_9 : decode cX11_gaugeTold 9 = .ok (.imul, 1) := by decide +kernel
theorem dX11_gaugeTold_10 : decode cX11_gaugeTold 10 = .ok (.iaload, 1) := by decide +kernel
theorem dX11_gaugeTold_11 : decode cX11_gaugeTold 11 = .ok (.istore_n 3, 1) := by decide +kernel
theorem dX11_gaugeTold_12 : decode cX11_gaugeTold 12 = .ok (.iload_n 2, 1) := by decide +kernel
theorem dX11_gaugeTold_13 : decode cX11_gaugeTold 13 = .ok (.ifCond .ne 10, 3) := by decide +kernel
theorem dX11_gaugeTold_16 : decode cX11_gaugeTold 16 = .ok (.iload_n 3, 1) := by decide +kernel
theorem dX11_gaugeTold_17 : decode cX11_gaugeTold 17 = .ok (.bipush 10, 2) := by decide +kernel
theorem dX11_gaugeTold_19 : decode cX11_gaugeTold 19 = .ok (.irem, 1) := by decide +kernel
theorem dX11_gaugeTold_20 : decode cX11_gaugeTold 20 = .ok (.goto 70, 3) := by decide +kernel
theorem dX11_gaugeTold_23 : decode cX11_gaugeTold 23 = .ok (.iload_n 2, 1) := by decide +kernel
theorem dX11_gaugeTold_24 : decode cX11_gaugeTold 24 = .ok (.iconst 1, 1) := by decide +kernel
theorem dX11_gaugeTold_25 : decode cX11_gaugeTold 25 = .ok (.if_icmp .ne 10, 3) := by decide +kernel
theorem dX11_gaugeTold_28 : decode cX11_gaugeTold 28 = .ok (.iload_n 3, 1) := by decide +kernel
theorem dX11_gaugeTold_29 : decode cX11_gaugeTold 29 = .ok (.bipush 10, 2) := by decide +kernel
theorem dX11_gaugeTold_31 : decode cX11_gaugeTold 31 = .ok (.idiv, 1) := by decide +kernel
theorem dX11_gaugeTold_32 : decode cX11_gaugeTold 32 = .ok (.goto 58, 3) := by decide +kernel
theorem dX11_gaugeTold_35 : decode cX11_gaugeTold 35 = .ok (.iload_n 2, 1) := by decide +kernel
theorem dX11_gaugeTold_36 : decode cX11_gaugeTold 36 = .ok (.iconst 2, 1) := by decide +kernel
theorem dX11_gaugeTold_37 : decode cX11_gaugeTold 37 = .ok (.if_icmp .ne 19, 3) := by decide +kernel
theorem dX11_gaugeTold_40 : decode cX11_gaugeTold 40 = .ok (.aload_n 0, 1) := by decide +kernel
theorem dX11_gaugeTold_41 : decode cX11_gaugeTold 41 = .ok (.getfield 28, 3) := by decide +kernel
theorem dX11_gaugeTold_44 : decode cX11_gaugeTold 44 = .ok (.getfield 74, 3) := by decide +kernel
theorem dX11_gaugeTold_47 : decode cX11_gaugeTold 47 = .ok (.iconst 2, 1) := by decide +kernel
theorem dX11_gaugeTold_48 : decode cX11_gaugeTold 48 = .ok (.iload_n 1, 1) := by decide +kernel
theorem dX11_gaugeTold_49 : decode cX11_gaugeTold 49 = .ok (.imul, 1) := by decide +kernel
theorem dX11_gaugeTold_50 : decode cX11_gaugeTold 50 = .ok (.iconst 1, 1) := by decide +kernel
theorem dX11_gaugeTold_51 : decode cX11_gaugeTold 51 = .ok (.iadd, 1) := by decide +kernel
theorem dX11_gaugeTold_52 : decode cX11_gaugeTold 52 = .ok (.iaload, 1) := by decide +kernel
theorem dX11_gaugeTold_53 : decode cX11_gaugeTold 53 = .ok (.goto 37, 3) := by decide +kernel
theorem dX11_gaugeTold_56 : decode cX11_gaugeTold 56 = .ok (.iload_n 2, 1) := by decide +kernel
theorem dX11_gaugeTold_57 : decode cX11_gaugeTold 57 = .ok (.iconst 3, 1) := by decide +kernel
theorem dX11_gaugeTold_58 : decode cX11_gaugeTold 58 = .ok (.if_icmp .ne 15, 3) := by decide +kernel
theorem dX11_gaugeTold_61 : decode cX11_gaugeTold 61 = .ok (.aload_n 0, 1) := by decide +kernel
theorem dX11_gaugeTold_62 : decode cX11_gaugeTold 62 = .ok (.getfield 28, 3) := by decide +kernel
theorem dX11_gaugeTold_65 : decode cX11_gaugeTold 65 = .ok (.getfield 110, 3) := by decide +kernel
theorem dX11_gaugeTold_68 : decode cX11_gaugeTold 68 = .ok (.iload_n 3, 1) := by decide +kernel
theorem dX11_gaugeTold_69 : decode cX11_gaugeTold 69 = .ok (.iaload, 1) := by decide +kernel
theorem dX11_gaugeTold_70 : decode cX11_gaugeTold 70 = .ok (.goto 20, 3) := by decide +kernel
theorem dX11_gaugeTold_73 : decode cX11_gaugeTold 73 = .ok (.aload_n 0, 1) := by decide +kernel
theorem dX11_gaugeTold_74 : decode cX11_gaugeTold 74 = .ok (.aload_n 0, 1) := by decide +kernel
theorem dX11_gaugeTold_75 : decode cX11_gaugeTold 75 = .ok (.getfield 28, 3) := by decide +kernel
theorem dX11_gaugeTold_78 : decode cX11_gaugeTold 78 = .ok (.iload_n 1, 1) := by decide +kernel
theorem dX11_gaugeTold_79 : decode cX11_gaugeTold 79 = .ok (.invokevirtual 113, 3) := by decide +kernel
theorem dX11_gaugeTold_82 : decode cX11_gaugeTold 82 = .ok (.ifCond .eq 7, 3) := by decide +kernel
theorem dX11_gaugeTold_85 : decode cX11_gaugeTold 85 = .ok (.iconst 1, 1) := by decide +kernel
theorem dX11_gaugeTold_86 : decode cX11_gaugeTold 86 = .ok (.goto 4, 3) := by decide +kernel
theorem dX11_gaugeTold_89 : decode cX11_gaugeTold 89 = .ok (.iconst 0, 1) := by decide +kernel
theorem dX11_gaugeTold_90 : decode cX11_gaugeTold 90 = .ok (.ireturn, 1) := by decide +kernel
theorem dX11_gauge_0 : decode cX11_gauge 0 = .ok (.aload_n 0, 1) := by decide +kernel
theorem dX11_gauge_1 : decode cX11_gauge 1 = .ok (.iconst 0, 1) := by decide +kernel
theorem dX11_gauge_2 : decode cX11_gauge 2 = .ok (.putfield 38, 3) := by decide +kernel
theorem dX11_gauge_5 : decode cX11_gauge 5 = .ok (.iload_n 1, 1) := by decide +kernel
theorem dX11_gauge_6 : decode cX11_gauge 6 = .ok (.iconst 0, 1) := by decide +kernel
theorem dX11_gauge_7 : decode cX11_gauge 7 = .ok (.aload_n 0, 1) := by decide +kernel
theorem dX11_gauge_8 : decode cX11_gauge 8 = .ok (.getfield 71, 3) := by decide +kernel
theorem dX11_gauge_11 : decode cX11_gauge 11 = .ok (.iconst 1, 1) := by decide +kernel
theorem dX11_gauge_12 : decode cX11_gauge 12 = .ok (.isub, 1) := by decide +kernel
theorem dX11_gauge_13 : decode cX11_gauge 13 = .ok (.invokestatic 42, 3) := by decide +kernel
theorem dX11_gauge_16 : decode cX11_gauge 16 = .ok (.ifCond .eq 21, 3) := by decide +kernel
theorem dX11_gauge_19 : decode cX11_gauge 19 = .ok (.iload_n 2, 1) := by decide +kernel
theorem dX11_gauge_20 : decode cX11_gauge 20 = .ok (.iconst 0, 1) := by decide +kernel
theorem dX11_gauge_21 : decode cX11_gauge 21 = .ok (.iconst 4, 1) := by decide +kernel
theorem dX11_gauge_22 : decode cX11_gauge 22 = .ok (.invokestatic 42, 3) := by decide +kernel
theorem dX11_gauge_25 : decode cX11_gauge 25 = .ok (.ifCond .eq 12, 3) := by decide +kernel
theorem dX11_gauge_28 : decode cX11_gauge 28 = .ok (.aload_n 0, 1) := by decide +kernel
theorem dX11_gauge_29 : decode cX11_gauge 29 = .ok (.iload_n 1, 1) := by decide +kernel
theorem dX11_gauge_30 : decode cX11_gauge 30 = .ok (.iload_n 2, 1) := by decide +kernel
theorem dX11_gauge_31 : decode cX11_gauge 31 = .ok (.invokevirtual 186, 3) := by decide +kernel
theorem dX11_gauge_34 : decode cX11_gauge 34 = .ok (.goto 8, 3) := by decide +kernel
theorem dX11_gauge_37 : decode cX11_gauge 37 = .ok (.aload_n 0, 1) := by decide +kernel
theorem dX11_gauge_38 : decode cX11_gauge 38 = .ok (.iconst 1, 1) := by decide +kernel
theorem dX11_gauge_39 : decode cX11_gauge 39 = .ok (.invokevirtual 50, 3) := by decide +kernel
theorem dX11_gauge_42 : decode cX11_gauge 42 = .ok (.ireturn, 1) := by decide +kernel
theorem dX11_refugeTold_0 : decode cX11_refugeTold 0 = .ok (.iconst 0, 1) := by decide +kernel
theorem dX11_refugeTold_1 : decode cX11_refugeTold 1 = .ok (.istore_n 3, 1) := by decide +kernel
theorem dX11_refugeTold_2 : decode cX11_refugeTold 2 = .ok (.iconst 0, 1) := by decide +kernel
theorem dX11_refugeTold_3 : decode cX11_refugeTold 3 = .ok (.istore 4, 2) := by decide +kernel
theorem dX11_refugeTold_5 : decode cX11_refugeTold 5 = .ok (.iload 4, 2) := by decide +kernel
theorem dX11_refugeTold_7 : decode cX11_refugeTold 7 = .ok (.aload_n 0, 1) := by decide +kernel
theorem dX11_refugeTold_8 : decode cX11_refugeTold 8 = .ok (.getfield 83, 3) := by decide +kernel
theorem dX11_refugeTold_11 : decode cX11_refugeTold 11 = .ok (.if_icmp .ge 53, 3) := by decide +kernel
theorem dX11_refugeTold_14 : decode cX11_refugeTold 14 = .ok (.iload_n 3, 1) := by decide +kernel
theorem dX11_refugeTold_15 : decode cX11_refugeTold 15 = .ok (.aload_n 0, 1) := by decide +kernel
theorem dX11_refugeTold_16 : decode cX11_refugeTold 16 = .ok (.getfield 28, 3) := by decide +kernel
theorem dX11_refugeTold_19 : decode cX11_refugeTold 19 = .ok (.getfield 86, 3) := by decide +kernel
theorem dX11_refugeTold_22 : decode cX11_refugeTold 22 = .ok (.iconst 4, 1) := by decide +kernel
theorem dX11_refugeTold_23 : decode cX11_refugeTold 23 = .ok (.iload 4, 2) := by decide +kernel
theorem dX11_refugeTold_25 : decode cX11_refugeTold 25 = .ok (.imul, 1) := by decide +kernel
theorem dX11_refugeTold_26 : decode cX11_refugeTold 26 = .ok (.iconst 2, 1) := by decide +kernel
theorem dX11_refugeTold_27 : decode cX11_refugeTold 27 = .ok (.iadd, 1) := by decide +kernel
theorem dX11_refugeTold_28 : decode cX11_refugeTold 28 = .ok (.iaload, 1) := by decide +kernel
theorem dX11_refugeTold_29 : decode cX11_refugeTold 29 = .ok (.iconst 2, 1) := by decide +kernel
theorem dX11_refugeTold_30 : decode cX11_refugeTold 30 = .ok (.if_icmp .ne 25, 3) := by decide +kernel
theorem dX11_refugeTold_33 : decode cX11_refugeTold 33 = .ok (.aload_n 0, 1) := by decide +kernel
theorem dX11_refugeTold_34 : decode cX11_refugeTold 34 = .ok (.getfield 28, 3) := by decide +kernel
theorem dX11_refugeTold_37 : decode cX11_refugeTold 37 = .ok (.getfield 86, 3) := by decide +kernel
theorem dX11_refugeTold_40 : decode cX11_refugeTold 40 = .ok (.iconst 4, 1) := by decide +kernel
theorem dX11_refugeTold_41 : decode cX11_refugeTold 41 = .ok (.iload 4, 2) := by decide +kernel
theorem dX11_refugeTold_43 : decode cX11_refugeTold 43 = .ok (.imul, 1) := by decide +kernel
theorem dX11_refugeTold_44 : decode cX11_refugeTold 44 = .ok (.iconst 3, 1) := by decide +kernel
theorem dX11_refugeTold_45 : decode cX11_refugeTold 45 = .ok (.iadd, 1) := by decide +kernel
theorem dX11_refugeTold_46 : decode cX11_refugeTold 46 = .ok (.iaload, 1) := by decide +kernel
theorem dX11_refugeTold_47 : decode cX11_refugeTold 47 = .ok (.iload_n 1, 1) := by decide +kernel
theorem dX11_refugeTold_48 : decode cX11_refugeTold 48 = .ok (.if_icmp .ne 7, 3) := by decide +kernel
theorem dX11_refugeTold_51 : decode cX11_refugeTold 51 = .ok (.iconst 1, 1) := by decide +kernel
theorem dX11_refugeTold_52 : decode cX11_refugeTold 52 = .ok (.goto 4, 3) := by decide +kernel
theorem dX11_refugeTold_55 : decode cX11_refugeTold 55 = .ok (.iconst 0, 1) := by decide +kernel
theorem dX11_refugeTold_56 : decode cX11_refugeTold 56 = .ok (.iadd, 1) := by decide +kernel
theorem dX11_refugeTold_57 : decode cX11_refugeTold 57 = .ok (.istore_n 3, 1) := by decide +kernel
theorem dX11_refugeTold_58 : decode cX11_refugeTold 58 = .ok (.iinc 4 1, 3) := by decide +kernel
theorem dX11_refugeTold_61 : decode cX11_refugeTold 61 = .ok (.goto (-56), 3) := by decide +kernel
theorem dX11_refugeTold_64 : decode cX11_refugeTold 64 = .ok (.iload_n 2, 1) := by decide +kernel
theorem dX11_refugeTold_65 : decode cX11_refugeTold 65 = .ok (.ifCond .ne 20, 3) := by decide +kernel
theorem dX11_refugeTold_68 : decode cX11_refugeTold 68 = .ok (.aload_n 0, 1) := by decide +kernel
theorem dX11_refugeTold_69 : decode cX11_refugeTold 69 = .ok (.getfield 28, 3) := by decide +kernel
theorem dX11_refugeTold_72 : decode cX11_refugeTold 72 = .ok (.getfield 80, 3) := by decide +kernel
theorem dX11_refugeTold_75 : decode cX11_refugeTold 75 = .ok (.iconst 2, 1) := by decide +kernel
theorem dX11_refugeTold_76 : decode cX11_refugeTold 76 = .ok (.iload_n 1, 1) := by decide +kernel
theorem dX11_refugeTold_77 : decode cX11_refugeTold 77 = .ok (.imul, 1) := by decide +kernel
theorem dX11_refugeTold_78 : decode cX11_refugeTold 78 = .ok (.iaload, 1) := by decide +kernel
theorem dX11_refugeTold_79 : decode cX11_refugeTold 79 = .ok (.bipush 10, 2) := by decide +kernel
theorem dX11_refugeTold_81 : decode cX11_refugeTold 81 = .ok (.irem, 1) := by decide +kernel
theorem dX11_refugeTold_82 : decode cX11_refugeTold 82 = .ok (.goto 64, 3) := by decide +kernel
theorem dX11_refugeTold_85 : decode cX11_refugeTold 85 = .ok (.iload_n 2, 1) := by decide +kernel
theorem dX11_refugeTold_86 : decode cX11_refugeTold 86 = .ok (.iconst 1, 1) := by decide +kernel
theorem dX11_refugeTold_87 : decode cX11_refugeTold 87 = .ok (.if_icmp .ne 20, 3) := by decide +kernel
theorem dX11_refugeTold_90 : decode cX11_refugeTold 90 = .ok (.aload_n 0, 1) := by decide +kernel
theorem dX11_refugeTold_91 : decode cX11_refugeTold 91 = .ok (.getfield 28, 3) := by decide +kernel
theorem dX11_refugeTold_94 : decode cX11_refugeTold 94 = .ok (.getfield 80, 3) := by decide +kernel
theorem dX11_refugeTold_97 : decode cX11_refugeTold 97 = .ok (.iconst 2, 1) := by decide +kernel
theorem dX11_refugeTold_98 : decode cX11_refugeTold 98 = .ok (.iload_n 1, 1) := by decide +kernel
theorem dX11_refugeTold_99 : decode cX11_refugeTold 99 = .ok (.imul, 1) := by decide +kernel
theorem dX11_refugeTold_100 : decode cX11_refugeTold 100 = .ok (.iaload, 1) := by decide +kernel
theorem dX11_refugeTold_101 : decode cX11_refugeTold 101 = .ok (.bipush 10, 2) := by decide +kernel
theorem dX11_refugeTold_103 : decode cX11_refugeTold 103 = .ok (.idiv, 1) := by decide +kernel
theorem dX11_refugeTold_104 : decode cX11_refugeTold 104 = .ok (.goto 42, 3) := by decide +kernel
theorem dX11_refugeTold_107 : decode cX11_refugeTold 107 = .ok (.iload_n 2, 1) := by decide +kernel
theorem dX11_refugeTold_108 : decode cX11_refugeTold 108 = .ok (.iconst 2, 1) := by decide +kernel
theorem dX11_refugeTold_109 : decode cX11_refugeTold 109 = .ok (.if_icmp .ne 19, 3) := by decide +kernel
theorem dX11_refugeTold_112 : decode cX11_refugeTold 112 = .ok (.aload_n 0, 1) := by decide +kernel
theorem dX11_refugeTold_113 : decode cX11_refugeTold 113 = .ok (.getfield 28, 3) := by decide +kernel
theorem dX11_refugeTold_116 : decode cX11_refugeTold 116 = .ok (.getfield 80, 3) := by decide +kernel
theorem dX11_refugeTold_119 : decode cX11_refugeTold 119 = .ok (.iconst 2, 1) := by decide +kernel
theorem dX11_refugeTold_120 : decode cX11_refugeTold 120 = .ok (.iload_n 1, 1) := by decide +kernel
theorem dX11_refugeTold_121 : decode cX11_refugeTold 121 = .ok (.imul, 1) := by decide +kernel
theorem dX11_refugeTold_122 : decode cX11_refugeTold 122 = .ok (.iconst 1, 1) := by decide +kernel
theorem dX11_refugeTold_123 : decode cX11_refugeTold 123 = .ok (.iadd, 1) := by decide +kernel
theorem dX11_refugeTold_124 : decode cX11_refugeTold 124 = .ok (.iaload, 1) := by decide +kernel
theorem dX11_refugeTold_125 : decode cX11_refugeTold 125 = .ok (.goto 21, 3) := by decide +kernel
theorem dX11_refugeTold_128 : decode cX11_refugeTold 128 = .ok (.iload_n 2, 1) := by decide +kernel
theorem dX11_refugeTold_129 : decode cX11_refugeTold 129 = .ok (.iconst 3, 1) := by decide +kernel
theorem dX11_refugeTold_130 : decode cX11_refugeTold 130 = .ok (.if_icmp .ne 15, 3) := by decide +kernel
theorem dX11_refugeTold_133 : decode cX11_refugeTold 133 = .ok (.aload_n 0, 1) := by decide +kernel
theorem dX11_refugeTold_134 : decode cX11_refugeTold 134 = .ok (.aload_n 0, 1) := by decide +kernel
theorem dX11_refugeTold_135 : decode cX11_refugeTold 135 = .ok (.getfield 28, 3) := by decide +kernel
theorem dX11_refugeTold_138 : decode cX11_refugeTold 138 = .ok (.iload_n 1, 1) := by decide +kernel
theorem dX11_refugeTold_139 : decode cX11_refugeTold 139 = .ok (.invokevirtual 138, 3) := by decide +kernel
theorem dX11_refugeTold_142 : decode cX11_refugeTold 142 = .ok (.goto 4, 3) := by decide +kernel
theorem dX11_refugeTold_145 : decode cX11_refugeTold 145 = .ok (.iload_n 3, 1) := by decide +kernel
theorem dX11_refugeTold_146 : decode cX11_refugeTold 146 = .ok (.ireturn, 1) := by decide +kernel
theorem dX11_refuge_0 : decode cX11_refuge 0 = .ok (.aload_n 0, 1) := by decide +kernel
theorem dX11_refuge_1 : decode cX11_refuge 1 = .ok (.iconst 0, 1) := by decide +kernel
theorem dX11_refuge_2 : decode cX11_refuge 2 = .ok (.putfield 38, 3) := by decide +kernel
theorem dX11_refuge_5 : decode cX11_refuge 5 = .ok (.iload_n 1, 1) := by decide +kernel
theorem dX11_refuge_6 : decode cX11_refuge 6 = .ok (.iconst 0, 1) := by decide +kernel
theorem dX11_refuge_7 : decode cX11_refuge 7 = .ok (.aload_n 0, 1) := by decide +kernel
theorem dX11_refuge_8 : decode cX11_refuge 8 = .ok (.getfield 77, 3) := by decide +kernel
theorem dX11_refuge_11 : decode cX11_refuge 11 = .ok (.iconst 1, 1) := by decide +kernel
theorem dX11_refuge_12 : decode cX11_refuge 12 = .ok (.isub, 1) := by decide +kernel
theorem dX11_refuge_13 : decode cX11_refuge 13 = .ok (.invokestatic 42, 3) := by decide +kernel
theorem dX11_refuge_16 : decode cX11_refuge 16 = .ok (.ifCond .eq 21, 3) := by decide +kernel
theorem dX11_refuge_19 : decode cX11_refuge 19 = .ok (.iload_n 2, 1) := by decide +kernel
theorem dX11_refuge_20 : decode cX11_refuge 20 = .ok (.iconst 0, 1) := by decide +kernel
theorem dX11_refuge_21 : decode cX11_refuge 21 = .ok (.iconst 4, 1) := by decide +kernel
theorem dX11_refuge_22 : decode cX11_refuge 22 = .ok (.invokestatic 42, 3) := by decide +kernel
theorem dX11_refuge_25 : decode cX11_refuge 25 = .ok (.ifCond .eq 12, 3) := by decide +kernel
theorem dX11_refuge_28 : decode cX11_refuge 28 = .ok (.aload_n 0, 1) := by decide +kernel
theorem dX11_refuge_29 : decode cX11_refuge 29 = .ok (.iload_n 1, 1) := by decide +kernel
theorem dX11_refuge_30 : decode cX11_refuge 30 = .ok (.iload_n 2, 1) := by decide +kernel
theorem dX11_refuge_31 : decode cX11_refuge 31 = .ok (.invokevirtual 189, 3) := by decide +kernel
theorem dX11_refuge_34 : decode cX11_refuge 34 = .ok (.goto 8, 3) := by decide +kernel
theorem dX11_refuge_37 : decode cX11_refuge 37 = .ok (.aload_n 0, 1) := by decide +kernel
theorem dX11_refuge_38 : decode cX11_refuge 38 = .ok (.iconst 1, 1) := by decide +kernel
theorem dX11_refuge_39 : decode cX11_refuge 39 = .ok (.invokevirtual 50, 3) := by decide +kernel
theorem dX11_refuge_42 : decode cX11_refuge 42 = .ok (.ireturn, 1) := by decide +kernel
theorem dX11_wayOf_0 : decode cX11_wayOf 0 = .ok (.aload_n 0, 1) := by decide +kernel
theorem dX11_wayOf_1 : decode cX11_wayOf 1 = .ok (.getfield 28, 3) := by decide +kernel
theorem dX11_wayOf_4 : decode cX11_wayOf 4 = .ok (.getfield 86, 3) := by decide +kernel
theorem dX11_wayOf_7 : decode cX11_wayOf 7 = .ok (.iconst 4, 1) := by decide +kernel
theorem dX11_wayOf_8 : decode cX11_wayOf 8 = .ok (.iload_n 1, 1) := by decide +kernel
theorem dX11_wayOf_9 : decode cX11_wayOf 9 = .ok (.imul, 1) := by decide +kernel
theorem dX11_wayOf_10 : decode cX11_wayOf 10 = .ok (.iconst 2, 1) := by decide +kernel
theorem dX11_wayOf_11 : decode cX11_wayOf 11 = .ok (.iadd, 1) := by decide +kernel
theorem dX11_wayOf_12 : decode cX11_wayOf 12 = .ok (.iaload, 1) := by decide +kernel
theorem dX11_wayOf_13 : decode cX11_wayOf 13 = .ok (.iconst 1, 1) := by decide +kernel
theorem dX11_wayOf_14 : decode cX11_wayOf 14 = .ok (.if_icmp .le 26, 3) := by decide +kernel
theorem dX11_wayOf_17 : decode cX11_wayOf 17 = .ok (.aload_n 0, 1) := by decide +kernel
theorem dX11_wayOf_18 : decode cX11_wayOf 18 = .ok (.getfield 28, 3) := by decide +kernel
theorem dX11_wayOf_21 : decode cX11_wayOf 21 = .ok (.getfield 86, 3) := by decide +kernel
theorem dX11_wayOf_24 : decode cX11_wayOf 24 = .ok (.iconst 4, 1) := by decide +kernel
theorem dX11_wayOf_25 : decode cX11_wayOf 25 = .ok (.iload_n 1, 1) := by decide +kernel
theorem dX11_wayOf_26 : decode cX11_wayOf 26 = .ok (.imul, 1) := by decide +kernel
theorem dX11_wayOf_27 : decode cX11_wayOf 27 = .ok (.iconst 2, 1) := by decide +kernel
theorem dX11_wayOf_28 : decode cX11_wayOf 28 = .ok (.iadd, 1) := by decide +kernel
theorem dX11_wayOf_29 : decode cX11_wayOf 29 = .ok (.iaload, 1) := by decide +kernel
theorem dX11_wayOf_30 : decode cX11_wayOf 30 = .ok (.iconst 2, 1) := by decide +kernel
theorem dX11_wayOf_31 : decode cX11_wayOf 31 = .ok (.if_icmp .ne 7, 3) := by decide +kernel
theorem dX11_wayOf_34 : decode cX11_wayOf 34 = .ok (.iconst 0, 1) := by decide +kernel
theorem dX11_wayOf_35 : decode cX11_wayOf 35 = .ok (.goto 4, 3) := by decide +kernel
theorem dX11_wayOf_38 : decode cX11_wayOf 38 = .ok (.iconst (-1), 1) := by decide +kernel
theorem dX11_wayOf_39 : decode cX11_wayOf 39 = .ok (.ireturn, 1) := by decide +kernel
theorem dX11_wayOf_40 : decode cX11_wayOf 40 = .ok (.aload_n 0, 1) := by decide +kernel
theorem dX11_wayOf_41 : decode cX11_wayOf 41 = .ok (.aload_n 0, 1) := by decide +kernel
theorem dX11_wayOf_42 : decode cX11_wayOf 42 = .ok (.getfield 28, 3) := by decide +kernel
theorem dX11_wayOf_45 : decode cX11_wayOf 45 = .ok (.iload_n 1, 1) := by decide +kernel
theorem dX11_wayOf_46 : decode cX11_wayOf 46 = .ok (.invokevirtual 146, 3) := by decide +kernel
theorem dX11_wayOf_49 : decode cX11_wayOf 49 = .ok (.istore_n 2, 1) := by decide +kernel
theorem dX11_wayOf_50 : decode cX11_wayOf 50 = .ok (.iload_n 2, 1) := by decide +kernel
theorem dX11_wayOf_51 : decode cX11_wayOf 51 = .ok (.iconst (-1), 1) := by decide +kernel
theorem dX11_wayOf_52 : decode cX11_wayOf 52 = .ok (.if_icmp .ne 7, 3) := by decide +kernel
theorem dX11_wayOf_55 : decode cX11_wayOf 55 = .ok (.iconst (-1), 1) := by decide +kernel
theorem dX11_wayOf_56 : decode cX11_wayOf 56 = .ok (.goto 33, 3) := by decide +kernel
theorem dX11_wayOf_59 : decode cX11_wayOf 59 = .ok (.aload_n 0, 1) := by decide +kernel
theorem dX11_wayOf_60 : decode cX11_wayOf 60 = .ok (.aload_n 0, 1) := by decide +kernel
theorem dX11_wayOf_61 : decode cX11_wayOf 61 = .ok (.getfield 28, 3) := by decide +kernel
theorem dX11_wayOf_64 : decode cX11_wayOf 64 = .ok (.aload_n 0, 1) := by decide +kernel
theorem dX11_wayOf_65 : decode cX11_wayOf 65 = .ok (.getfield 28, 3) := by decide +kernel
theorem dX11_wayOf_68 : decode cX11_wayOf 68 = .ok (.getfield 86, 3) := by decide +kernel
theorem dX11_wayOf_71 : decode cX11_wayOf 71 = .ok (.iconst 4, 1) := by decide +kernel
theorem dX11_wayOf_72 : decode cX11_wayOf 72 = .ok (.iload_n 1, 1) := by decide +kernel
theorem dX11_wayOf_73 : decode cX11_wayOf 73 = .ok (.imul, 1) := by decide +kernel
theorem dX11_wayOf_74 : decode cX11_wayOf 74 = .ok (.iaload, 1) := by decide +kernel
theorem dX11_wayOf_75 : decode cX11_wayOf 75 = .ok (.aload_n 0, 1) := by decide +kernel
theorem dX11_wayOf_76 : decode cX11_wayOf 76 = .ok (.getfield 28, 3) := by decide +kernel
theorem dX11_wayOf_79 : decode cX11_wayOf 79 = .ok (.getfield 80, 3) := by decide +kernel
theorem dX11_wayOf_82 : decode cX11_wayOf 82 = .ok (.iconst 2, 1) := by decide +kernel
theorem dX11_wayOf_83 : decode cX11_wayOf 83 = .ok (.iload_n 2, 1) := by decide +kernel
theorem dX11_wayOf_84 : decode cX11_wayOf 84 = .ok (.imul, 1) := by decide +kernel
theorem dX11_wayOf_85 : decode cX11_wayOf 85 = .ok (.iaload, 1) := by decide +kernel
theorem dX11_wayOf_86 : decode cX11_wayOf 86 = .ok (.invokevirtual 125, 3) := by decide +kernel
theorem dX11_wayOf_89 : decode cX11_wayOf 89 = .ok (.ireturn, 1) := by decide +kernel
theorem dX11_houseTold_0 : decode cX11_houseTold 0 = .ok (.iload_n 2, 1) := by decide +kernel
theorem dX11_houseTold_1 : decode cX11_houseTold 1 = .ok (.ifCond .ne 20, 3) := by decide +kernel
theorem dX11_houseTold_4 : decode cX11_houseTold 4 = .ok (.aload_n 0, 1) := by decide +kernel
theorem dX11_houseTold_5 : decode cX11_houseTold 5 = .ok (.getfield 28, 3) := by decide +kernel
theorem dX11_houseTold_8 : decode cX11_houseTold 8 = .ok (.getfield 86, 3) := by decide +kernel
theorem dX11_houseTold_11 : decode cX11_houseTold 11 = .ok (.iconst 4, 1) := by decide +kernel
theorem dX11_houseTold_12 : decode cX11_houseTold 12 = .ok (.iload_n 1, 1) := by decide +kernel
theorem dX11_houseTold_13 : decode cX11_houseTold 13 = .ok (.imul, 1) := by decide +kernel
theorem dX11_houseTold_14 : decode cX11_houseTold 14 = .ok (.iaload, 1) := by decide +kernel
theorem dX11_houseTold_15 : decode cX11_houseTold 15 = .ok (.bipush 10, 2) := by decide +kernel
theorem dX11_houseTold_17 : decode cX11_houseTold 17 = .ok (.irem, 1) := by decide +kernel
theorem dX11_houseTold_18 : decode cX11_houseTold 18 = .ok (.goto 53, 3) := by decide +kernel
theorem dX11_houseTold_21 : decode cX11_houseTold 21 = .ok (.iload_n 2, 1) := by decide +kernel
theorem dX11_houseTold_22 : decode cX11_houseTold 22 = .ok (.iconst 1, 1) := by decide +kernel
theorem dX11_houseTold_23 : decode cX11_houseTold 23 = .ok (.if_icmp .ne 20, 3) := by decide +kernel
theorem dX11_houseTold_26 : decode cX11_houseTold 26 = .ok (.aload_n 0, 1) := by decide +kernel
theorem dX11_houseTold_27 : decode cX11_houseTold 27 = .ok (.getfield 28, 3) := by decide +kernel
theorem dX11_houseTold_30 : decode cX11_houseTold 30 = .ok (.getfield 86, 3) := by decide +kernel
theorem dX11_houseTold_33 : decode cX11_houseTold 33 = .ok (.iconst 4, 1) := by decide +kernel
theorem dX11_houseTold_34 : decode cX11_houseTold 34 = .ok (.iload_n 1, 1) := by decide +kernel
theorem dX11_houseTold_35 : decode cX11_houseTold 35 = .ok (.imul, 1) := by decide +kernel
theorem dX11_houseTold_36 : decode cX11_houseTold 36 = .ok (.iaload, 1) := by decide +kernel
theorem dX11_houseTold_37 : decode cX11_houseTold 37 = .ok (.bipush 10, 2) := by decide +kernel
theorem dX11_houseTold_39 : decode cX11_houseTold 39 = .ok (.idiv, 1) := by decide +kernel
theorem dX11_houseTold_40 : decode cX11_houseTold 40 = .ok (.goto 31, 3) := by decide +kernel
theorem dX11_houseTold_43 : decode cX11_houseTold 43 = .ok (.iload_n 2, 1) := by decide +kernel
theorem dX11_houseTold_44 : decode cX11_houseTold 44 = .ok (.iconst 4, 1) := by decide +kernel
theorem dX11_houseTold_45 : decode cX11_houseTold 45 = .ok (.if_icmp .ne 11, 3) := by decide +kernel
theorem dX11_houseTold_48 : decode cX11_houseTold 48 = .ok (.aload_n 0, 1) := by decide +kernel
theorem dX11_houseTold_49 : decode cX11_houseTold 49 = .ok (.iload_n 1, 1) := by decide +kernel
theorem dX11_houseTold_50 : decode cX11_houseTold 50 = .ok (.invokevirtual 192, 3) := by decide +kernel
theorem dX11_houseTold_53 : decode cX11_houseTold 53 = .ok (.goto 18, 3) := by decide +kernel
theorem dX11_houseTold_56 : decode cX11_houseTold 56 = .ok (.aload_n 0, 1) := by decide +kernel
theorem dX11_houseTold_57 : decode cX11_houseTold 57 = .ok (.getfield 28, 3) := by decide +kernel
theorem dX11_houseTold_60 : decode cX11_houseTold 60 = .ok (.getfield 86, 3) := by decide +kernel
theorem dX11_houseTold_63 : decode cX11_houseTold 63 = .ok (.iconst 4, 1) := by decide +kernel
theorem dX11_houseTold_64 : decode cX11_houseTold 64 = .ok (.iload_n 1, 1) := by decide +kernel
theorem dX11_houseTold_65 : decode cX11_houseTold 65 = .ok (.imul, 1) := by decide +kernel
theorem dX11_houseTold_66 : decode cX11_houseTold 66 = .ok (.iload_n 2, 1) := by decide +kernel
theorem dX11_houseTold_67 : decode cX11_houseTold 67 = .ok (.iadd, 1) := by decide +kernel
theorem dX11_houseTold_68 : decode cX11_houseTold 68 = .ok (.iconst 1, 1) := by decide +kernel
theorem dX11_houseTold_69 : decode cX11_houseTold 69 = .ok (.isub, 1) := by decide +kernel
theorem dX11_houseTold_70 : decode cX11_houseTold 70 = .ok (.iaload, 1) := by decide +kernel
theorem dX11_houseTold_71 : decode cX11_houseTold 71 = .ok (.ireturn, 1) := by decide +kernel
theorem dX11_household_0 : decode cX11_household 0 = .ok (.aload_n 0, 1) := by decide +kernel
theorem dX11_household_1 : decode cX11_household 1 = .ok (.iconst 0, 1) := by decide +kernel
theorem dX11_household_2 : decode cX11_household 2 = .ok (.putfield 38, 3) := by decide +kernel
theorem dX11_household_5 : decode cX11_household 5 = .ok (.iload_n 1, 1) := by decide +kernel
theorem dX11_household_6 : decode cX11_household 6 = .ok (.iconst 0, 1) := by decide +kernel
theorem dX11_household_7 : decode cX11_household 7 = .ok (.aload_n 0, 1) := by decide +kernel
theorem dX11_household_8 : decode cX11_household 8 = .ok (.getfield 83, 3) := by decide +kernel
theorem dX11_household_11 : decode cX11_household 11 = .ok (.iconst 1, 1) := by decide +kernel
theorem dX11_household_12 : decode cX11_household 12 = .ok (.isub, 1) := by decide +kernel
theorem dX11_household_13 : decode cX11_household 13 = .ok (.invokestatic 42, 3) := by decide +kernel
theorem dX11_household_16 : decode cX11_household 16 = .ok (.ifCond .eq 21, 3) := by decide +kernel
theorem dX11_household_19 : decode cX11_household 19 = .ok (.iload_n 2, 1) := by decide +kernel
theorem dX11_household_20 : decode cX11_household 20 = .ok (.iconst 0, 1) := by decide +kernel
theorem dX11_household_21 : decode cX11_household 21 = .ok (.iconst 4, 1) := by decide +kernel
theorem dX11_household_22 : decode cX11_household 22 = .ok (.invokestatic 42, 3) := by decide +kernel
theorem dX11_household_25 : decode cX11_household 25 = .ok (.ifCond .eq 12, 3) := by decide +kernel
theorem dX11_household_28 : decode cX11_household 28 = .ok (.aload_n 0, 1) := by decide +kernel
theorem dX11_household_29 : decode cX11_household 29 = .ok (.iload_n 1, 1) := by decide +kernel
theorem dX11_household_30 : decode cX11_household 30 = .ok (.iload_n 2, 1) := by decide +kernel
theorem dX11_household_31 : decode cX11_household 31 = .ok (.invokevirtual 195, 3) := by decide +kernel
theorem dX11_household_34 : decode cX11_household 34 = .ok (.goto 8, 3) := by decide +kernel
theorem dX11_household_37 : decode cX11_household 37 = .ok (.aload_n 0, 1) := by decide +kernel
theorem dX11_household_38 : decode cX11_household 38 = .ok (.iconst 1, 1) := by decide +kernel
theorem dX11_household_39 : decode cX11_household 39 = .ok (.invokevirtual 50, 3) := by decide +kernel
theorem dX11_household_42 : decode cX11_household 42 = .ok (.ireturn, 1) := by decide +kernel
theorem dX11_callerTold_0 : decode cX11_callerTold 0 = .ok (.iload_n 2, 1) := by decide +kernel
theorem dX11_callerTold_1 : decode cX11_callerTold 1 = .ok (.ifCond .ne 20, 3) := by decide +kernel
theorem dX11_callerTold_4 : decode cX11_callerTold 4 = .ok (.aload_n 0, 1) := by decide +kernel
theorem dX11_callerTold_5 : decode cX11_callerTold 5 = .ok (.getfield 28, 3) := by decide +kernel
theorem dX11_callerTold_8 : decode cX11_callerTold 8 = .ok (.getfield 92, 3) := by decide +kernel
theorem dX11_callerTold_11 : decode cX11_callerTold 11 = .ok (.iconst 2, 1) := by decide +kernel
theorem dX11_callerTold_12 : decode cX11_callerTold 12 = .ok (.iload_n 1, 1) := by decide +kernel
theorem dX11_callerTold_13 : decode cX11_callerTold 13 = .ok (.imul, 1) := by decide +kernel
theorem dX11_callerTold_14 : decode cX11_callerTold 14 = .ok (.iaload, 1) := by decide +kernel
theorem dX11_callerTold_15 : decode cX11_callerTold 15 = .ok (.bipush 10, 2) := by decide +kernel
theorem dX11_callerTold_17 : decode cX11_callerTold 17 = .ok (.irem, 1) := by decide +kernel
theorem dX11_callerTold_18 : decode cX11_callerTold 18 = .ok (.goto 38, 3) := by decide +kernel
theorem dX11_callerTold_21 : decode cX11_callerTold 21 = .ok (.iload_n 2, 1) := by decide +kernel
theorem dX11_callerTold_22 : decode cX11_callerTold 22 = .ok (.iconst 1, 1) := by decide +kernel
theorem dX11_callerTold_23 : decode cX11_callerTold 23 = .ok (.if_icmp .ne 20, 3) := by decide +kernel
theorem dX11_callerTold_26 : decode cX11_callerTold 26 = .ok (.aload_n 0, 1) := by decide +kernel
theorem dX11_callerTold_27 : decode cX11_callerTold 27 = .ok (.getfield 28, 3) := by decide +kernel
theorem dX11_callerTold_30 : decode cX11_callerTold 30 = .ok (.getfield 92, 3) := by decide +kernel
theorem dX11_callerTold_33 : decode cX11_callerTold 33 = .ok (.iconst 2, 1) := by decide +kernel
theorem dX11_callerTold_34 : decode cX11_callerTold 34 = .ok (.iload_n 1, 1) := by decide +kernel
theorem dX11_callerTold_35 : decode cX11_callerTold 35 = .ok (.imul, 1) := by decide +kernel
theorem dX11_callerTold_36 : decode cX11_callerTold 36 = .ok (.iaload, 1) := by decide +kernel
theorem dX11_callerTold_37 : decode cX11_callerTold 37 = .ok (.bipush 10, 2) := by decide +kernel
theorem dX11_callerTold_39 : decode cX11_callerTold 39 = .ok (.idiv, 1) := by decide +kernel
theorem dX11_callerTold_40 : decode cX11_callerTold 40 = .ok (.goto 16, 3) := by decide +kernel
theorem dX11_callerTold_43 : decode cX11_callerTold 43 = .ok (.aload_n 0, 1) := by decide +kernel
theorem dX11_callerTold_44 : decode cX11_callerTold 44 = .ok (.getfield 28, 3) := by decide +kernel
theorem dX11_callerTold_47 : decode cX11_callerTold 47 = .ok (.getfield 92, 3) := by decide +kernel
theorem dX11_callerTold_50 : decode cX11_callerTold 50 = .ok (.iconst 2, 1) := by decide +kernel
theorem dX11_callerTold_51 : decode cX11_callerTold 51 = .ok (.iload_n 1, 1) := by decide +kernel
theorem dX11_callerTold_52 : decode cX11_callerTold 52 = .ok (.imul, 1) := by decide +kernel
theorem dX11_callerTold_53 : decode cX11_callerTold 53 = .ok (.iconst 1, 1) := by decide +kernel
theorem dX11_callerTold_54 : decode cX11_callerTold 54 = .ok (.iadd, 1) := by decide +kernel
theorem dX11_callerTold_55 : decode cX11_callerTold 55 = .ok (.iaload, 1) := by decide +kernel
theorem dX11_callerTold_56 : decode cX11_callerTold 56 = .ok (.ireturn, 1) := by decide +kernel
theorem dX11_caller_0 : decode cX11_caller 0 = .ok (.aload_n 0, 1) := by decide +kernel
theorem dX11_caller_1 : decode cX11_caller 1 = .ok (.iconst 0, 1) := by decide +kernel
theorem dX11_caller_2 : decode cX11_caller 2 = .ok (.putfield 38, 3) := by decide +kernel
theorem dX11_caller_5 : decode cX11_caller 5 = .ok (.iload_n 1, 1) := by decide +kernel
theorem dX11_caller_6 : decode cX11_caller 6 = .ok (.iconst 0, 1) := by decide +kernel
theorem dX11_caller_7 : decode cX11_caller 7 = .ok (.aload_n 0, 1) := by decide +kernel
theorem dX11_caller_8 : decode cX11_caller 8 = .ok (.getfield 89, 3) := by decide +kernel
theorem dX11_caller_11 : decode cX11_caller 11 = .ok (.iconst 1, 1) := by decide +kernel
theorem dX11_caller_12 : decode cX11_caller 12 = .ok (.isub, 1) := by decide +kernel
theorem dX11_caller_13 : decode cX11_caller 13 = .ok (.invokestatic 42, 3) := by decide +kernel
theorem dX11_caller_16 : decode cX11_caller 16 = .ok (.ifCond .eq 21, 3) := by decide +kernel
theorem dX11_caller_19 : decode cX11_caller 19 = .ok (.iload_n 2, 1) := by decide +kernel
theorem dX11_caller_20 : decode cX11_caller 20 = .ok (.iconst 0, 1) := by decide +kernel
theorem dX11_caller_21 : decode cX11_caller 21 = .ok (.iconst 2, 1) := by decide +kernel
theorem dX11_caller_22 : decode cX11_caller 22 = .ok (.invokestatic 42, 3) := by decide +kernel
theorem dX11_caller_25 : decode cX11_caller 25 = .ok (.ifCond .eq 12, 3) := by decide +kernel
theorem dX11_caller_28 : decode cX11_caller 28 = .ok (.aload_n 0, 1) := by decide +kernel
theorem dX11_caller_29 : decode cX11_caller 29 = .ok (.iload_n 1, 1) := by decide +kernel
theorem dX11_caller_30 : decode cX11_caller 30 = .ok (.iload_n 2, 1) := by decide +kernel
theorem dX11_caller_31 : decode cX11_caller 31 = .ok (.invokevirtual 198, 3) := by decide +kernel
theorem dX11_caller_34 : decode cX11_caller 34 = .ok (.goto 8, 3) := by decide +kernel
theorem dX11_caller_37 : decode cX11_caller 37 = .ok (.aload_n 0, 1) := by decide +kernel
theorem dX11_caller_38 : decode cX11_caller 38 = .ok (.iconst 1, 1) := by decide +kernel
theorem dX11_caller_39 : decode cX11_caller 39 = .ok (.invokevirtual 50, 3) := by decide +kernel
theorem dX11_caller_42 : decode cX11_caller 42 = .ok (.ireturn, 1) := by decide +kernel
theorem dX11_people_0 : decode cX11_people 0 = .ok (.iconst 0, 1) := by decide +kernel
theorem dX11_people_1 : decode cX11_people 1 = .ok (.istore_n 3, 1) := by decide +kernel
theorem dX11_people_2 : decode cX11_people 2 = .ok (.iconst 0, 1) := by decide +kernel
theorem dX11_people_3 : decode cX11_people 3 = .ok (.istore 4, 2) := by decide +kernel
theorem dX11_people_5 : decode cX11_people 5 = .ok (.iload 4, 2) := by decide +kernel
theorem dX11_people_7 : decode cX11_people 7 = .ok (.aload_n 0, 1) := by decide +kernel
theorem dX11_people_8 : decode cX11_people 8 = .ok (.getfield 83, 3) := by decide +kernel
theorem dX11_people_11 : decode cX11_people 11 = .ok (.if_icmp .ge 42, 3) := by decide +kernel
theorem dX11_people_14 : decode cX11_people 14 = .ok (.iload_n 3, 1) := by decide +kernel
theorem dX11_people_15 : decode cX11_people 15 = .ok (.aload_n 1, 1) := by decide +kernel
theorem dX11_people_16 : decode cX11_people 16 = .ok (.getfield 86, 3) := by decide +kernel
theorem dX11_people_19 : decode cX11_people 19 = .ok (.iconst 4, 1) := by decide +kernel
theorem dX11_people_20 : decode cX11_people 20 = .ok (.iload 4, 2) := by decide +kernel
theorem dX11_people_22 : decode cX11_people 22 = .ok (.imul, 1) := by decide +kernel
theorem dX11_people_23 : decode cX11_people 23 = .ok (.iconst 2, 1) := by decide +kernel
theorem dX11_people_24 : decode cX11_people 24 = .ok (.iadd, 1) := by decide +kernel
theorem dX11_people_25 : decode cX11_people 25 = .ok (.iaload, 1) := by decide +kernel
theorem dX11_people_26 : decode cX11_people 26 = .ok (.iload_n 2, 1) := by decide +kernel
theorem dX11_people_27 : decode cX11_people 27 = .ok (.if_icmp .ne 17, 3) := by decide +kernel
theorem dX11_people_30 : decode cX11_people 30 = .ok (.aload_n 1, 1) := by decide +kernel
theorem dX11_people_31 : decode cX11_people 31 = .ok (.getfield 86, 3) := by decide +kernel
theorem dX11_people_34 : decode cX11_people 34 = .ok (.iconst 4, 1) := by decide +kernel
theorem dX11_people_35 : decode cX11_people 35 = .ok (.iload 4, 2) := by decide +kernel
theorem dX11_people_37 : decode cX11_people 37 = .ok (.imul, 1) := by decide +kernel
theorem dX11_people_38 : decode cX11_people 38 = .ok (.iconst 1, 1) := by decide +kernel
theorem dX11_people_39 : decode cX11_people 39 = .ok (.iadd, 1) := by decide +kernel
theorem dX11_people_40 : decode cX11_people 40 = .ok (.iaload, 1) := by decide +kernel
theorem dX11_people_41 : decode cX11_people 41 = .ok (.goto 4, 3) := by decide +kernel
theorem dX11_people_44 : decode cX11_people 44 = .ok (.iconst 0, 1) := by decide +kernel
theorem dX11_people_45 : decode cX11_people 45 = .ok (.iadd, 1) := by decide +kernel
theorem dX11_people_46 : decode cX11_people 46 = .ok (.istore_n 3, 1) := by decide +kernel
theorem dX11_people_47 : decode cX11_people 47 = .ok (.iinc 4 1, 3) := by decide +kernel
theorem dX11_people_50 : decode cX11_people 50 = .ok (.goto (-45), 3) := by decide +kernel
theorem dX11_people_53 : decode cX11_people 53 = .ok (.iload_n 3, 1) := by decide +kernel
theorem dX11_people_54 : decode cX11_people 54 = .ok (.ireturn, 1) := by decide +kernel
theorem dX11_wet_0 : decode cX11_wet 0 = .ok (.iconst 0, 1) := by decide +kernel
theorem dX11_wet_1 : decode cX11_wet 1 = .ok (.istore_n 2, 1) := by decide +kernel
theorem dX11_wet_2 : decode cX11_wet 2 = .ok (.bipush 10, 2) := by decide +kernel
theorem dX11_wet_4 : decode cX11_wet 4 = .ok (.istore_n 3, 1) := by decide +kernel
theorem dX11_wet_5 : decode cX11_wet 5 = .ok (.iload_n 3, 1) := by decide +kernel
theorem dX11_wet_6 : decode cX11_wet 6 = .ok (.bipush 80, 2) := by decide +kernel
theorem dX11_wet_8 : decode cX11_wet 8 = .ok (.if_icmp .ge 35, 3) := by decide +kernel
theorem dX11_wet_11 : decode cX11_wet 11 = .ok (.iload_n 2, 1) := by decide +kernel
theorem dX11_wet_12 : decode cX11_wet 12 = .ok (.iload_n 1, 1) := by decide +kernel
theorem dX11_wet_13 : decode cX11_wet 13 = .ok (.ifCond .eq 12, 3) := by decide +kernel
theorem dX11_wet_16 : decode cX11_wet 16 = .ok (.aload_n 0, 1) := by decide +kernel
theorem dX11_wet_17 : decode cX11_wet 17 = .ok (.getfield 110, 3) := by decide +kernel
theorem dX11_wet_20 : decode cX11_wet 20 = .ok (.iload_n 3, 1) := by decide +kernel
theorem dX11_wet_21 : decode cX11_wet 21 = .ok (.iaload, 1) := by decide +kernel
theorem dX11_wet_22 : decode cX11_wet 22 = .ok (.goto 13, 3) := by decide +kernel
theorem dX11_wet_25 : decode cX11_wet 25 = .ok (.iconst 1, 1) := by decide +kernel
theorem dX11_wet_26 : decode cX11_wet 26 = .ok (.aload_n 0, 1) := by decide +kernel
theorem dX11_wet_27 : decode cX11_wet 27 = .ok (.getfield 110, 3) := by decide +kernel
theorem dX11_wet_30 : decode cX11_wet 30 = .ok (.iload_n 3, 1) := by decide +kernel
theorem dX11_wet_31 : decode cX11_wet 31 = .ok (.iaload, 1) := by decide +kernel
theorem dX11_wet_32 : decode cX11_wet 32 = .ok (.invokestatic 120, 3) := by decide +kernel
theorem dX11_wet_35 : decode cX11_wet 35 = .ok (.iadd, 1) := by decide +kernel
theorem dX11_wet_36 : decode cX11_wet 36 = .ok (.istore_n 2, 1) := by decide +kernel
theorem dX11_wet_37 : decode cX11_wet 37 = .ok (.iinc 3 1, 3) := by decide +kernel
theorem dX11_wet_40 : decode cX11_wet 40 = .ok (.goto (-35), 3) := by decide +kernel
theorem dX11_wet_43 : decode cX11_wet 43 = .ok (.iload_n 2, 1) := by decide +kernel
theorem dX11_wet_44 : decode cX11_wet 44 = .ok (.ireturn, 1) := by decide +kernel
theorem dX11_counted_0 : decode cX11_counted 0 = .ok (.bipush 10, 2) := by decide +kernel
theorem dX11_counted_2 : decode cX11_counted 2 = .ok (.newarray .int, 2) := by decide +kernel
theorem dX11_counted_4 : decode cX11_counted 4 = .ok (.dup, 1) := by decide +kernel
theorem dX11_counted_5 : decode cX11_counted 5 = .ok (.iconst 0, 1) := by decide +kernel
theorem dX11_counted_6 : decode cX11_counted 6 = .ok (.aload_n 0, 1) := by decide +kernel
theorem dX11_counted_7 : decode cX11_counted 7 = .ok (.getfield 28, 3) := by decide +kernel
theorem dX11_counted_10 : decode cX11_counted 10 = .ok (.getfield 152, 3) := by decide +kernel
theorem dX11_counted_13 : decode cX11_counted 13 = .ok (.iastore, 1) := by decide +kernel
theorem dX11_counted_14 : decode cX11_counted 14 = .ok (.dup, 1) := by decide +kernel
theorem dX11_counted_15 : decode cX11_counted 15 = .ok (.iconst 1, 1) := by decide +kernel
theorem dX11_counted_16 : decode cX11_counted 16 = .ok (.aload_n 0, 1) := by decide +kernel
theorem dX11_counted_17 : decode cX11_counted 17 = .ok (.getfield 83, 3) := by decide +kernel
theorem dX11_counted_20 : decode cX11_counted 20 = .ok (.iastore, 1) := by decide +kernel
theorem dX11_counted_21 : decode cX11_counted 21 = .ok (.dup, 1) := by decide +kernel
theorem dX11_counted_22 : decode cX11_counted 22 = .ok (.iconst 2, 1) := by decide +kernel
theorem dX11_counted_23 : decode cX11_counted 23 = .ok (.aload_n 0, 1) := by decide +kernel
theorem dX11_counted_24 : decode cX11_counted 24 = .ok (.aload_n 0, 1) := by decide +kernel
theorem dX11_counted_25 : decode cX11_counted 25 = .ok (.getfield 28, 3) := by decide +kernel
theorem dX11_counted_28 : decode cX11_counted 28 = .ok (.iconst 0, 1) := by decide +kernel
theorem dX11_counted_29 : decode cX11_counted 29 = .ok (.invokevirtual 201, 3) := by decide +kernel
theorem dX11_counted_32 : decode cX11_counted 32 = .ok (.iastore, 1) := by decide +kernel
theorem dX11_counted_33 : decode cX11_counted 33 = .ok (.dup, 1) := by decide +kernel
theorem dX11_counted_34 : decode cX11_counted 34 = .ok (.iconst 3, 1) := by decide +kernel
theorem dX11_counted_35 : decode cX11_counted 35 = .ok (.aload_n 0, 1) := by decide +kernel
theorem dX11_counted_36 : decode cX11_counted 36 = .ok (.aload_n 0, 1) := by decide +kernel
theorem dX11_counted_37 : decode cX11_counted 37 = .ok (.getfield 28, 3) := by decide +kernel
theorem dX11_counted_40 : decode cX11_counted 40 = .ok (.iconst 1, 1) := by decide +kernel
theorem dX11_counted_41 : decode cX11_counted 41 = .ok (.invokevirtual 201, 3) := by decide +kernel
theorem dX11_counted_44 : decode cX11_counted 44 = .ok (.iastore, 1) := by decide +kernel
theorem dX11_counted_45 : decode cX11_counted 45 = .ok (.dup, 1) := by decide +kernel
theorem dX11_counted_46 : decode cX11_counted 46 = .ok (.iconst 4, 1) := by decide +kernel
theorem dX11_counted_47 : decode cX11_counted 47 = .ok (.aload_n 0, 1) := by decide +kernel
theorem dX11_counted_48 : decode cX11_counted 48 = .ok (.aload_n 0, 1) := by decide +kernel
theorem dX11_counted_49 : decode cX11_counted 49 = .ok (.getfield 28, 3) := by decide +kernel
theorem dX11_counted_52 : decode cX11_counted 52 = .ok (.iconst 2, 1) := by decide +kernel
theorem dX11_counted_53 : decode cX11_counted 53 = .ok (.invokevirtual 201, 3) := by decide +kernel
theorem dX11_counted_56 : decode cX11_counted 56 = .ok (.iastore, 1) := by decide +kernel
theorem dX11_counted_57 : decode cX11_counted 57 = .ok (.dup, 1) := by decide +kernel
theorem dX11_counted_58 : decode cX11_counted 58 = .ok (.iconst 5, 1) := by decide +kernel
theorem dX11_counted_59 : decode cX11_counted 59 = .ok (.aload_n 0, 1) := by decide +kernel
theorem dX11_counted_60 : decode cX11_counted 60 = .ok (.getfield 28, 3) := by decide +kernel
theorem dX11_counted_63 : decode cX11_counted 63 = .ok (.getfield 149, 3) := by decide +kernel
theorem dX11_counted_66 : decode cX11_counted 66 = .ok (.iastore, 1) := by decide +kernel
theorem dX11_counted_67 : decode cX11_counted 67 = .ok (.dup, 1) := by decide +kernel
theorem dX11_counted_68 : decode cX11_counted 68 = .ok (.bipush 6, 2) := by decide +kernel
theorem dX11_counted_70 : decode cX11_counted 70 = .ok (.aload_n 0, 1) := by decide +kernel
theorem dX11_counted_71 : decode cX11_counted 71 = .ok (.getfield 28, 3) := by decide +kernel
theorem dX11_counted_74 : decode cX11_counted 74 = .ok (.iconst 0, 1) := by decide +kernel
theorem dX11_counted_75 : decode cX11_counted 75 = .ok (.invokestatic 204, 3) := by decide +kernel
theorem dX11_counted_78 : decode cX11_counted 78 = .ok (.iastore, 1) := by decide +kernel
theorem dX11_counted_79 : decode cX11_counted 79 = .ok (.dup, 1) := by decide +kernel
theorem dX11_counted_80 : decode cX11_counted 80 = .ok (.bipush 7, 2) := by decide +kernel
theorem dX11_counted_82 : decode cX11_counted 82 = .ok (.aload_n 0, 1) := by decide +kernel
theorem dX11_counted_83 : decode cX11_counted 83 = .ok (.getfield 28, 3) := by decide +kernel
theorem dX11_counted_86 : decode cX11_counted 86 = .ok (.iconst 1, 1) := by decide +kernel
theorem dX11_counted_87 : decode cX11_counted 87 = .ok (.invokestatic 204, 3) := by decide +kernel
theorem dX11_counted_90 : decode cX11_counted 90 = .ok (.iastore, 1) := by decide +kernel
theorem dX11_counted_91 : decode cX11_counted 91 = .ok (.dup, 1) := by decide +kernel
theorem dX11_counted_92 : decode cX11_counted 92 = .ok (.bipush 8, 2) := by decide +kernel
theorem dX11_counted_94 : decode cX11_counted 94 = .ok (.aload_n 0, 1) := by decide +kernel
theorem dX11_counted_95 : decode cX11_counted 95 = .ok (.getfield 28, 3) := by decide +kernel
theorem dX11_counted_98 : decode cX11_counted 98 = .ok (.getfield 54, 3) := by decide +kernel
theorem dX11_counted_101 : decode cX11_counted 101 = .ok (.invokestatic 57, 3) := by decide +kernel
theorem dX11_counted_104 : decode cX11_counted 104 = .ok (.iastore, 1) := by decide +kernel
theorem dX11_counted_105 : decode cX11_counted 105 = .ok (.dup, 1) := by decide +kernel
theorem dX11_counted_106 : decode cX11_counted 106 = .ok (.bipush 9, 2) := by decide +kernel
theorem dX11_counted_108 : decode cX11_counted 108 = .ok (.aload_n 0, 1) := by decide +kernel
theorem dX11_counted_109 : decode cX11_counted 109 = .ok (.aload_n 0, 1) := by decide +kernel
theorem dX11_counted_110 : decode cX11_counted 110 = .ok (.getfield 28, 3) := by decide +kernel
theorem dX11_counted_113 : decode cX11_counted 113 = .ok (.invokevirtual 162, 3) := by decide +kernel
theorem dX11_counted_116 : decode cX11_counted 116 = .ok (.iastore, 1) := by decide +kernel
theorem dX11_counted_117 : decode cX11_counted 117 = .ok (.astore_n 2, 1) := by decide +kernel
theorem dX11_counted_118 : decode cX11_counted 118 = .ok (.aload_n 2, 1) := by decide +kernel
theorem dX11_counted_119 : decode cX11_counted 119 = .ok (.iload_n 1, 1) := by decide +kernel
theorem dX11_counted_120 : decode cX11_counted 120 = .ok (.iaload, 1) := by decide +kernel
theorem dX11_counted_121 : decode cX11_counted 121 = .ok (.ireturn, 1) := by decide +kernel
theorem dX11_count_0 : decode cX11_count 0 = .ok (.aload_n 0, 1) := by decide +kernel
theorem dX11_count_1 : decode cX11_count 1 = .ok (.iconst 0, 1) := by decide +kernel
theorem dX11_count_2 : decode cX11_count 2 = .ok (.putfield 38, 3) := by decide +kernel
theorem dX11_count_5 : decode cX11_count 5 = .ok (.iload_n 1, 1) := by decide +kernel
theorem dX11_count_6 : decode cX11_count 6 = .ok (.iconst 0, 1) := by decide +kernel
theorem dX11_count_7 : decode cX11_count 7 = .ok (.bipush 9, 2) := by decide +kernel
theorem dX11_count_9 : decode cX11_count 9 = .ok (.invokestatic 42, 3) := by decide +kernel
theorem dX11_count_12 : decode cX11_count 12 = .ok (.ifCond .eq 11, 3) := by decide +kernel
theorem dX11_count_15 : decode cX11_count 15 = .ok (.aload_n 0, 1) := by decide +kernel
theorem dX11_count_16 : decode cX11_count 16 = .ok (.iload_n 1, 1) := by decide +kernel
theorem dX11_count_17 : decode cX11_count 17 = .ok (.invokevirtual 208, 3) := by decide +kernel
theorem dX11_count_20 : decode cX11_count 20 = .ok (.goto 8, 3) := by decide +kernel
theorem dX11_count_23 : decode cX11_count 23 = .ok (.aload_n 0, 1) := by decide +kernel
theorem dX11_count_24 : decode cX11_count 24 = .ok (.iconst 1, 1) := by decide +kernel
theorem dX11_count_25 : decode cX11_count 25 = .ok (.invokevirtual 50, 3) := by decide +kernel
theorem dX11_count_28 : decode cX11_count 28 = .ok (.ireturn, 1) := by decide +kernel
theorem dX11_pass_0 : decode cX11_pass 0 = .ok (.aload_n 0, 1) := by decide +kernel
theorem dX11_pass_1 : decode cX11_pass 1 = .ok (.iconst 0, 1) := by decide +kernel
theorem dX11_pass_2 : decode cX11_pass 2 = .ok (.putfield 38, 3) := by decide +kernel
theorem dX11_pass_5 : decode cX11_pass 5 = .ok (.iload_n 1, 1) := by decide +kernel
theorem dX11_pass_6 : decode cX11_pass 6 = .ok (.iconst 1, 1) := by decide +kernel
theorem dX11_pass_7 : decode cX11_pass 7 = .ok (.bipush 36, 2) := by decide +kernel
theorem dX11_pass_9 : decode cX11_pass 9 = .ok (.invokestatic 42, 3) := by decide +kernel
theorem dX11_pass_12 : decode cX11_pass 12 = .ok (.ifCond .ne 9, 3) := by decide +kernel
theorem dX11_pass_15 : decode cX11_pass 15 = .ok (.aload_n 0, 1) := by decide +kernel
theorem dX11_pass_16 : decode cX11_pass 16 = .ok (.iconst 1, 1) := by decide +kernel
theorem dX11_pass_17 : decode cX11_pass 17 = .ok (.invokevirtual 50, 3) := by decide +kernel
theorem dX11_pass_20 : decode cX11_pass 20 = .ok (.ireturn, 1) := by decide +kernel
theorem dX11_pass_21 : decode cX11_pass 21 = .ok (.aload_n 0, 1) := by decide +kernel
theorem dX11_pass_22 : decode cX11_pass 22 = .ok (.getfield 28, 3) := by decide +kernel
theorem dX11_pass_25 : decode cX11_pass 25 = .ok (.getfield 149, 3) := by decide +kernel
theorem dX11_pass_28 : decode cX11_pass 28 = .ok (.istore_n 2, 1) := by decide +kernel
theorem dX11_pass_29 : decode cX11_pass 29 = .ok (.aload_n 0, 1) := by decide +kernel
theorem dX11_pass_30 : decode cX11_pass 30 = .ok (.aload_n 0, 1) := by decide +kernel
theorem dX11_pass_31 : decode cX11_pass 31 = .ok (.getfield 28, 3) := by decide +kernel
theorem dX11_pass_34 : decode cX11_pass 34 = .ok (.iload_n 1, 1) := by decide +kernel
theorem dX11_pass_35 : decode cX11_pass 35 = .ok (.invokevirtual 211, 3) := by decide +kernel
theorem dX11_pass_38 : decode cX11_pass 38 = .ok (.aload_n 0, 1) := by decide +kernel
theorem dX11_pass_39 : decode cX11_pass 39 = .ok (.getfield 28, 3) := by decide +kernel
theorem dX11_pass_42 : decode cX11_pass 42 = .ok (.getfield 149, 3) := by decide +kernel
theorem dX11_pass_45 : decode cX11_pass 45 = .ok (.iload_n 2, 1) := by decide +kernel
theorem dX11_pass_46 : decode cX11_pass 46 = .ok (.isub, 1) := by decide +kernel
theorem dX11_pass_47 : decode cX11_pass 47 = .ok (.ireturn, 1) := by decide +kernel
theorem dX11_fuel_0 : decode cX11_fuel 0 = .ok (.iconst 0, 1) := by decide +kernel
theorem dX11_fuel_1 : decode cX11_fuel 1 = .ok (.istore_n 2, 1) := by decide +kernel
theorem dX11_fuel_2 : decode cX11_fuel 2 = .ok (.iconst 0, 1) := by decide +kernel
theorem dX11_fuel_3 : decode cX11_fuel 3 = .ok (.istore_n 3, 1) := by decide +kernel
theorem dX11_fuel_4 : decode cX11_fuel 4 = .ok (.iload_n 3, 1) := by decide +kernel
theorem dX11_fuel_5 : decode cX11_fuel 5 = .ok (.aload_n 0, 1) := by decide +kernel
theorem dX11_fuel_6 : decode cX11_fuel 6 = .ok (.getfield 61, 3) := by decide +kernel
theorem dX11_fuel_9 : decode cX11_fuel 9 = .ok (.if_icmp .ge 22, 3) := by decide +kernel
theorem dX11_fuel_12 : decode cX11_fuel 12 = .ok (.iload_n 2, 1) := by decide +kernel
theorem dX11_fuel_13 : decode cX11_fuel 13 = .ok (.aload_n 1, 1) := by decide +kernel
theorem dX11_fuel_14 : decode cX11_fuel 14 = .ok (.getfield 64, 3) := by decide +kernel
theorem dX11_fuel_17 : decode cX11_fuel 17 = .ok (.iconst 5, 1) := by decide +kernel
theorem dX11_fuel_18 : decode cX11_fuel 18 = .ok (.iload_n 3, 1) := by decide +kernel
theorem dX11_fuel_19 : decode cX11_fuel 19 = .ok (.imul, 1) := by decide +kernel
theorem dX11_fuel_20 : decode cX11_fuel 20 = .ok (.iconst 2, 1) := by decide +kernel
theorem dX11_fuel_21 : decode cX11_fuel 21 = .ok (.iadd, 1) := by decide +kernel
theorem dX11_fuel_22 : decode cX11_fuel 22 = .ok (.iaload, 1) := by decide +kernel
theorem dX11_fuel_23 : decode cX11_fuel 23 = .ok (.iadd, 1) := by decide +kernel
theorem dX11_fuel_24 : decode cX11_fuel 24 = .ok (.istore_n 2, 1) := by decide +kernel
theorem dX11_fuel_25 : decode cX11_fuel 25 = .ok (.iinc 3 1, 3) := by decide +kernel
theorem dX11_fuel_28 : decode cX11_fuel 28 = .ok (.goto (-24), 3) := by decide +kernel
theorem dX11_fuel_31 : decode cX11_fuel 31 = .ok (.iload_n 2, 1) := by decide +kernel
theorem dX11_fuel_32 : decode cX11_fuel 32 = .ok (.ireturn, 1) := by decide +kernel
theorem dX11_foresee_0 : decode cX11_foresee 0 = .ok (.aload_n 0, 1) := by decide +kernel
theorem dX11_foresee_1 : decode cX11_foresee 1 = .ok (.iconst 0, 1) := by decide +kernel
theorem dX11_foresee_2 : decode cX11_foresee 2 = .ok (.putfield 38, 3) := by decide +kernel
theorem dX11_foresee_5 : decode cX11_foresee 5 = .ok (.iload_n 1, 1) := by decide +kernel
theorem dX11_foresee_6 : decode cX11_foresee 6 = .ok (.iconst 1, 1) := by decide +kernel
theorem dX11_foresee_7 : decode cX11_foresee 7 = .ok (.bipush 36, 2) := by decide +kernel
theorem dX11_foresee_9 : decode cX11_foresee 9 = .ok (.invokestatic 42, 3) := by decide +kernel
theorem dX11_foresee_12 : decode cX11_foresee 12 = .ok (.ifCond .ne 9, 3) := by decide +kernel
theorem dX11_foresee_15 : decode cX11_foresee 15 = .ok (.aload_n 0, 1) := by decide +kernel
theorem dX11_foresee_16 : decode cX11_foresee 16 = .ok (.iconst 1, 1) := by decide +kernel
theorem dX11_foresee_17 : decode cX11_foresee 17 = .ok (.invokevirtual 50, 3) := by decide +kernel
theorem dX11_foresee_20 : decode cX11_foresee 20 = .ok (.ireturn, 1) := by decide +kernel
theorem dX11_foresee_21 : decode cX11_foresee 21 = .ok (.iload_n 2, 1) := by decide +kernel
theorem dX11_foresee_22 : decode cX11_foresee 22 = .ok (.iconst 0, 1) := by decide +kernel
theorem dX11_foresee_23 : decode cX11_foresee 23 = .ok (.iconst 3, 1) := by decide +kernel
theorem dX11_foresee_24 : decode cX11_foresee 24 = .ok (.invokestatic 42, 3) := by decide +kernel
theorem dX11_foresee_27 : decode cX11_foresee 27 = .ok (.ifCond .ne 9, 3) := by decide +kernel
theorem dX11_foresee_30 : decode cX11_foresee 30 = .ok (.aload_n 0, 1) := by decide +kernel
theorem dX11_foresee_31 : decode cX11_foresee 31 = .ok (.iconst 2, 1) := by decide +kernel
theorem dX11_foresee_32 : decode cX11_foresee 32 = .ok (.invokevirtual 50, 3) := by decide +kernel
theorem dX11_foresee_35 : decode cX11_foresee 35 = .ok (.ireturn, 1) := by decide +kernel
theorem dX11_foresee_36 : decode cX11_foresee 36 = .ok (.aload_n 0, 1) := by decide +kernel
theorem dX11_foresee_37 : decode cX11_foresee 37 = .ok (.getfield 32, 3) := by decide +kernel
theorem dX11_foresee_40 : decode cX11_foresee 40 = .ok (.aload_n 0, 1) := by decide +kernel
theorem dX11_foresee_41 : decode cX11_foresee 41 = .ok (.getfield 28, 3) := by decide +kernel
theorem dX11_foresee_44 : decode cX11_foresee 44 = .ok (.invokevirtual 214, 3) := by decide +kernel
theorem dX11_foresee_47 : decode cX11_foresee 47 = .ok (.aload_n 0, 1) := by decide +kernel
theorem dX11_foresee_48 : decode cX11_foresee 48 = .ok (.aload_n 0, 1) := by decide +kernel
theorem dX11_foresee_49 : decode cX11_foresee 49 = .ok (.getfield 32, 3) := by decide +kernel
theorem dX11_foresee_52 : decode cX11_foresee 52 = .ok (.iload_n 1, 1) := by decide +kernel
theorem dX11_foresee_53 : decode cX11_foresee 53 = .ok (.invokevirtual 211, 3) := by decide +kernel
theorem dX11_foresee_56 : decode cX11_foresee 56 = .ok (.iload_n 2, 1) := by decide +kernel
theorem dX11_foresee_57 : decode cX11_foresee 57 = .ok (.ifCond .ne 15, 3) := by decide +kernel
theorem dX11_foresee_60 : decode cX11_foresee 60 = .ok (.aload_n 0, 1) := by decide +kernel
theorem dX11_foresee_61 : decode cX11_foresee 61 = .ok (.aload_n 0, 1) := by decide +kernel
theorem dX11_foresee_62 : decode cX11_foresee 62 = .ok (.getfield 32, 3) := by decide +kernel
theorem dX11_foresee_65 : decode cX11_foresee 65 = .ok (.iconst 2, 1) := by decide +kernel
theorem dX11_foresee_66 : decode cX11_foresee 66 = .ok (.invokevirtual 201, 3) := by decide +kernel
theorem dX11_foresee_69 : decode cX11_foresee 69 = .ok (.goto 50, 3) := by decide +kernel
theorem dX11_foresee_72 : decode cX11_foresee 72 = .ok (.iload_n 2, 1) := by decide +kernel
theorem dX11_foresee_73 : decode cX11_foresee 73 = .ok (.iconst 1, 1) := by decide +kernel
theorem dX11_foresee_74 : decode cX11_foresee 74 = .ok (.if_icmp .ne 21, 3) := by decide +kernel
theorem dX11_foresee_77 : decode cX11_foresee 77 = .ok (.aload_n 0, 1) := by decide +kernel
theorem dX11_foresee_78 : decode cX11_foresee 78 = .ok (.getfield 32, 3) := by decide +kernel
theorem dX11_foresee_81 : decode cX11_foresee 81 = .ok (.getfield 149, 3) := by decide +kernel
theorem dX11_foresee_84 : decode cX11_foresee 84 = .ok (.aload_n 0, 1) := by decide +kernel
theorem dX11_foresee_85 : decode cX11_foresee 85 = .ok (.getfield 28, 3) := by decide +kernel
theorem dX11_foresee_88 : decode cX11_foresee 88 = .ok (.getfield 149, 3) := by decide +kernel
theorem dX11_foresee_91 : decode cX11_foresee 91 = .ok (.isub, 1) := by decide +kernel
theorem dX11_foresee_92 : decode cX11_foresee 92 = .ok (.goto 27, 3) := by decide +kernel
theorem dX11_foresee_95 : decode cX11_foresee 95 = .ok (.iload_n 2, 1) := by decide +kernel
theorem dX11_foresee_96 : decode cX11_foresee 96 = .ok (.iconst 2, 1) := by decide +kernel
theorem dX11_foresee_97 : decode cX11_foresee 97 = .ok (.if_icmp .ne 14, 3) := by decide +kernel
theorem dX11_foresee_100 : decode cX11_foresee 100 = .ok (.aload_n 0, 1) := by decide +kernel
theorem dX11_foresee_101 : decode cX11_foresee 101 = .ok (.getfield 32, 3) := by decide +kernel
theorem dX11_foresee_104 : decode cX11_foresee 104 = .ok (.iconst 0, 1) := by decide +kernel
theorem dX11_foresee_105 : decode cX11_foresee 105 = .ok (.invokestatic 204, 3) := by decide +kernel
theorem dX11_foresee_108 : decode cX11_foresee 108 = .ok (.goto 11, 3) := by decide +kernel
theorem dX11_foresee_111 : decode cX11_foresee 111 = .ok (.aload_n 0, 1) := by decide +kernel
theorem dX11_foresee_112 : decode cX11_foresee 112 = .ok (.aload_n 0, 1) := by decide +kernel
theorem dX11_foresee_113 : decode cX11_foresee 113 = .ok (.getfield 32, 3) := by decide +kernel
theorem dX11_foresee_116 : decode cX11_foresee 116 = .ok (.invokevirtual 217, 3) := by decide +kernel
theorem dX11_foresee_119 : decode cX11_foresee 119 = .ok (.ireturn, 1) := by decide +kernel
theorem dX11_rings__0 : decode cX11_rings_ 0 = .ok (.aload_n 0, 1) := by decide +kernel
theorem dX11_rings__1 : decode cX11_rings_ 1 = .ok (.iconst 0, 1) := by decide +kernel
theorem dX11_rings__2 : decode cX11_rings_ 2 = .ok (.putfield 38, 3) := by decide +kernel
theorem dX11_rings__5 : decode cX11_rings_ 5 = .ok (.iload_n 1, 1) := by decide +kernel
theorem dX11_rings__6 : decode cX11_rings_ 6 = .ok (.iconst 0, 1) := by decide +kernel
theorem dX11_rings__7 : decode cX11_rings_ 7 = .ok (.aload_n 0, 1) := by decide +kernel
theorem dX11_rings__8 : decode cX11_rings_ 8 = .ok (.getfield 71, 3) := by decide +kernel
theorem dX11_rings__11 : decode cX11_rings_ 11 = .ok (.iconst 1, 1) := by decide +kernel
theorem dX11_rings__12 : decode cX11_rings_ 12 = .ok (.isub, 1) := by decide +kernel
theorem dX11_rings__13 : decode cX11_rings_ 13 = .ok (.invokestatic 42, 3) := by decide +kernel
theorem dX11_rings__16 : decode cX11_rings_ 16 = .ok (.ifCond .ne 9, 3) := by decide +kernel
theorem dX11_rings__19 : decode cX11_rings_ 19 = .ok (.aload_n 0, 1) := by decide +kernel
theorem dX11_rings__20 : decode cX11_rings_ 20 = .ok (.iconst 1, 1) := by decide +kernel
theorem dX11_rings__21 : decode cX11_rings_ 21 = .ok (.invokevirtual 50, 3) := by decide +kernel
theorem dX11_rings__24 : decode cX11_rings_ 24 = .ok (.ireturn, 1) := by decide +kernel
theorem dX11_rings__25 : decode cX11_rings_ 25 = .ok (.aload_n 0, 1) := by decide +kernel
theorem dX11_rings__26 : decode cX11_rings_ 26 = .ok (.getfield 32, 3) := by decide +kernel
theorem dX11_rings__29 : decode cX11_rings_ 29 = .ok (.aload_n 0, 1) := by decide +kernel
theorem dX11_rings__30 : decode cX11_rings_ 30 = .ok (.getfield 28, 3) := by decide +kernel
theorem dX11_rings__33 : decode cX11_rings_ 33 = .ok (.invokevirtual 214, 3) := by decide +kernel
theorem dX11_rings__36 : decode cX11_rings_ 36 = .ok (.iconst 0, 1) := by decide +kernel
theorem dX11_rings__37 : decode cX11_rings_ 37 = .ok (.istore_n 2, 1) := by decide +kernel
theorem dX11_rings__38 : decode cX11_rings_ 38 = .ok (.iload_n 2, 1) := by decide +kernel
theorem dX11_rings__39 : decode cX11_rings_ 39 = .ok (.bipush 48, 2) := by decide +kernel
theorem dX11_rings__41 : decode cX11_rings_ 41 = .ok (.if_icmp .gt 31, 3) := by decide +kernel
theorem dX11_rings__44 : decode cX11_rings_ 44 = .ok (.aload_n 0, 1) := by decide +kernel
theorem dX11_rings__45 : decode cX11_rings_ 45 = .ok (.aload_n 0, 1) := by decide +kernel
theorem dX11_rings__46 : decode cX11_rings_ 46 = .ok (.getfield 32, 3) := by decide +kernel
theorem dX11_rings__49 : decode cX11_rings_ 49 = .ok (.iload_n 1, 1) := by decide +kernel
theorem dX11_rings__50 : decode cX11_rings_ 50 = .ok (.invokevirtual 113, 3) := by decide +kernel
theorem dX11_rings__53 : decode cX11_rings_ 53 = .ok (.ifCond .eq 5, 3) := by decide +kernel
theorem dX11_rings__56 : decode cX11_rings_ 56 = .ok (.iload_n 2, 1) := by decide +kernel
theorem dX11_rings__57 : decode cX11_rings_ 57 = .ok (.ireturn, 1) := by decide +kernel
theorem dX11_rings__58 : decode cX11_rings_ 58 = .ok (.aload_n 0, 1) := by decide +kernel
theorem dX11_rings__59 : decode cX11_rings_ 59 = .ok (.aload_n 0, 1) := by decide +kernel
theorem dX11_rings__60 : decode cX11_rings_ 60 = .ok (.getfield 32, 3) := by decide +kernel
theorem dX11_rings__63 : decode cX11_rings_ 63 = .ok (.invokevirtual 175, 3) := by decide +kernel
theorem dX11_rings__66 : decode cX11_rings_ 66 = .ok (.iinc 2 1, 3) := by decide +kernel
theorem dX11_rings__69 : decode cX11_rings_ 69 = .ok (.goto (-31), 3) := by decide +kernel
theorem dX11_rings__72 : decode cX11_rings_ 72 = .ok (.iconst (-1), 1) := by decide +kernel
theorem dX11_rings__73 : decode cX11_rings_ 73 = .ok (.ireturn, 1) := by decide +kernel
theorem dX11_waterWith_0 : decode cX11_waterWith 0 = .ok (.aload_n 0, 1) := by decide +kernel
theorem dX11_waterWith_1 : decode cX11_waterWith 1 = .ok (.getfield 32, 3) := by decide +kernel
theorem dX11_waterWith_4 : decode cX11_waterWith 4 = .ok (.aload_n 0, 1) := by decide +kernel
theorem dX11_waterWith_5 : decode cX11_waterWith 5 = .ok (.getfield 28, 3) := by decide +kernel
theorem dX11_waterWith_8 : decode cX11_waterWith 8 = .ok (.invokevirtual 214, 3) := by decide +kernel
theorem dX11_waterWith_11 : decode cX11_waterWith 11 = .ok (.iload_n 1, 1) := by decide +kernel
theorem dX11_waterWith_12 : decode cX11_waterWith 12 = .ok (.iconst (-1), 1) := by decide +kernel
theorem dX11_waterWith_13 : decode cX11_waterWith 13 = .ok (.if_icmp .eq 16, 3) := by decide +kernel
theorem dX11_waterWith_16 : decode cX11_waterWith 16 = .ok (.aload_n 0, 1) := by decide +kernel
theorem dX11_waterWith_17 : decode cX11_waterWith 17 = .ok (.getfield 32, 3) := by decide +kernel
theorem dX11_waterWith_20 : decode cX11_waterWith 20 = .ok (.getfield 54, 3) := by decide +kernel
theorem dX11_waterWith_23 : decode cX11_waterWith 23 = .ok (.iload_n 1, 1) := by decide +kernel
theorem dX11_waterWith_24 : decode cX11_waterWith 24 = .ok (.dup2, 1) := by decide +kernel
theorem dX11_waterWith_25 : decode cX11_waterWith 25 = .ok (.iaload, 1) := by decide +kernel
