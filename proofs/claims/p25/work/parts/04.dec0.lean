theorem dX0_init_0 : decode cX0_init 0 = .ok (.aload_n 0, 1) := by decide +kernel
theorem dX0_init_1 : decode cX0_init 1 = .ok (.iconst 3, 1) := by decide +kernel
theorem dX0_init_2 : decode cX0_init 2 = .ok (.newarray .int, 2) := by decide +kernel
theorem dX0_init_4 : decode cX0_init 4 = .ok (.invokespecial 3, 3) := by decide +kernel
theorem dX0_init_7 : decode cX0_init 7 = .ok (.aload_n 0, 1) := by decide +kernel
theorem dX0_init_8 : decode cX0_init 8 = .ok (.iconst 3, 1) := by decide +kernel
theorem dX0_init_9 : decode cX0_init 9 = .ok (.newarray .int, 2) := by decide +kernel
theorem dX0_init_11 : decode cX0_init 11 = .ok (.putfield 9, 3) := by decide +kernel
theorem dX0_init_14 : decode cX0_init 14 = .ok (.return_, 1) := by decide +kernel
theorem dX0_post_0 : decode cX0_post 0 = .ok (.aload_n 0, 1) := by decide +kernel
theorem dX0_post_1 : decode cX0_post 1 = .ok (.getfield 15, 3) := by decide +kernel
theorem dX0_post_4 : decode cX0_post 4 = .ok (.istore_n 2, 1) := by decide +kernel
theorem dX0_post_5 : decode cX0_post 5 = .ok (.aload_n 0, 1) := by decide +kernel
theorem dX0_post_6 : decode cX0_post 6 = .ok (.getfield 19, 3) := by decide +kernel
theorem dX0_post_9 : decode cX0_post 9 = .ok (.iload_n 2, 1) := by decide +kernel
theorem dX0_post_10 : decode cX0_post 10 = .ok (.iload_n 1, 1) := by decide +kernel
theorem dX0_post_11 : decode cX0_post 11 = .ok (.iastore, 1) := by decide +kernel
theorem dX0_post_12 : decode cX0_post 12 = .ok (.aload_n 0, 1) := by decide +kernel
theorem dX0_post_13 : decode cX0_post 13 = .ok (.dup, 1) := by decide +kernel
theorem dX0_post_14 : decode cX0_post 14 = .ok (.getfield 15, 3) := by decide +kernel
theorem dX0_post_17 : decode cX0_post 17 = .ok (.iconst 1, 1) := by decide +kernel
theorem dX0_post_18 : decode cX0_post 18 = .ok (.iadd, 1) := by decide +kernel
theorem dX0_post_19 : decode cX0_post 19 = .ok (.putfield 15, 3) := by decide +kernel
theorem dX0_post_22 : decode cX0_post 22 = .ok (.iload_n 2, 1) := by decide +kernel
theorem dX0_post_23 : decode cX0_post 23 = .ok (.ireturn, 1) := by decide +kernel
theorem dX0_copyFrom_0 : decode cX0_copyFrom 0 = .ok (.aload_n 0, 1) := by decide +kernel
theorem dX0_copyFrom_1 : decode cX0_copyFrom 1 = .ok (.aload_n 1, 1) := by decide +kernel
theorem dX0_copyFrom_2 : decode cX0_copyFrom 2 = .ok (.invokevirtual 22, 3) := by decide +kernel
theorem dX0_copyFrom_5 : decode cX0_copyFrom 5 = .ok (.iconst 0, 1) := by decide +kernel
theorem dX0_copyFrom_6 : decode cX0_copyFrom 6 = .ok (.istore_n 2, 1) := by decide +kernel
theorem dX0_copyFrom_7 : decode cX0_copyFrom 7 = .ok (.iload_n 2, 1) := by decide +kernel
theorem dX0_copyFrom_8 : decode cX0_copyFrom 8 = .ok (.aload_n 0, 1) := by decide +kernel
theorem dX0_copyFrom_9 : decode cX0_copyFrom 9 = .ok (.getfield 15, 3) := by decide +kernel
theorem dX0_copyFrom_12 : decode cX0_copyFrom 12 = .ok (.if_icmp .ge 21, 3) := by decide +kernel
theorem dX0_copyFrom_15 : decode cX0_copyFrom 15 = .ok (.aload_n 0, 1) := by decide +kernel
theorem dX0_copyFrom_16 : decode cX0_copyFrom 16 = .ok (.getfield 9, 3) := by decide +kernel
theorem dX0_copyFrom_19 : decode cX0_copyFrom 19 = .ok (.iload_n 2, 1) := by decide +kernel
theorem dX0_copyFrom_20 : decode cX0_copyFrom 20 = .ok (.aload_n 1, 1) := by decide +kernel
theorem dX0_copyFrom_21 : decode cX0_copyFrom 21 = .ok (.getfield 9, 3) := by decide +kernel
theorem dX0_copyFrom_24 : decode cX0_copyFrom 24 = .ok (.iload_n 2, 1) := by decide +kernel
theorem dX0_copyFrom_25 : decode cX0_copyFrom 25 = .ok (.iaload, 1) := by decide +kernel
theorem dX0_copyFrom_26 : decode cX0_copyFrom 26 = .ok (.iastore, 1) := by decide +kernel
theorem dX0_copyFrom_27 : decode cX0_copyFrom 27 = .ok (.iinc 2 1, 3) := by decide +kernel
theorem dX0_copyFrom_30 : decode cX0_copyFrom 30 = .ok (.goto (-23), 3) := by decide +kernel
theorem dX0_copyFrom_33 : decode cX0_copyFrom 33 = .ok (.return_, 1) := by decide +kernel
theorem dX0_callOut_0 : decode cX0_callOut 0 = .ok (.iconst 0, 1) := by decide +kernel
theorem dX0_callOut_1 : decode cX0_callOut 1 = .ok (.istore 4, 2) := by decide +kernel
theorem dX0_callOut_3 : decode cX0_callOut 3 = .ok (.iload 4, 2) := by decide +kernel
theorem dX0_callOut_5 : decode cX0_callOut 5 = .ok (.aload_n 0, 1) := by decide +kernel
theorem dX0_callOut_6 : decode cX0_callOut 6 = .ok (.getfield 15, 3) := by decide +kernel
theorem dX0_callOut_9 : decode cX0_callOut 9 = .ok (.if_icmp .ge 74, 3) := by decide +kernel
theorem dX0_callOut_12 : decode cX0_callOut 12 = .ok (.aload_n 2, 1) := by decide +kernel
theorem dX0_callOut_13 : decode cX0_callOut 13 = .ok (.aload_n 0, 1) := by decide +kernel
theorem dX0_callOut_14 : decode cX0_callOut 14 = .ok (.getfield 19, 3) := by decide +kernel
theorem dX0_callOut_17 : decode cX0_callOut 17 = .ok (.iload 4, 2) := by decide +kernel
theorem dX0_callOut_19 : decode cX0_callOut 19 = .ok (.iaload, 1) := by decide +kernel
theorem dX0_callOut_20 : decode cX0_callOut 20 = .ok (.aload_n 3, 1) := by decide +kernel
theorem dX0_callOut_21 : decode cX0_callOut 21 = .ok (.invokevirtual 26, 3) := by decide +kernel
theorem dX0_callOut_24 : decode cX0_callOut 24 = .ok (.aload_n 1, 1) := by decide +kernel
theorem dX0_callOut_25 : decode cX0_callOut 25 = .ok (.aload_n 2, 1) := by decide +kernel
theorem dX0_callOut_26 : decode cX0_callOut 26 = .ok (.invokevirtual 32, 3) := by decide +kernel
theorem dX0_callOut_29 : decode cX0_callOut 29 = .ok (.istore 5, 2) := by decide +kernel
theorem dX0_callOut_31 : decode cX0_callOut 31 = .ok (.iload 5, 2) := by decide +kernel
theorem dX0_callOut_33 : decode cX0_callOut 33 = .ok (.iconst (-1), 1) := by decide +kernel
theorem dX0_callOut_34 : decode cX0_callOut 34 = .ok (.if_icmp .eq 22, 3) := by decide +kernel
theorem dX0_callOut_37 : decode cX0_callOut 37 = .ok (.aload_n 0, 1) := by decide +kernel
theorem dX0_callOut_38 : decode cX0_callOut 38 = .ok (.getfield 19, 3) := by decide +kernel
theorem dX0_callOut_41 : decode cX0_callOut 41 = .ok (.iload 4, 2) := by decide +kernel
theorem dX0_callOut_43 : decode cX0_callOut 43 = .ok (.aload_n 2, 1) := by decide +kernel
theorem dX0_callOut_44 : decode cX0_callOut 44 = .ok (.getfield 38, 3) := by decide +kernel
theorem dX0_callOut_47 : decode cX0_callOut 47 = .ok (.aload_n 1, 1) := by decide +kernel
theorem dX0_callOut_48 : decode cX0_callOut 48 = .ok (.getfield 41, 3) := by decide +kernel
theorem dX0_callOut_51 : decode cX0_callOut 51 = .ok (.iload 5, 2) := by decide +kernel
theorem dX0_callOut_53 : decode cX0_callOut 53 = .ok (.iaload, 1) := by decide +kernel
theorem dX0_callOut_54 : decode cX0_callOut 54 = .ok (.iaload, 1) := by decide +kernel
theorem dX0_callOut_55 : decode cX0_callOut 55 = .ok (.iastore, 1) := by decide +kernel
theorem dX0_callOut_56 : decode cX0_callOut 56 = .ok (.aload_n 0, 1) := by decide +kernel
theorem dX0_callOut_57 : decode cX0_callOut 57 = .ok (.getfield 9, 3) := by decide +kernel
theorem dX0_callOut_60 : decode cX0_callOut 60 = .ok (.iload 4, 2) := by decide +kernel
theorem dX0_callOut_62 : decode cX0_callOut 62 = .ok (.dup2, 1) := by decide +kernel
theorem dX0_callOut_63 : decode cX0_callOut 63 = .ok (.iaload, 1) := by decide +kernel
theorem dX0_callOut_64 : decode cX0_callOut 64 = .ok (.aload_n 1, 1) := by decide +kernel
theorem dX0_callOut_65 : decode cX0_callOut 65 = .ok (.aload_n 0, 1) := by decide +kernel
theorem dX0_callOut_66 : decode cX0_callOut 66 = .ok (.getfield 19, 3) := by decide +kernel
theorem dX0_callOut_69 : decode cX0_callOut 69 = .ok (.iload 4, 2) := by decide +kernel
theorem dX0_callOut_71 : decode cX0_callOut 71 = .ok (.iaload, 1) := by decide +kernel
theorem dX0_callOut_72 : decode cX0_callOut 72 = .ok (.invokevirtual 42, 3) := by decide +kernel
theorem dX0_callOut_75 : decode cX0_callOut 75 = .ok (.iadd, 1) := by decide +kernel
theorem dX0_callOut_76 : decode cX0_callOut 76 = .ok (.iastore, 1) := by decide +kernel
theorem dX0_callOut_77 : decode cX0_callOut 77 = .ok (.iinc 4 1, 3) := by decide +kernel
theorem dX0_callOut_80 : decode cX0_callOut 80 = .ok (.goto (-77), 3) := by decide +kernel
theorem dX0_callOut_83 : decode cX0_callOut 83 = .ok (.return_, 1) := by decide +kernel
theorem dX0_tell_0 : decode cX0_tell 0 = .ok (.iload_n 2, 1) := by decide +kernel
theorem dX0_tell_1 : decode cX0_tell 1 = .ok (.lookupswitch 39 #[(0, 27), (1, 33)], 27) := by decide +kernel
theorem dX0_tell_28 : decode cX0_tell 28 = .ok (.aload_n 0, 1) := by decide +kernel
theorem dX0_tell_29 : decode cX0_tell 29 = .ok (.iload_n 1, 1) := by decide +kernel
theorem dX0_tell_30 : decode cX0_tell 30 = .ok (.invokevirtual 46, 3) := by decide +kernel
theorem dX0_tell_33 : decode cX0_tell 33 = .ok (.ireturn, 1) := by decide +kernel
theorem dX0_tell_34 : decode cX0_tell 34 = .ok (.aload_n 0, 1) := by decide +kernel
theorem dX0_tell_35 : decode cX0_tell 35 = .ok (.iload_n 1, 1) := by decide +kernel
theorem dX0_tell_36 : decode cX0_tell 36 = .ok (.invokevirtual 49, 3) := by decide +kernel
theorem dX0_tell_39 : decode cX0_tell 39 = .ok (.ireturn, 1) := by decide +kernel
theorem dX0_tell_40 : decode cX0_tell 40 = .ok (.aload_n 0, 1) := by decide +kernel
theorem dX0_tell_41 : decode cX0_tell 41 = .ok (.getfield 9, 3) := by decide +kernel
theorem dX0_tell_44 : decode cX0_tell 44 = .ok (.iload_n 1, 1) := by decide +kernel
theorem dX0_tell_45 : decode cX0_tell 45 = .ok (.iaload, 1) := by decide +kernel
theorem dX0_tell_46 : decode cX0_tell 46 = .ok (.ireturn, 1) := by decide +kernel
theorem dX1_init_0 : decode cX1_init 0 = .ok (.aload_n 0, 1) := by decide +kernel
theorem dX1_init_1 : decode cX1_init 1 = .ok (.iconst 4, 1) := by decide +kernel
theorem dX1_init_2 : decode cX1_init 2 = .ok (.newarray .int, 2) := by decide +kernel
theorem dX1_init_4 : decode cX1_init 4 = .ok (.invokespecial 3, 3) := by decide +kernel
theorem dX1_init_7 : decode cX1_init 7 = .ok (.aload_n 0, 1) := by decide +kernel
theorem dX1_init_8 : decode cX1_init 8 = .ok (.iconst 4, 1) := by decide +kernel
theorem dX1_init_9 : decode cX1_init 9 = .ok (.newarray .int, 2) := by decide +kernel
theorem dX1_init_11 : decode cX1_init 11 = .ok (.putfield 9, 3) := by decide +kernel
theorem dX1_init_14 : decode cX1_init 14 = .ok (.return_, 1) := by decide +kernel
theorem dX1_hang_0 : decode cX1_hang 0 = .ok (.aload_n 0, 1) := by decide +kernel
theorem dX1_hang_1 : decode cX1_hang 1 = .ok (.getfield 15, 3) := by decide +kernel
theorem dX1_hang_4 : decode cX1_hang 4 = .ok (.istore_n 3, 1) := by decide +kernel
theorem dX1_hang_5 : decode cX1_hang 5 = .ok (.aload_n 0, 1) := by decide +kernel
theorem dX1_hang_6 : decode cX1_hang 6 = .ok (.getfield 19, 3) := by decide +kernel
theorem dX1_hang_9 : decode cX1_hang 9 = .ok (.iload_n 3, 1) := by decide +kernel
theorem dX1_hang_10 : decode cX1_hang 10 = .ok (.iload_n 1, 1) := by decide +kernel
theorem dX1_hang_11 : decode cX1_hang 11 = .ok (.iastore, 1) := by decide +kernel
theorem dX1_hang_12 : decode cX1_hang 12 = .ok (.aload_n 0, 1) := by decide +kernel
theorem dX1_hang_13 : decode cX1_hang 13 = .ok (.getfield 9, 3) := by decide +kernel
theorem dX1_hang_16 : decode cX1_hang 16 = .ok (.iload_n 3, 1) := by decide +kernel
theorem dX1_hang_17 : decode cX1_hang 17 = .ok (.iload_n 2, 1) := by decide +kernel
theorem dX1_hang_18 : decode cX1_hang 18 = .ok (.iastore, 1) := by decide +kernel
theorem dX1_hang_19 : decode cX1_hang 19 = .ok (.aload_n 0, 1) := by decide +kernel
theorem dX1_hang_20 : decode cX1_hang 20 = .ok (.dup, 1) := by decide +kernel
theorem dX1_hang_21 : decode cX1_hang 21 = .ok (.getfield 15, 3) := by decide +kernel
theorem dX1_hang_24 : decode cX1_hang 24 = .ok (.iconst 1, 1) := by decide +kernel
theorem dX1_hang_25 : decode cX1_hang 25 = .ok (.iadd, 1) := by decide +kernel
theorem dX1_hang_26 : decode cX1_hang 26 = .ok (.putfield 15, 3) := by decide +kernel
theorem dX1_hang_29 : decode cX1_hang 29 = .ok (.iload_n 3, 1) := by decide +kernel
theorem dX1_hang_30 : decode cX1_hang 30 = .ok (.ireturn, 1) := by decide +kernel
theorem dX1_copyFrom_0 : decode cX1_copyFrom 0 = .ok (.aload_n 0, 1) := by decide +kernel
theorem dX1_copyFrom_1 : decode cX1_copyFrom 1 = .ok (.aload_n 1, 1) := by decide +kernel
theorem dX1_copyFrom_2 : decode cX1_copyFrom 2 = .ok (.invokevirtual 22, 3) := by decide +kernel
theorem dX1_copyFrom_5 : decode cX1_copyFrom 5 = .ok (.iconst 0, 1) := by decide +kernel
theorem dX1_copyFrom_6 : decode cX1_copyFrom 6 = .ok (.istore_n 2, 1) := by decide +kernel
theorem dX1_copyFrom_7 : decode cX1_copyFrom 7 = .ok (.iload_n 2, 1) := by decide +kernel
theorem dX1_copyFrom_8 : decode cX1_copyFrom 8 = .ok (.aload_n 0, 1) := by decide +kernel
theorem dX1_copyFrom_9 : decode cX1_copyFrom 9 = .ok (.getfield 15, 3) := by decide +kernel
theorem dX1_copyFrom_12 : decode cX1_copyFrom 12 = .ok (.if_icmp .ge 21, 3) := by decide +kernel
theorem dX1_copyFrom_15 : decode cX1_copyFrom 15 = .ok (.aload_n 0, 1) := by decide +kernel
theorem dX1_copyFrom_16 : decode cX1_copyFrom 16 = .ok (.getfield 9, 3) := by decide +kernel
theorem dX1_copyFrom_19 : decode cX1_copyFrom 19 = .ok (.iload_n 2, 1) := by decide +kernel
theorem dX1_copyFrom_20 : decode cX1_copyFrom 20 = .ok (.aload_n 1, 1) := by decide +kernel
theorem dX1_copyFrom_21 : decode cX1_copyFrom 21 = .ok (.getfield 9, 3) := by decide +kernel
theorem dX1_copyFrom_24 : decode cX1_copyFrom 24 = .ok (.iload_n 2, 1) := by decide +kernel
theorem dX1_copyFrom_25 : decode cX1_copyFrom 25 = .ok (.iaload, 1) := by decide +kernel
theorem dX1_copyFrom_26 : decode cX1_copyFrom 26 = .ok (.iastore, 1) := by decide +kernel
theorem dX1_copyFrom_27 : decode cX1_copyFrom 27 = .ok (.iinc 2 1, 3) := by decide +kernel
theorem dX1_copyFrom_30 : decode cX1_copyFrom 30 = .ok (.goto (-23), 3) := by decide +kernel
theorem dX1_copyFrom_33 : decode cX1_copyFrom 33 = .ok (.return_, 1) := by decide +kernel
theorem dX1_isRinging_0 : decode cX1_isRinging 0 = .ok (.aload_n 2, 1) := by decide +kernel
theorem dX1_isRinging_1 : decode cX1_isRinging 1 = .ok (.getfield 26, 3) := by decide +kernel
theorem dX1_isRinging_4 : decode cX1_isRinging 4 = .ok (.aload_n 0, 1) := by decide +kernel
theorem dX1_isRinging_5 : decode cX1_isRinging 5 = .ok (.getfield 19, 3) := by decide +kernel
theorem dX1_isRinging_8 : decode cX1_isRinging 8 = .ok (.iload_n 1, 1) := by decide +kernel
theorem dX1_isRinging_9 : decode cX1_isRinging 9 = .ok (.iaload, 1) := by decide +kernel
theorem dX1_isRinging_10 : decode cX1_isRinging 10 = .ok (.iaload, 1) := by decide +kernel
theorem dX1_isRinging_11 : decode cX1_isRinging 11 = .ok (.aload_n 0, 1) := by decide +kernel
theorem dX1_isRinging_12 : decode cX1_isRinging 12 = .ok (.getfield 9, 3) := by decide +kernel
theorem dX1_isRinging_15 : decode cX1_isRinging 15 = .ok (.iload_n 1, 1) := by decide +kernel
theorem dX1_isRinging_16 : decode cX1_isRinging 16 = .ok (.iaload, 1) := by decide +kernel
theorem dX1_isRinging_17 : decode cX1_isRinging 17 = .ok (.if_icmp .lt 7, 3) := by decide +kernel
theorem dX1_isRinging_20 : decode cX1_isRinging 20 = .ok (.iconst 1, 1) := by decide +kernel
theorem dX1_isRinging_21 : decode cX1_isRinging 21 = .ok (.goto 4, 3) := by decide +kernel
theorem dX1_isRinging_24 : decode cX1_isRinging 24 = .ok (.iconst 0, 1) := by decide +kernel
theorem dX1_isRinging_25 : decode cX1_isRinging 25 = .ok (.ireturn, 1) := by decide +kernel
theorem dX1_ringing_0 : decode cX1_ringing 0 = .ok (.iconst 0, 1) := by decide +kernel
theorem dX1_ringing_1 : decode cX1_ringing 1 = .ok (.istore_n 2, 1) := by decide +kernel
theorem dX1_ringing_2 : decode cX1_ringing 2 = .ok (.iconst 0, 1) := by decide +kernel
theorem dX1_ringing_3 : decode cX1_ringing 3 = .ok (.istore_n 3, 1) := by decide +kernel
theorem dX1_ringing_4 : decode cX1_ringing 4 = .ok (.iload_n 3, 1) := by decide +kernel
theorem dX1_ringing_5 : decode cX1_ringing 5 = .ok (.aload_n 0, 1) := by decide +kernel
theorem dX1_ringing_6 : decode cX1_ringing 6 = .ok (.getfield 15, 3) := by decide +kernel
theorem dX1_ringing_9 : decode cX1_ringing 9 = .ok (.if_icmp .ge 26, 3) := by decide +kernel
theorem dX1_ringing_12 : decode cX1_ringing 12 = .ok (.iload_n 2, 1) := by decide +kernel
theorem dX1_ringing_13 : decode cX1_ringing 13 = .ok (.aload_n 0, 1) := by decide +kernel
theorem dX1_ringing_14 : decode cX1_ringing 14 = .ok (.iload_n 3, 1) := by decide +kernel
theorem dX1_ringing_15 : decode cX1_ringing 15 = .ok (.aload_n 1, 1) := by decide +kernel
theorem dX1_ringing_16 : decode cX1_ringing 16 = .ok (.invokevirtual 31, 3) := by decide +kernel
theorem dX1_ringing_19 : decode cX1_ringing 19 = .ok (.ifCond .eq 7, 3) := by decide +kernel
theorem dX1_ringing_22 : decode cX1_ringing 22 = .ok (.iconst 1, 1) := by decide +kernel
theorem dX1_ringing_23 : decode cX1_ringing 23 = .ok (.goto 4, 3) := by decide +kernel
theorem dX1_ringing_26 : decode cX1_ringing 26 = .ok (.iconst 0, 1) := by decide +kernel
theorem dX1_ringing_27 : decode cX1_ringing 27 = .ok (.iadd, 1) := by decide +kernel
theorem dX1_ringing_28 : decode cX1_ringing 28 = .ok (.istore_n 2, 1) := by decide +kernel
theorem dX1_ringing_29 : decode cX1_ringing 29 = .ok (.iinc 3 1, 3) := by decide +kernel
theorem dX1_ringing_32 : decode cX1_ringing 32 = .ok (.goto (-28), 3) := by decide +kernel
theorem dX1_ringing_35 : decode cX1_ringing 35 = .ok (.iload_n 2, 1) := by decide +kernel
theorem dX1_ringing_36 : decode cX1_ringing 36 = .ok (.ireturn, 1) := by decide +kernel
theorem dX1_tell_0 : decode cX1_tell 0 = .ok (.iload_n 2, 1) := by decide +kernel
theorem dX1_tell_1 : decode cX1_tell 1 = .ok (.tableswitch 62 0 3 #[31, 37, 43, 50], 31) := by decide +kernel
theorem dX1_tell_32 : decode cX1_tell 32 = .ok (.aload_n 0, 1) := by decide +kernel
theorem dX1_tell_33 : decode cX1_tell 33 = .ok (.iload_n 1, 1) := by decide +kernel
theorem dX1_tell_34 : decode cX1_tell 34 = .ok (.invokevirtual 35, 3) := by decide +kernel
theorem dX1_tell_37 : decode cX1_tell 37 = .ok (.ireturn, 1) := by decide +kernel
theorem dX1_tell_38 : decode cX1_tell 38 = .ok (.aload_n 0, 1) := by decide +kernel
theorem dX1_tell_39 : decode cX1_tell 39 = .ok (.iload_n 1, 1) := by decide +kernel
theorem dX1_tell_40 : decode cX1_tell 40 = .ok (.invokevirtual 39, 3) := by decide +kernel
theorem dX1_tell_43 : decode cX1_tell 43 = .ok (.ireturn, 1) := by decide +kernel
theorem dX1_tell_44 : decode cX1_tell 44 = .ok (.aload_n 0, 1) := by decide +kernel
theorem dX1_tell_45 : decode cX1_tell 45 = .ok (.getfield 9, 3) := by decide +kernel
theorem dX1_tell_48 : decode cX1_tell 48 = .ok (.iload_n 1, 1) := by decide +kernel
theorem dX1_tell_49 : decode cX1_tell 49 = .ok (.iaload, 1) := by decide +kernel
theorem dX1_tell_50 : decode cX1_tell 50 = .ok (.ireturn, 1) := by decide +kernel
theorem dX1_tell_51 : decode cX1_tell 51 = .ok (.aload_n 3, 1) := by decide +kernel
theorem dX1_tell_52 : decode cX1_tell 52 = .ok (.getfield 26, 3) := by decide +kernel
theorem dX1_tell_55 : decode cX1_tell 55 = .ok (.aload_n 0, 1) := by decide +kernel
theorem dX1_tell_56 : decode cX1_tell 56 = .ok (.getfield 19, 3) := by decide +kernel
theorem dX1_tell_59 : decode cX1_tell 59 = .ok (.iload_n 1, 1) := by decide +kernel
theorem dX1_tell_60 : decode cX1_tell 60 = .ok (.iaload, 1) := by decide +kernel
theorem dX1_tell_61 : decode cX1_tell 61 = .ok (.iaload, 1) := by decide +kernel
theorem dX1_tell_62 : decode cX1_tell 62 = .ok (.ireturn, 1) := by decide +kernel
theorem dX1_tell_63 : decode cX1_tell 63 = .ok (.aload_n 0, 1) := by decide +kernel
theorem dX1_tell_64 : decode cX1_tell 64 = .ok (.iload_n 1, 1) := by decide +kernel
theorem dX1_tell_65 : decode cX1_tell 65 = .ok (.aload_n 3, 1) := by decide +kernel
theorem dX1_tell_66 : decode cX1_tell 66 = .ok (.invokevirtual 31, 3) := by decide +kernel
theorem dX1_tell_69 : decode cX1_tell 69 = .ok (.ifCond .eq 7, 3) := by decide +kernel
theorem dX1_tell_72 : decode cX1_tell 72 = .ok (.iconst 1, 1) := by decide +kernel
theorem dX1_tell_73 : decode cX1_tell 73 = .ok (.goto 4, 3) := by decide +kernel
theorem dX1_tell_76 : decode cX1_tell 76 = .ok (.iconst 0, 1) := by decide +kernel
theorem dX1_tell_77 : decode cX1_tell 77 = .ok (.ireturn, 1) := by decide +kernel
theorem dX2_init_0 : decode cX2_init 0 = .ok (.aload_n 0, 1) := by decide +kernel
theorem dX2_init_1 : decode cX2_init 1 = .ok (.bipush 10, 2) := by decide +kernel
theorem dX2_init_3 : decode cX2_init 3 = .ok (.newarray .int, 2) := by decide +kernel
theorem dX2_init_5 : decode cX2_init 5 = .ok (.invokespecial 3, 3) := by decide +kernel
theorem dX2_init_8 : decode cX2_init 8 = .ok (.aload_n 0, 1) := by decide +kernel
theorem dX2_init_9 : decode cX2_init 9 = .ok (.bipush 10, 2) := by decide +kernel
theorem dX2_init_11 : decode cX2_init 11 = .ok (.newarray .int, 2) := by decide +kernel
theorem dX2_init_13 : decode cX2_init 13 = .ok (.putfield 9, 3) := by decide +kernel
theorem dX2_init_16 : decode cX2_init 16 = .ok (.aload_n 0, 1) := by decide +kernel
theorem dX2_init_17 : decode cX2_init 17 = .ok (.bipush 10, 2) := by decide +kernel
theorem dX2_init_19 : decode cX2_init 19 = .ok (.newarray .int, 2) := by decide +kernel
theorem dX2_init_21 : decode cX2_init 21 = .ok (.putfield 15, 3) := by decide +kernel
theorem dX2_init_24 : decode cX2_init 24 = .ok (.return_, 1) := by decide +kernel
theorem dX2_moveIn_0 : decode cX2_moveIn 0 = .ok (.aload_n 0, 1) := by decide +kernel
theorem dX2_moveIn_1 : decode cX2_moveIn 1 = .ok (.getfield 18, 3) := by decide +kernel
theorem dX2_moveIn_4 : decode cX2_moveIn 4 = .ok (.istore_n 3, 1) := by decide +kernel
theorem dX2_moveIn_5 : decode cX2_moveIn 5 = .ok (.aload_n 0, 1) := by decide +kernel
theorem dX2_moveIn_6 : decode cX2_moveIn 6 = .ok (.getfield 22, 3) := by decide +kernel
theorem dX2_moveIn_9 : decode cX2_moveIn 9 = .ok (.iload_n 3, 1) := by decide +kernel
theorem dX2_moveIn_10 : decode cX2_moveIn 10 = .ok (.iload_n 1, 1) := by decide +kernel
theorem dX2_moveIn_11 : decode cX2_moveIn 11 = .ok (.iastore, 1) := by decide +kernel
theorem dX2_moveIn_12 : decode cX2_moveIn 12 = .ok (.aload_n 0, 1) := by decide +kernel
theorem dX2_moveIn_13 : decode cX2_moveIn 13 = .ok (.getfield 9, 3) := by decide +kernel
theorem dX2_moveIn_16 : decode cX2_moveIn 16 = .ok (.iload_n 3, 1) := by decide +kernel
theorem dX2_moveIn_17 : decode cX2_moveIn 17 = .ok (.iload_n 2, 1) := by decide +kernel
theorem dX2_moveIn_18 : decode cX2_moveIn 18 = .ok (.iastore, 1) := by decide +kernel
theorem dX2_moveIn_19 : decode cX2_moveIn 19 = .ok (.aload_n 0, 1) := by decide +kernel
theorem dX2_moveIn_20 : decode cX2_moveIn 20 = .ok (.getfield 15, 3) := by decide +kernel
theorem dX2_moveIn_23 : decode cX2_moveIn 23 = .ok (.iload_n 3, 1) := by decide +kernel
theorem dX2_moveIn_24 : decode cX2_moveIn 24 = .ok (.iconst 0, 1) := by decide +kernel
theorem dX2_moveIn_25 : decode cX2_moveIn 25 = .ok (.iastore, 1) := by decide +kernel
theorem dX2_moveIn_26 : decode cX2_moveIn 26 = .ok (.aload_n 0, 1) := by decide +kernel
theorem dX2_moveIn_27 : decode cX2_moveIn 27 = .ok (.dup, 1) := by decide +kernel
theorem dX2_moveIn_28 : decode cX2_moveIn 28 = .ok (.getfield 18, 3) := by decide +kernel
theorem dX2_moveIn_31 : decode cX2_moveIn 31 = .ok (.iconst 1, 1) := by decide +kernel
theorem dX2_moveIn_32 : decode cX2_moveIn 32 = .ok (.iadd, 1) := by decide +kernel
theorem dX2_moveIn_33 : decode cX2_moveIn 33 = .ok (.putfield 18, 3) := by decide +kernel
theorem dX2_moveIn_36 : decode cX2_moveIn 36 = .ok (.iload_n 3, 1) := by decide +kernel
theorem dX2_moveIn_37 : decode cX2_moveIn 37 = .ok (.ireturn, 1) := by decide +kernel
theorem dX2_copyFrom_0 : decode cX2_copyFrom 0 = .ok (.aload_n 0, 1) := by decide +kernel
theorem dX2_copyFrom_1 : decode cX2_copyFrom 1 = .ok (.aload_n 1, 1) := by decide +kernel
theorem dX2_copyFrom_2 : decode cX2_copyFrom 2 = .ok (.invokevirtual 25, 3) := by decide +kernel
theorem dX2_copyFrom_5 : decode cX2_copyFrom 5 = .ok (.aload_n 0, 1) := by decide +kernel
theorem dX2_copyFrom_6 : decode cX2_copyFrom 6 = .ok (.aload_n 1, 1) := by decide +kernel
theorem dX2_copyFrom_7 : decode cX2_copyFrom 7 = .ok (.getfield 29, 3) := by decide +kernel
theorem dX2_copyFrom_10 : decode cX2_copyFrom 10 = .ok (.putfield 29, 3) := by decide +kernel
theorem dX2_copyFrom_13 : decode cX2_copyFrom 13 = .ok (.iconst 0, 1) := by decide +kernel
theorem dX2_copyFrom_14 : decode cX2_copyFrom 14 = .ok (.istore_n 2, 1) := by decide +kernel
theorem dX2_copyFrom_15 : decode cX2_copyFrom 15 = .ok (.iload_n 2, 1) := by decide +kernel
theorem dX2_copyFrom_16 : decode cX2_copyFrom 16 = .ok (.aload_n 0, 1) := by decide +kernel
theorem dX2_copyFrom_17 : decode cX2_copyFrom 17 = .ok (.getfield 18, 3) := by decide +kernel
theorem dX2_copyFrom_20 : decode cX2_copyFrom 20 = .ok (.if_icmp .ge 33, 3) := by decide +kernel
theorem dX2_copyFrom_23 : decode cX2_copyFrom 23 = .ok (.aload_n 0, 1) := by decide +kernel
theorem dX2_copyFrom_24 : decode cX2_copyFrom 24 = .ok (.getfield 9, 3) := by decide +kernel
theorem dX2_copyFrom_27 : decode cX2_copyFrom 27 = .ok (.iload_n 2, 1) := by decide +kernel
theorem dX2_copyFrom_28 : decode cX2_copyFrom 28 = .ok (.aload_n 1, 1) := by decide +kernel
theorem dX2_copyFrom_29 : decode cX2_copyFrom 29 = .ok (.getfield 9, 3) := by decide +kernel
theorem dX2_copyFrom_32 : decode cX2_copyFrom 32 = .ok (.iload_n 2, 1) := by decide +kernel
theorem dX2_copyFrom_33 : decode cX2_copyFrom 33 = .ok (.iaload, 1) := by decide +kernel
theorem dX2_copyFrom_34 : decode cX2_copyFrom 34 = .ok (.iastore, 1) := by decide +kernel
theorem dX2_copyFrom_35 : decode cX2_copyFrom 35 = .ok (.aload_n 0, 1) := by decide +kernel
theorem dX2_copyFrom_36 : decode cX2_copyFrom 36 = .ok (.getfield 15, 3) := by decide +kernel
theorem dX2_copyFrom_39 : decode cX2_copyFrom 39 = .ok (.iload_n 2, 1) := by decide +kernel
theorem dX2_copyFrom_40 : decode cX2_copyFrom 40 = .ok (.aload_n 1, 1) := by decide +kernel
theorem dX2_copyFrom_41 : decode cX2_copyFrom 41 = .ok (.getfield 15, 3) := by decide +kernel
theorem dX2_copyFrom_44 : decode cX2_copyFrom 44 = .ok (.iload_n 2, 1) := by decide +kernel
theorem dX2_copyFrom_45 : decode cX2_copyFrom 45 = .ok (.iaload, 1) := by decide +kernel
theorem dX2_copyFrom_46 : decode cX2_copyFrom 46 = .ok (.iastore, 1) := by decide +kernel
theorem dX2_copyFrom_47 : decode cX2_copyFrom 47 = .ok (.iinc 2 1, 3) := by decide +kernel
theorem dX2_copyFrom_50 : decode cX2_copyFrom 50 = .ok (.goto (-35), 3) := by decide +kernel
theorem dX2_copyFrom_53 : decode cX2_copyFrom 53 = .ok (.return_, 1) := by decide +kernel
theorem dX2_isOut_0 : decode cX2_isOut 0 = .ok (.aload_n 0, 1) := by decide +kernel
theorem dX2_isOut_1 : decode cX2_isOut 1 = .ok (.getfield 15, 3) := by decide +kernel
theorem dX2_isOut_4 : decode cX2_isOut 4 = .ok (.iload_n 1, 1) := by decide +kernel
theorem dX2_isOut_5 : decode cX2_isOut 5 = .ok (.iaload, 1) := by decide +kernel
theorem dX2_isOut_6 : decode cX2_isOut 6 = .ok (.ifCond .eq 13, 3) := by decide +kernel
theorem dX2_isOut_9 : decode cX2_isOut 9 = .ok (.aload_n 0, 1) := by decide +kernel
theorem dX2_isOut_10 : decode cX2_isOut 10 = .ok (.getfield 15, 3) := by decide +kernel
theorem dX2_isOut_13 : decode cX2_isOut 13 = .ok (.iload_n 1, 1) := by decide +kernel
theorem dX2_isOut_14 : decode cX2_isOut 14 = .ok (.iaload, 1) := by decide +kernel
theorem dX2_isOut_15 : decode cX2_isOut 15 = .ok (.iconst 1, 1) := by decide +kernel
theorem dX2_isOut_16 : decode cX2_isOut 16 = .ok (.if_icmp .ne 7, 3) := by decide +kernel
theorem dX2_isOut_19 : decode cX2_isOut 19 = .ok (.iconst 1, 1) := by decide +kernel
theorem dX2_isOut_20 : decode cX2_isOut 20 = .ok (.goto 4, 3) := by decide +kernel
theorem dX2_isOut_23 : decode cX2_isOut 23 = .ok (.iconst 0, 1) := by decide +kernel
theorem dX2_isOut_24 : decode cX2_isOut 24 = .ok (.ireturn, 1) := by decide +kernel
theorem dX2_peopleWho_0 : decode cX2_peopleWho 0 = .ok (.iconst 0, 1) := by decide +kernel
theorem dX2_peopleWho_1 : decode cX2_peopleWho 1 = .ok (.istore_n 2, 1) := by decide +kernel
theorem dX2_peopleWho_2 : decode cX2_peopleWho 2 = .ok (.iconst 0, 1) := by decide +kernel
theorem dX2_peopleWho_3 : decode cX2_peopleWho 3 = .ok (.istore_n 3, 1) := by decide +kernel
theorem dX2_peopleWho_4 : decode cX2_peopleWho 4 = .ok (.iload_n 3, 1) := by decide +kernel
theorem dX2_peopleWho_5 : decode cX2_peopleWho 5 = .ok (.aload_n 0, 1) := by decide +kernel
theorem dX2_peopleWho_6 : decode cX2_peopleWho 6 = .ok (.getfield 18, 3) := by decide +kernel
theorem dX2_peopleWho_9 : decode cX2_peopleWho 9 = .ok (.if_icmp .ge 32, 3) := by decide +kernel
theorem dX2_peopleWho_12 : decode cX2_peopleWho 12 = .ok (.iload_n 2, 1) := by decide +kernel
theorem dX2_peopleWho_13 : decode cX2_peopleWho 13 = .ok (.aload_n 0, 1) := by decide +kernel
theorem dX2_peopleWho_14 : decode cX2_peopleWho 14 = .ok (.getfield 15, 3) := by decide +kernel
theorem dX2_peopleWho_17 : decode cX2_peopleWho 17 = .ok (.iload_n 3, 1) := by decide +kernel
theorem dX2_peopleWho_18 : decode cX2_peopleWho 18 = .ok (.iaload, 1) := by decide +kernel
theorem dX2_peopleWho_19 : decode cX2_peopleWho 19 = .ok (.iload_n 1, 1) := by decide +kernel
theorem dX2_peopleWho_20 : decode cX2_peopleWho 20 = .ok (.if_icmp .ne 12, 3) := by decide +kernel
theorem dX2_peopleWho_23 : decode cX2_peopleWho 23 = .ok (.aload_n 0, 1) := by decide +kernel
theorem dX2_peopleWho_24 : decode cX2_peopleWho 24 = .ok (.getfield 9, 3) := by decide +kernel
theorem dX2_peopleWho_27 : decode cX2_peopleWho 27 = .ok (.iload_n 3, 1) := by decide +kernel
theorem dX2_peopleWho_28 : decode cX2_peopleWho 28 = .ok (.iaload, 1) := by decide +kernel
theorem dX2_peopleWho_29 : decode cX2_peopleWho 29 = .ok (.goto 4, 3) := by decide +kernel
theorem dX2_peopleWho_32 : decode cX2_peopleWho 32 = .ok (.iconst 0, 1) := by decide +kernel
theorem dX2_peopleWho_33 : decode cX2_peopleWho 33 = .ok (.iadd, 1) := by decide +kernel
theorem dX2_peopleWho_34 : decode cX2_peopleWho 34 = .ok (.istore_n 2, 1) := by decide +kernel
theorem dX2_peopleWho_35 : decode cX2_peopleWho 35 = .ok (.iinc 3 1, 3) := by decide +kernel
theorem dX2_peopleWho_38 : decode cX2_peopleWho 38 = .ok (.goto (-34), 3) := by decide +kernel
theorem dX2_peopleWho_41 : decode cX2_peopleWho 41 = .ok (.iload_n 2, 1) := by decide +kernel
theorem dX2_peopleWho_42 : decode cX2_peopleWho 42 = .ok (.ireturn, 1) := by decide +kernel
theorem dX2_peopleOutAt_0 : decode cX2_peopleOutAt 0 = .ok (.iconst 0, 1) := by decide +kernel
theorem dX2_peopleOutAt_1 : decode cX2_peopleOutAt 1 = .ok (.istore_n 2, 1) := by decide +kernel
theorem dX2_peopleOutAt_2 : decode cX2_peopleOutAt 2 = .ok (.iconst 0, 1) := by decide +kernel
theorem dX2_peopleOutAt_3 : decode cX2_peopleOutAt 3 = .ok (.istore_n 3, 1) := by decide +kernel
theorem dX2_peopleOutAt_4 : decode cX2_peopleOutAt 4 = .ok (.iload_n 3, 1) := by decide +kernel
theorem dX2_peopleOutAt_5 : decode cX2_peopleOutAt 5 = .ok (.aload_n 0, 1) := by decide +kernel
theorem dX2_peopleOutAt_6 : decode cX2_peopleOutAt 6 = .ok (.getfield 18, 3) := by decide +kernel
theorem dX2_peopleOutAt_9 : decode cX2_peopleOutAt 9 = .ok (.if_icmp .ge 40, 3) := by decide +kernel
theorem dX2_peopleOutAt_12 : decode cX2_peopleOutAt 12 = .ok (.iload_n 2, 1) := by decide +kernel
theorem dX2_peopleOutAt_13 : decode cX2_peopleOutAt 13 = .ok (.aload_n 0, 1) := by decide +kernel
theorem dX2_peopleOutAt_14 : decode cX2_peopleOutAt 14 = .ok (.iload_n 3, 1) := by decide +kernel
theorem dX2_peopleOutAt_15 : decode cX2_peopleOutAt 15 = .ok (.invokevirtual 32, 3) := by decide +kernel
theorem dX2_peopleOutAt_18 : decode cX2_peopleOutAt 18 = .ok (.ifCond .eq 22, 3) := by decide +kernel
theorem dX2_peopleOutAt_21 : decode cX2_peopleOutAt 21 = .ok (.aload_n 0, 1) := by decide +kernel
theorem dX2_peopleOutAt_22 : decode cX2_peopleOutAt 22 = .ok (.getfield 22, 3) := by decide +kernel
theorem dX2_peopleOutAt_25 : decode cX2_peopleOutAt 25 = .ok (.iload_n 3, 1) := by decide +kernel
theorem dX2_peopleOutAt_26 : decode cX2_peopleOutAt 26 = .ok (.iaload, 1) := by decide +kernel
theorem dX2_peopleOutAt_27 : decode cX2_peopleOutAt 27 = .ok (.iload_n 1, 1) := by decide +kernel
theorem dX2_peopleOutAt_28 : decode cX2_peopleOutAt 28 = .ok (.if_icmp .ne 12, 3) := by decide +kernel
theorem dX2_peopleOutAt_31 : decode cX2_peopleOutAt 31 = .ok (.aload_n 0, 1) := by decide +kernel
theorem dX2_peopleOutAt_32 : decode cX2_peopleOutAt 32 = .ok (.getfield 9, 3) := by decide +kernel
theorem dX2_peopleOutAt_35 : decode cX2_peopleOutAt 35 = .ok (.iload_n 3, 1) := by decide +kernel
theorem dX2_peopleOutAt_36 : decode cX2_peopleOutAt 36 = .ok (.iaload, 1) := by decide +kernel
theorem dX2_peopleOutAt_37 : decode cX2_peopleOutAt 37 = .ok (.goto 4, 3) := by decide +kernel
theorem dX2_peopleOutAt_40 : decode cX2_peopleOutAt 40 = .ok (.iconst 0, 1) := by decide +kernel
theorem dX2_peopleOutAt_41 : decode cX2_peopleOutAt 41 = .ok (.iadd, 1) := by decide +kernel
theorem dX2_peopleOutAt_42 : decode cX2_peopleOutAt 42 = .ok (.istore_n 2, 1) := by decide +kernel
theorem dX2_peopleOutAt_43 : decode cX2_peopleOutAt 43 = .ok (.iinc 3 1, 3) := by decide +kernel
theorem dX2_peopleOutAt_46 : decode cX2_peopleOutAt 46 = .ok (.goto (-42), 3) := by decide +kernel
theorem dX2_peopleOutAt_49 : decode cX2_peopleOutAt 49 = .ok (.iload_n 2, 1) := by decide +kernel
theorem dX2_peopleOutAt_50 : decode cX2_peopleOutAt 50 = .ok (.ireturn, 1) := by decide +kernel
theorem dX2_nearestAtHome_0 : decode cX2_nearestAtHome 0 = .ok (.iconst (-1), 1) := by decide +kernel
theorem dX2_nearestAtHome_1 : decode cX2_nearestAtHome 1 = .ok (.istore_n 2, 1) := by decide +kernel
theorem dX2_nearestAtHome_2 : decode cX2_nearestAtHome 2 = .ok (.iconst (-1), 1) := by decide +kernel
theorem dX2_nearestAtHome_3 : decode cX2_nearestAtHome 3 = .ok (.istore_n 3, 1) := by decide +kernel
theorem dX2_nearestAtHome_4 : decode cX2_nearestAtHome 4 = .ok (.iconst 0, 1) := by decide +kernel
theorem dX2_nearestAtHome_5 : decode cX2_nearestAtHome 5 = .ok (.istore 4, 2) := by decide +kernel
theorem dX2_nearestAtHome_7 : decode cX2_nearestAtHome 7 = .ok (.iload 4, 2) := by decide +kernel
theorem dX2_nearestAtHome_9 : decode cX2_nearestAtHome 9 = .ok (.aload_n 0, 1) := by decide +kernel
theorem dX2_nearestAtHome_10 : decode cX2_nearestAtHome 10 = .ok (.getfield 18, 3) := by decide +kernel
theorem dX2_nearestAtHome_13 : decode cX2_nearestAtHome 13 = .ok (.if_icmp .ge 45, 3) := by decide +kernel
theorem dX2_nearestAtHome_16 : decode cX2_nearestAtHome 16 = .ok (.aload_n 0, 1) := by decide +kernel
theorem dX2_nearestAtHome_17 : decode cX2_nearestAtHome 17 = .ok (.getfield 15, 3) := by decide +kernel
theorem dX2_nearestAtHome_20 : decode cX2_nearestAtHome 20 = .ok (.iload 4, 2) := by decide +kernel
theorem dX2_nearestAtHome_22 : decode cX2_nearestAtHome 22 = .ok (.iaload, 1) := by decide +kernel
theorem dX2_nearestAtHome_23 : decode cX2_nearestAtHome 23 = .ok (.ifCond .ne 29, 3) := by decide +kernel
theorem dX2_nearestAtHome_26 : decode cX2_nearestAtHome 26 = .ok (.aload_n 1, 1) := by decide +kernel
theorem dX2_nearestAtHome_27 : decode cX2_nearestAtHome 27 = .ok (.aload_n 0, 1) := by decide +kernel
theorem dX2_nearestAtHome_28 : decode cX2_nearestAtHome 28 = .ok (.getfield 22, 3) := by decide +kernel
theorem dX2_nearestAtHome_31 : decode cX2_nearestAtHome 31 = .ok (.iload 4, 2) := by decide +kernel
theorem dX2_nearestAtHome_33 : decode cX2_nearestAtHome 33 = .ok (.iaload, 1) := by decide +kernel
theorem dX2_nearestAtHome_34 : decode cX2_nearestAtHome 34 = .ok (.iload_n 3, 1) := by decide +kernel
theorem dX2_nearestAtHome_35 : decode cX2_nearestAtHome 35 = .ok (.invokevirtual 36, 3) := by decide +kernel
theorem dX2_nearestAtHome_38 : decode cX2_nearestAtHome 38 = .ok (.ifCond .eq 14, 3) := by decide +kernel
theorem dX2_nearestAtHome_41 : decode cX2_nearestAtHome 41 = .ok (.iload 4, 2) := by decide +kernel
theorem dX2_nearestAtHome_43 : decode cX2_nearestAtHome 43 = .ok (.istore_n 2, 1) := by decide +kernel
theorem dX2_nearestAtHome_44 : decode cX2_nearestAtHome 44 = .ok (.aload_n 0, 1) := by decide +kernel
theorem dX2_nearestAtHome_45 : decode cX2_nearestAtHome 45 = .ok (.getfield 22, 3) := by decide +kernel
theorem dX2_nearestAtHome_48 : decode cX2_nearestAtHome 48 = .ok (.iload 4, 2) := by decide +kernel
theorem dX2_nearestAtHome_50 : decode cX2_nearestAtHome 50 = .ok (.iaload, 1) := by decide +kernel
theorem dX2_nearestAtHome_51 : decode cX2_nearestAtHome 51 = .ok (.istore_n 3, 1) := by decide +kernel
theorem dX2_nearestAtHome_52 : decode cX2_nearestAtHome 52 = .ok (.iinc 4 1, 3) := by decide +kernel
theorem dX2_nearestAtHome_55 : decode cX2_nearestAtHome 55 = .ok (.goto (-48), 3) := by decide +kernel
theorem dX2_nearestAtHome_58 : decode cX2_nearestAtHome 58 = .ok (.iload_n 2, 1) := by decide +kernel
theorem dX2_nearestAtHome_59 : decode cX2_nearestAtHome 59 = .ok (.ireturn, 1) := by decide +kernel
theorem dX2_warnAround_0 : decode cX2_warnAround 0 = .ok (.iconst 0, 1) := by decide +kernel
theorem dX2_warnAround_1 : decode cX2_warnAround 1 = .ok (.istore_n 2, 1) := by decide +kernel
theorem dX2_warnAround_2 : decode cX2_warnAround 2 = .ok (.iconst 0, 1) := by decide +kernel
theorem dX2_warnAround_3 : decode cX2_warnAround 3 = .ok (.istore_n 3, 1) := by decide +kernel
theorem dX2_warnAround_4 : decode cX2_warnAround 4 = .ok (.iload_n 3, 1) := by decide +kernel
theorem dX2_warnAround_5 : decode cX2_warnAround 5 = .ok (.aload_n 0, 1) := by decide +kernel
theorem dX2_warnAround_6 : decode cX2_warnAround 6 = .ok (.getfield 18, 3) := by decide +kernel
theorem dX2_warnAround_9 : decode cX2_warnAround 9 = .ok (.if_icmp .ge 41, 3) := by decide +kernel
theorem dX2_warnAround_12 : decode cX2_warnAround 12 = .ok (.aload_n 0, 1) := by decide +kernel
theorem dX2_warnAround_13 : decode cX2_warnAround 13 = .ok (.getfield 15, 3) := by decide +kernel
theorem dX2_warnAround_16 : decode cX2_warnAround 16 = .ok (.iload_n 3, 1) := by decide +kernel
theorem dX2_warnAround_17 : decode cX2_warnAround 17 = .ok (.iaload, 1) := by decide +kernel
theorem dX2_warnAround_18 : decode cX2_warnAround 18 = .ok (.ifCond .ne 26, 3) := by decide +kernel
theorem dX2_warnAround_21 : decode cX2_warnAround 21 = .ok (.iload_n 1, 1) := by decide +kernel
theorem dX2_warnAround_22 : decode cX2_warnAround 22 = .ok (.aload_n 0, 1) := by decide +kernel
theorem dX2_warnAround_23 : decode cX2_warnAround 23 = .ok (.getfield 22, 3) := by decide +kernel
theorem dX2_warnAround_26 : decode cX2_warnAround 26 = .ok (.iload_n 3, 1) := by decide +kernel
theorem dX2_warnAround_27 : decode cX2_warnAround 27 = .ok (.iaload, 1) := by decide +kernel
theorem dX2_warnAround_28 : decode cX2_warnAround 28 = .ok (.invokestatic 42, 3) := by decide +kernel
theorem dX2_warnAround_31 : decode cX2_warnAround 31 = .ok (.ifCond .eq 13, 3) := by decide +kernel
theorem dX2_warnAround_34 : decode cX2_warnAround 34 = .ok (.aload_n 0, 1) := by decide +kernel
theorem dX2_warnAround_35 : decode cX2_warnAround 35 = .ok (.getfield 15, 3) := by decide +kernel
theorem dX2_warnAround_38 : decode cX2_warnAround 38 = .ok (.iload_n 3, 1) := by decide +kernel
theorem dX2_warnAround_39 : decode cX2_warnAround 39 = .ok (.iconst 1, 1) := by decide +kernel
theorem dX2_warnAround_40 : decode cX2_warnAround 40 = .ok (.iastore, 1) := by decide +kernel
theorem dX2_warnAround_41 : decode cX2_warnAround 41 = .ok (.iinc 2 1, 3) := by decide +kernel
theorem dX2_warnAround_44 : decode cX2_warnAround 44 = .ok (.iinc 3 1, 3) := by decide +kernel
theorem dX2_warnAround_47 : decode cX2_warnAround 47 = .ok (.goto (-43), 3) := by decide +kernel
theorem dX2_warnAround_50 : decode cX2_warnAround 50 = .ok (.iload_n 2, 1) := by decide +kernel
theorem dX2_warnAround_51 : decode cX2_warnAround 51 = .ok (.ireturn, 1) := by decide +kernel
theorem dX2_goToRefuges_0 : decode cX2_goToRefuges 0 = .ok (.iconst 0, 1) := by decide +kernel
theorem dX2_goToRefuges_1 : decode cX2_goToRefuges 1 = .ok (.istore 4, 2) := by decide +kernel
theorem dX2_goToRefuges_3 : decode cX2_goToRefuges 3 = .ok (.iload 4, 2) := by decide +kernel
theorem dX2_goToRefuges_5 : decode cX2_goToRefuges 5 = .ok (.aload_n 0, 1) := by decide +kernel
theorem dX2_goToRefuges_6 : decode cX2_goToRefuges 6 = .ok (.getfield 18, 3) := by decide +kernel
theorem dX2_goToRefuges_9 : decode cX2_goToRefuges 9 = .ok (.if_icmp .ge 78, 3) := by decide +kernel
theorem dX2_goToRefuges_12 : decode cX2_goToRefuges 12 = .ok (.aload_n 0, 1) := by decide +kernel
theorem dX2_goToRefuges_13 : decode cX2_goToRefuges 13 = .ok (.getfield 15, 3) := by decide +kernel
theorem dX2_goToRefuges_16 : decode cX2_goToRefuges 16 = .ok (.iload 4, 2) := by decide +kernel
theorem dX2_goToRefuges_18 : decode cX2_goToRefuges 18 = .ok (.iaload, 1) := by decide +kernel
theorem dX2_goToRefuges_19 : decode cX2_goToRefuges 19 = .ok (.iconst 1, 1) := by decide +kernel
theorem dX2_goToRefuges_20 : decode cX2_goToRefuges 20 = .ok (.if_icmp .ne 61, 3) := by decide +kernel
theorem dX2_goToRefuges_23 : decode cX2_goToRefuges 23 = .ok (.aload_n 2, 1) := by decide +kernel
theorem dX2_goToRefuges_24 : decode cX2_goToRefuges 24 = .ok (.aload_n 0, 1) := by decide +kernel
theorem dX2_goToRefuges_25 : decode cX2_goToRefuges 25 = .ok (.getfield 22, 3) := by decide +kernel
theorem dX2_goToRefuges_28 : decode cX2_goToRefuges 28 = .ok (.iload 4, 2) := by decide +kernel
theorem dX2_goToRefuges_30 : decode cX2_goToRefuges 30 = .ok (.iaload, 1) := by decide +kernel
theorem dX2_goToRefuges_31 : decode cX2_goToRefuges 31 = .ok (.aload_n 3, 1) := by decide +kernel
theorem dX2_goToRefuges_32 : decode cX2_goToRefuges 32 = .ok (.invokevirtual 47, 3) := by decide +kernel
theorem dX2_goToRefuges_35 : decode cX2_goToRefuges 35 = .ok (.aload_n 1, 1) := by decide +kernel
theorem dX2_goToRefuges_36 : decode cX2_goToRefuges 36 = .ok (.aload_n 0, 1) := by decide +kernel
theorem dX2_goToRefuges_37 : decode cX2_goToRefuges 37 = .ok (.getfield 9, 3) := by decide +kernel
theorem dX2_goToRefuges_40 : decode cX2_goToRefuges 40 = .ok (.iload 4, 2) := by decide +kernel
theorem dX2_goToRefuges_42 : decode cX2_goToRefuges 42 = .ok (.iaload, 1) := by decide +kernel
theorem dX2_goToRefuges_43 : decode cX2_goToRefuges 43 = .ok (.aload_n 2, 1) := by decide +kernel
theorem dX2_goToRefuges_44 : decode cX2_goToRefuges 44 = .ok (.invokevirtual 51, 3) := by decide +kernel
theorem dX2_goToRefuges_47 : decode cX2_goToRefuges 47 = .ok (.istore 5, 2) := by decide +kernel
theorem dX2_goToRefuges_49 : decode cX2_goToRefuges 49 = .ok (.iload 5, 2) := by decide +kernel
theorem dX2_goToRefuges_51 : decode cX2_goToRefuges 51 = .ok (.iconst (-1), 1) := by decide +kernel
theorem dX2_goToRefuges_52 : decode cX2_goToRefuges 52 = .ok (.if_icmp .eq 22, 3) := by decide +kernel
theorem dX2_goToRefuges_55 : decode cX2_goToRefuges 55 = .ok (.aload_n 0, 1) := by decide +kernel
theorem dX2_goToRefuges_56 : decode cX2_goToRefuges 56 = .ok (.getfield 22, 3) := by decide +kernel
theorem dX2_goToRefuges_59 : decode cX2_goToRefuges 59 = .ok (.iload 4, 2) := by decide +kernel
theorem dX2_goToRefuges_61 : decode cX2_goToRefuges 61 = .ok (.aload_n 2, 1) := by decide +kernel
theorem dX2_goToRefuges_62 : decode cX2_goToRefuges 62 = .ok (.getfield 57, 3) := by decide +kernel
theorem dX2_goToRefuges_65 : decode cX2_goToRefuges 65 = .ok (.aload_n 1, 1) := by decide +kernel
theorem dX2_goToRefuges_66 : decode cX2_goToRefuges 66 = .ok (.getfield 60, 3) := by decide +kernel
theorem dX2_goToRefuges_69 : decode cX2_goToRefuges 69 = .ok (.iload 5, 2) := by decide +kernel
theorem dX2_goToRefuges_71 : decode cX2_goToRefuges 71 = .ok (.iaload, 1) := by decide +kernel
theorem dX2_goToRefuges_72 : decode cX2_goToRefuges 72 = .ok (.iaload, 1) := by decide +kernel
theorem dX2_goToRefuges_73 : decode cX2_goToRefuges 73 = .ok (.iastore, 1) := by decide +kernel
theorem dX2_goToRefuges_74 : decode cX2_goToRefuges 74 = .ok (.aload_n 0, 1) := by decide +kernel
theorem dX2_goToRefuges_75 : decode cX2_goToRefuges 75 = .ok (.iload 4, 2) := by decide +kernel
theorem dX2_goToRefuges_77 : decode cX2_goToRefuges 77 = .ok (.aload_n 1, 1) := by decide +kernel
theorem dX2_goToRefuges_78 : decode cX2_goToRefuges 78 = .ok (.invokevirtual 61, 3) := by decide +kernel
theorem dX2_goToRefuges_81 : decode cX2_goToRefuges 81 = .ok (.iinc 4 1, 3) := by decide +kernel
theorem dX2_goToRefuges_84 : decode cX2_goToRefuges 84 = .ok (.goto (-81), 3) := by decide +kernel
theorem dX2_goToRefuges_87 : decode cX2_goToRefuges 87 = .ok (.return_, 1) := by decide +kernel
theorem dX2_enterRefuge_0 : decode cX2_enterRefuge 0 = .ok (.aload_n 2, 1) := by decide +kernel
theorem dX2_enterRefuge_1 : decode cX2_enterRefuge 1 = .ok (.aload_n 0, 1) := by decide +kernel
theorem dX2_enterRefuge_2 : decode cX2_enterRefuge 2 = .ok (.getfield 22, 3) := by decide +kernel
theorem dX2_enterRefuge_5 : decode cX2_enterRefuge 5 = .ok (.iload_n 1, 1) := by decide +kernel
theorem dX2_enterRefuge_6 : decode cX2_enterRefuge 6 = .ok (.iaload, 1) := by decide +kernel
theorem dX2_enterRefuge_7 : decode cX2_enterRefuge 7 = .ok (.invokevirtual 65, 3) := by decide +kernel
theorem dX2_enterRefuge_10 : decode cX2_enterRefuge 10 = .ok (.istore_n 3, 1) := by decide +kernel
theorem dX2_enterRefuge_11 : decode cX2_enterRefuge 11 = .ok (.iload_n 3, 1) := by decide +kernel
theorem dX2_enterRefuge_12 : decode cX2_enterRefuge 12 = .ok (.iconst (-1), 1) := by decide +kernel
theorem dX2_enterRefuge_13 : decode cX2_enterRefuge 13 = .ok (.if_icmp .eq 35, 3) := by decide +kernel
theorem dX2_enterRefuge_16 : decode cX2_enterRefuge 16 = .ok (.aload_n 2, 1) := by decide +kernel
theorem dX2_enterRefuge_17 : decode cX2_enterRefuge 17 = .ok (.iload_n 3, 1) := by decide +kernel
theorem dX2_enterRefuge_18 : decode cX2_enterRefuge 18 = .ok (.aload_n 0, 1) := by decide +kernel
theorem dX2_enterRefuge_19 : decode cX2_enterRefuge 19 = .ok (.getfield 9, 3) := by decide +kernel
theorem dX2_enterRefuge_22 : decode cX2_enterRefuge 22 = .ok (.iload_n 1, 1) := by decide +kernel
theorem dX2_enterRefuge_23 : decode cX2_enterRefuge 23 = .ok (.iaload, 1) := by decide +kernel
theorem dX2_enterRefuge_24 : decode cX2_enterRefuge 24 = .ok (.invokevirtual 69, 3) := by decide +kernel
theorem dX2_enterRefuge_27 : decode cX2_enterRefuge 27 = .ok (.ifCond .eq 21, 3) := by decide +kernel
theorem dX2_enterRefuge_30 : decode cX2_enterRefuge 30 = .ok (.aload_n 2, 1) := by decide +kernel
theorem dX2_enterRefuge_31 : decode cX2_enterRefuge 31 = .ok (.iload_n 3, 1) := by decide +kernel
theorem dX2_enterRefuge_32 : decode cX2_enterRefuge 32 = .ok (.aload_n 0, 1) := by decide +kernel
theorem dX2_enterRefuge_33 : decode cX2_enterRefuge 33 = .ok (.getfield 9, 3) := by decide +kernel
theorem dX2_enterRefuge_36 : decode cX2_enterRefuge 36 = .ok (.iload_n 1, 1) := by decide +kernel
theorem dX2_enterRefuge_37 : decode cX2_enterRefuge 37 = .ok (.iaload, 1) := by decide +kernel
theorem dX2_enterRefuge_38 : decode cX2_enterRefuge 38 = .ok (.invokevirtual 72, 3) := by decide +kernel
theorem dX2_enterRefuge_41 : decode cX2_enterRefuge 41 = .ok (.aload_n 0, 1) := by decide +kernel
theorem dX2_enterRefuge_42 : decode cX2_enterRefuge 42 = .ok (.getfield 15, 3) := by decide +kernel
theorem dX2_enterRefuge_45 : decode cX2_enterRefuge 45 = .ok (.iload_n 1, 1) := by decide +kernel
theorem dX2_enterRefuge_46 : decode cX2_enterRefuge 46 = .ok (.iconst 2, 1) := by decide +kernel
theorem dX2_enterRefuge_47 : decode cX2_enterRefuge 47 = .ok (.iastore, 1) := by decide +kernel
theorem dX2_enterRefuge_48 : decode cX2_enterRefuge 48 = .ok (.return_, 1) := by decide +kernel
theorem dX2_drown_0 : decode cX2_drown 0 = .ok (.iconst 0, 1) := by decide +kernel
theorem dX2_drown_1 : decode cX2_drown 1 = .ok (.istore_n 2, 1) := by decide +kernel
theorem dX2_drown_2 : decode cX2_drown 2 = .ok (.iload_n 2, 1) := by decide +kernel
theorem dX2_drown_3 : decode cX2_drown 3 = .ok (.aload_n 0, 1) := by decide +kernel
theorem dX2_drown_4 : decode cX2_drown 4 = .ok (.getfield 18, 3) := by decide +kernel
theorem dX2_drown_7 : decode cX2_drown 7 = .ok (.if_icmp .ge 68, 3) := by decide +kernel
theorem dX2_drown_10 : decode cX2_drown 10 = .ok (.aload_n 0, 1) := by decide +kernel
theorem dX2_drown_11 : decode cX2_drown 11 = .ok (.iload_n 2, 1) := by decide +kernel
theorem dX2_drown_12 : decode cX2_drown 12 = .ok (.invokevirtual 32, 3) := by decide +kernel
theorem dX2_drown_15 : decode cX2_drown 15 = .ok (.ifCond .eq 54, 3) := by decide +kernel
theorem dX2_drown_18 : decode cX2_drown 18 = .ok (.aload_n 1, 1) := by decide +kernel
theorem dX2_drown_19 : decode cX2_drown 19 = .ok (.getfield 76, 3) := by decide +kernel
theorem dX2_drown_22 : decode cX2_drown 22 = .ok (.aload_n 0, 1) := by decide +kernel
theorem dX2_drown_23 : decode cX2_drown 23 = .ok (.getfield 22, 3) := by decide +kernel
theorem dX2_drown_26 : decode cX2_drown 26 = .ok (.iload_n 2, 1) := by decide +kernel
theorem dX2_drown_27 : decode cX2_drown 27 = .ok (.iaload, 1) := by decide +kernel
theorem dX2_drown_28 : decode cX2_drown 28 = .ok (.iaload, 1) := by decide +kernel
theorem dX2_drown_29 : decode cX2_drown 29 = .ok (.iconst 5, 1) := by decide +kernel
theorem dX2_drown_30 : decode cX2_drown 30 = .ok (.if_icmp .lt 39, 3) := by decide +kernel
theorem dX2_drown_33 : decode cX2_drown 33 = .ok (.aload_n 0, 1) := by decide +kernel
theorem dX2_drown_34 : decode cX2_drown 34 = .ok (.getfield 9, 3) := by decide +kernel
theorem dX2_drown_37 : decode cX2_drown 37 = .ok (.iload_n 2, 1) := by decide +kernel
theorem dX2_drown_38 : decode cX2_drown 38 = .ok (.dup2, 1) := by decide +kernel
theorem dX2_drown_39 : decode cX2_drown 39 = .ok (.iaload, 1) := by decide +kernel
theorem dX2_drown_40 : decode cX2_drown 40 = .ok (.iconst 1, 1) := by decide +kernel
theorem dX2_drown_41 : decode cX2_drown 41 = .ok (.isub, 1) := by decide +kernel
theorem dX2_drown_42 : decode cX2_drown 42 = .ok (.iastore, 1) := by decide +kernel
theorem dX2_drown_43 : decode cX2_drown 43 = .ok (.aload_n 0, 1) := by decide +kernel
theorem dX2_drown_44 : decode cX2_drown 44 = .ok (.dup, 1) := by decide +kernel
theorem dX2_drown_45 : decode cX2_drown 45 = .ok (.getfield 29, 3) := by decide +kernel
theorem dX2_drown_48 : decode cX2_drown 48 = .ok (.iconst 1, 1) := by decide +kernel
theorem dX2_drown_49 : decode cX2_drown 49 = .ok (.iadd, 1) := by decide +kernel
theorem dX2_drown_50 : decode cX2_drown 50 = .ok (.putfield 29, 3) := by decide +kernel
theorem dX2_drown_53 : decode cX2_drown 53 = .ok (.aload_n 0, 1) := by decide +kernel
theorem dX2_drown_54 : decode cX2_drown 54 = .ok (.getfield 9, 3) := by decide +kernel
theorem dX2_drown_57 : decode cX2_drown 57 = .ok (.iload_n 2, 1) := by decide +kernel
theorem dX2_drown_58 : decode cX2_drown 58 = .ok (.iaload, 1) := by decide +kernel
theorem dX2_drown_59 : decode cX2_drown 59 = .ok (.ifCond .gt 10, 3) := by decide +kernel
theorem dX2_drown_62 : decode cX2_drown 62 = .ok (.aload_n 0, 1) := by decide +kernel
theorem dX2_drown_63 : decode cX2_drown 63 = .ok (.getfield 15, 3) := by decide +kernel
theorem dX2_drown_66 : decode cX2_drown 66 = .ok (.iload_n 2, 1) := by decide +kernel
theorem dX2_drown_67 : decode cX2_drown 67 = .ok (.iconst 3, 1) := by decide +kernel
theorem dX2_drown_68 : decode cX2_drown 68 = .ok (.iastore, 1) := by decide +kernel
theorem dX2_drown_69 : decode cX2_drown 69 = .ok (.iinc 2 1, 3) := by decide +kernel
theorem dX2_drown_72 : decode cX2_drown 72 = .ok (.goto (-70), 3) := by decide +kernel
theorem dX2_drown_75 : decode cX2_drown 75 = .ok (.return_, 1) := by decide +kernel
theorem dX3_init_0 : decode cX3_init 0 = .ok (.aload_n 0, 1) := by decide +kernel
theorem dX3_init_1 : decode cX3_init 1 = .ok (.invokespecial 3, 3) := by decide +kernel
theorem dX3_init_4 : decode cX3_init 4 = .ok (.aload_n 0, 1) := by decide +kernel
theorem dX3_init_5 : decode cX3_init 5 = .ok (.bipush 80, 2) := by decide +kernel
theorem dX3_init_7 : decode cX3_init 7 = .ok (.newarray .int, 2) := by decide +kernel
theorem dX3_init_9 : decode cX3_init 9 = .ok (.putfield 9, 3) := by decide +kernel
theorem dX3_init_12 : decode cX3_init 12 = .ok (.aload_n 0, 1) := by decide +kernel
theorem dX3_init_13 : decode cX3_init 13 = .ok (.bipush 80, 2) := by decide +kernel
theorem dX3_init_15 : decode cX3_init 15 = .ok (.newarray .int, 2) := by decide +kernel
theorem dX3_init_17 : decode cX3_init 17 = .ok (.putfield 15, 3) := by decide +kernel
theorem dX3_init_20 : decode cX3_init 20 = .ok (.aload_n 0, 1) := by decide +kernel
theorem dX3_init_21 : decode cX3_init 21 = .ok (.bipush 80, 2) := by decide +kernel
theorem dX3_init_23 : decode cX3_init 23 = .ok (.newarray .int, 2) := by decide +kernel
theorem dX3_init_25 : decode cX3_init 25 = .ok (.putfield 18, 3) := by decide +kernel
theorem dX3_init_28 : decode cX3_init 28 = .ok (.aload_n 0, 1) := by decide +kernel
theorem dX3_init_29 : decode cX3_init 29 = .ok (.bipush 80, 2) := by decide +kernel
theorem dX3_init_31 : decode cX3_init 31 = .ok (.newarray .int, 2) := by decide +kernel
theorem dX3_init_33 : decode cX3_init 33 = .ok (.putfield 21, 3) := by decide +kernel
theorem dX3_init_36 : decode cX3_init 36 = .ok (.aload_n 0, 1) := by decide +kernel
theorem dX3_init_37 : decode cX3_init 37 = .ok (.bipush 12, 2) := by decide +kernel
theorem dX3_init_39 : decode cX3_init 39 = .ok (.newarray .int, 2) := by decide +kernel
theorem dX3_init_41 : decode cX3_init 41 = .ok (.putfield 24, 3) := by decide +kernel
theorem dX3_init_44 : decode cX3_init 44 = .ok (.iconst 0, 1) := by decide +kernel
theorem dX3_init_45 : decode cX3_init 45 = .ok (.istore_n 1, 1) := by decide +kernel
theorem dX3_init_46 : decode cX3_init 46 = .ok (.iload_n 1, 1) := by decide +kernel
theorem dX3_init_47 : decode cX3_init 47 = .ok (.bipush 80, 2) := by decide +kernel
theorem dX3_init_49 : decode cX3_init 49 = .ok (.if_icmp .ge 16, 3) := by decide +kernel
theorem dX3_init_52 : decode cX3_init 52 = .ok (.aload_n 0, 1) := by decide +kernel
theorem dX3_init_53 : decode cX3_init 53 = .ok (.getfield 9, 3) := by decide +kernel
theorem dX3_init_56 : decode cX3_init 56 = .ok (.iload_n 1, 1) := by decide +kernel
theorem dX3_init_57 : decode cX3_init 57 = .ok (.iconst 2, 1) := by decide +kernel
theorem dX3_init_58 : decode cX3_init 58 = .ok (.iastore, 1) := by decide +kernel
theorem dX3_init_59 : decode cX3_init 59 = .ok (.iinc 1 1, 3) := by decide +kernel
theorem dX3_init_62 : decode cX3_init 62 = .ok (.goto (-16), 3) := by decide +kernel
theorem dX3_init_65 : decode cX3_init 65 = .ok (.return_, 1) := by decide +kernel
theorem dX3_copyFrom_0 : decode cX3_copyFrom 0 = .ok (.aload_n 1, 1) := by decide +kernel
theorem dX3_copyFrom_1 : decode cX3_copyFrom 1 = .ok (.getfield 9, 3) := by decide +kernel
theorem dX3_copyFrom_4 : decode cX3_copyFrom 4 = .ok (.iconst 0, 1) := by decide +kernel
theorem dX3_copyFrom_5 : decode cX3_copyFrom 5 = .ok (.aload_n 0, 1) := by decide +kernel
theorem dX3_copyFrom_6 : decode cX3_copyFrom 6 = .ok (.getfield 9, 3) := by decide +kernel
theorem dX3_copyFrom_9 : decode cX3_copyFrom 9 = .ok (.iconst 0, 1) := by decide +kernel
theorem dX3_copyFrom_10 : decode cX3_copyFrom 10 = .ok (.bipush 80, 2) := by decide +kernel
theorem dX3_copyFrom_12 : decode cX3_copyFrom 12 = .ok (.invokestatic 27, 3) := by decide +kernel
theorem dX3_copyFrom_15 : decode cX3_copyFrom 15 = .ok (.aload_n 1, 1) := by decide +kernel
theorem dX3_copyFrom_16 : decode cX3_copyFrom 16 = .ok (.getfield 15, 3) := by decide +kernel
theorem dX3_copyFrom_19 : decode cX3_copyFrom 19 = .ok (.iconst 0, 1) := by decide +kernel
theorem dX3_copyFrom_20 : decode cX3_copyFrom 20 = .ok (.aload_n 0, 1) := by decide +kernel
theorem dX3_copyFrom_21 : decode cX3_copyFrom 21 = .ok (.getfield 15, 3) := by decide +kernel
theorem dX3_copyFrom_24 : decode cX3_copyFrom 24 = .ok (.iconst 0, 1) := by decide +kernel
theorem dX3_copyFrom_25 : decode cX3_copyFrom 25 = .ok (.bipush 80, 2) := by decide +kernel
theorem dX3_copyFrom_27 : decode cX3_copyFrom 27 = .ok (.invokestatic 27, 3) := by decide +kernel
theorem dX3_copyFrom_30 : decode cX3_copyFrom 30 = .ok (.aload_n 1, 1) := by decide +kernel
theorem dX3_copyFrom_31 : decode cX3_copyFrom 31 = .ok (.getfield 18, 3) := by decide +kernel
theorem dX3_copyFrom_34 : decode cX3_copyFrom 34 = .ok (.iconst 0, 1) := by decide +kernel
theorem dX3_copyFrom_35 : decode cX3_copyFrom 35 = .ok (.aload_n 0, 1) := by decide +kernel
theorem dX3_copyFrom_36 : decode cX3_copyFrom 36 = .ok (.getfield 18, 3) := by decide +kernel
theorem dX3_copyFrom_39 : decode cX3_copyFrom 39 = .ok (.iconst 0, 1) := by decide +kernel
theorem dX3_copyFrom_40 : decode cX3_copyFrom 40 = .ok (.bipush 80, 2) := by decide +kernel
theorem dX3_copyFrom_42 : decode cX3_copyFrom 42 = .ok (.invokestatic 27, 3) := by decide +kernel
theorem dX3_copyFrom_45 : decode cX3_copyFrom 45 = .ok (.aload_n 1, 1) := by decide +kernel
theorem dX3_copyFrom_46 : decode cX3_copyFrom 46 = .ok (.getfield 24, 3) := by decide +kernel
theorem dX3_copyFrom_49 : decode cX3_copyFrom 49 = .ok (.iconst 0, 1) := by decide +kernel
theorem dX3_copyFrom_50 : decode cX3_copyFrom 50 = .ok (.aload_n 0, 1) := by decide +kernel
theorem dX3_copyFrom_51 : decode cX3_copyFrom 51 = .ok (.getfield 24, 3) := by decide +kernel
theorem dX3_copyFrom_54 : decode cX3_copyFrom 54 = .ok (.iconst 0, 1) := by decide +kernel
theorem dX3_copyFrom_55 : decode cX3_copyFrom 55 = .ok (.bipush 12, 2) := by decide +kernel
theorem dX3_copyFrom_57 : decode cX3_copyFrom 57 = .ok (.invokestatic 27, 3) := by decide +kernel
theorem dX3_copyFrom_60 : decode cX3_copyFrom 60 = .ok (.return_, 1) := by decide +kernel
theorem dX3_neighbourOf_0 : decode cX3_neighbourOf 0 = .ok (.iload_n 1, 1) := by decide +kernel
theorem dX3_neighbourOf_1 : decode cX3_neighbourOf 1 = .ok (.tableswitch 74 0 2 #[27, 42, 59], 27) := by decide +kernel
theorem dX3_neighbourOf_28 : decode cX3_neighbourOf 28 = .ok (.iload_n 0, 1) := by decide +kernel
theorem dX3_neighbourOf_29 : decode cX3_neighbourOf 29 = .ok (.bipush 10, 2) := by decide +kernel
theorem dX3_neighbourOf_31 : decode cX3_neighbourOf 31 = .ok (.if_icmp .lt 10, 3) := by decide +kernel
theorem dX3_neighbourOf_34 : decode cX3_neighbourOf 34 = .ok (.iload_n 0, 1) := by decide +kernel
theorem dX3_neighbourOf_35 : decode cX3_neighbourOf 35 = .ok (.bipush 10, 2) := by decide +kernel
theorem dX3_neighbourOf_37 : decode cX3_neighbourOf 37 = .ok (.isub, 1) := by decide +kernel
theorem dX3_neighbourOf_38 : decode cX3_neighbourOf 38 = .ok (.goto 4, 3) := by decide +kernel
theorem dX3_neighbourOf_41 : decode cX3_neighbourOf 41 = .ok (.iconst (-1), 1) := by decide +kernel
theorem dX3_neighbourOf_42 : decode cX3_neighbourOf 42 = .ok (.ireturn, 1) := by decide +kernel
theorem dX3_neighbourOf_43 : decode cX3_neighbourOf 43 = .ok (.iload_n 0, 1) := by decide +kernel
theorem dX3_neighbourOf_44 : decode cX3_neighbourOf 44 = .ok (.bipush 10, 2) := by decide +kernel
theorem dX3_neighbourOf_46 : decode cX3_neighbourOf 46 = .ok (.irem, 1) := by decide +kernel
theorem dX3_neighbourOf_47 : decode cX3_neighbourOf 47 = .ok (.bipush 9, 2) := by decide +kernel
theorem dX3_neighbourOf_49 : decode cX3_neighbourOf 49 = .ok (.if_icmp .ge 9, 3) := by decide +kernel
theorem dX3_neighbourOf_52 : decode cX3_neighbourOf 52 = .ok (.iload_n 0, 1) := by decide +kernel
theorem dX3_neighbourOf_53 : decode cX3_neighbourOf 53 = .ok (.iconst 1, 1) := by decide +kernel
theorem dX3_neighbourOf_54 : decode cX3_neighbourOf 54 = .ok (.iadd, 1) := by decide +kernel
theorem dX3_neighbourOf_55 : decode cX3_neighbourOf 55 = .ok (.goto 4, 3) := by decide +kernel
theorem dX3_neighbourOf_58 : decode cX3_neighbourOf 58 = .ok (.iconst (-1), 1) := by decide +kernel
theorem dX3_neighbourOf_59 : decode cX3_neighbourOf 59 = .ok (.ireturn, 1) := by decide +kernel
theorem dX3_neighbourOf_60 : decode cX3_neighbourOf 60 = .ok (.iload_n 0, 1) := by decide +kernel
theorem dX3_neighbourOf_61 : decode cX3_neighbourOf 61 = .ok (.bipush 70, 2) := by decide +kernel
theorem dX3_neighbourOf_63 : decode cX3_neighbourOf 63 = .ok (.if_icmp .ge 10, 3) := by decide +kernel
theorem dX3_neighbourOf_66 : decode cX3_neighbourOf 66 = .ok (.iload_n 0, 1) := by decide +kernel
theorem dX3_neighbourOf_67 : decode cX3_neighbourOf 67 = .ok (.bipush 10, 2) := by decide +kernel
theorem dX3_neighbourOf_69 : decode cX3_neighbourOf 69 = .ok (.iadd, 1) := by decide +kernel
theorem dX3_neighbourOf_70 : decode cX3_neighbourOf 70 = .ok (.goto 4, 3) := by decide +kernel
theorem dX3_neighbourOf_73 : decode cX3_neighbourOf 73 = .ok (.iconst (-1), 1) := by decide +kernel
theorem dX3_neighbourOf_74 : decode cX3_neighbourOf 74 = .ok (.ireturn, 1) := by decide +kernel
theorem dX3_neighbourOf_75 : decode cX3_neighbourOf 75 = .ok (.iload_n 0, 1) := by decide +kernel
theorem dX3_neighbourOf_76 : decode cX3_neighbourOf 76 = .ok (.bipush 10, 2) := by decide +kernel
theorem dX3_neighbourOf_78 : decode cX3_neighbourOf 78 = .ok (.irem, 1) := by decide +kernel
theorem dX3_neighbourOf_79 : decode cX3_neighbourOf 79 = .ok (.ifCond .le 9, 3) := by decide +kernel
theorem dX3_neighbourOf_82 : decode cX3_neighbourOf 82 = .ok (.iload_n 0, 1) := by decide +kernel
theorem dX3_neighbourOf_83 : decode cX3_neighbourOf 83 = .ok (.iconst 1, 1) := by decide +kernel
theorem dX3_neighbourOf_84 : decode cX3_neighbourOf 84 = .ok (.isub, 1) := by decide +kernel
theorem dX3_neighbourOf_85 : decode cX3_neighbourOf 85 = .ok (.goto 4, 3) := by decide +kernel
theorem dX3_neighbourOf_88 : decode cX3_neighbourOf 88 = .ok (.iconst (-1), 1) := by decide +kernel
theorem dX3_neighbourOf_89 : decode cX3_neighbourOf 89 = .ok (.ireturn, 1) := by decide +kernel
theorem dX3_isSameOrNeighbour_0 : decode cX3_isSameOrNeighbour 0 = .ok (.iload_n 0, 1) := by decide +kernel
theorem dX3_isSameOrNeighbour_1 : decode cX3_isSameOrNeighbour 1 = .ok (.iload_n 1, 1) := by decide +kernel
theorem dX3_isSameOrNeighbour_2 : decode cX3_isSameOrNeighbour 2 = .ok (.if_icmp .ne 7, 3) := by decide +kernel
theorem dX3_isSameOrNeighbour_5 : decode cX3_isSameOrNeighbour 5 = .ok (.iconst 1, 1) := by decide +kernel
theorem dX3_isSameOrNeighbour_6 : decode cX3_isSameOrNeighbour 6 = .ok (.goto 4, 3) := by decide +kernel
theorem dX3_isSameOrNeighbour_9 : decode cX3_isSameOrNeighbour 9 = .ok (.iconst 0, 1) := by decide +kernel
theorem dX3_isSameOrNeighbour_10 : decode cX3_isSameOrNeighbour 10 = .ok (.istore_n 2, 1) := by decide +kernel
theorem dX3_isSameOrNeighbour_11 : decode cX3_isSameOrNeighbour 11 = .ok (.iconst 0, 1) := by decide +kernel
theorem dX3_isSameOrNeighbour_12 : decode cX3_isSameOrNeighbour 12 = .ok (.istore_n 3, 1) := by decide +kernel
theorem dX3_isSameOrNeighbour_13 : decode cX3_isSameOrNeighbour 13 = .ok (.iload_n 3, 1) := by decide +kernel
theorem dX3_isSameOrNeighbour_14 : decode cX3_isSameOrNeighbour 14 = .ok (.iconst 4, 1) := by decide +kernel
theorem dX3_isSameOrNeighbour_15 : decode cX3_isSameOrNeighbour 15 = .ok (.if_icmp .ge 28, 3) := by decide +kernel
theorem dX3_isSameOrNeighbour_18 : decode cX3_isSameOrNeighbour 18 = .ok (.iload_n 2, 1) := by decide +kernel
theorem dX3_isSameOrNeighbour_19 : decode cX3_isSameOrNeighbour 19 = .ok (.ifCond .ne 12, 3) := by decide +kernel
theorem dX3_isSameOrNeighbour_22 : decode cX3_isSameOrNeighbour 22 = .ok (.iload_n 0, 1) := by decide +kernel
theorem dX3_isSameOrNeighbour_23 : decode cX3_isSameOrNeighbour 23 = .ok (.iload_n 3, 1) := by decide +kernel
theorem dX3_isSameOrNeighbour_24 : decode cX3_isSameOrNeighbour 24 = .ok (.invokestatic 33, 3) := by decide +kernel
theorem dX3_isSameOrNeighbour_27 : decode cX3_isSameOrNeighbour 27 = .ok (.iload_n 1, 1) := by decide +kernel
theorem dX3_isSameOrNeighbour_28 : decode cX3_isSameOrNeighbour 28 = .ok (.if_icmp .ne 7, 3) := by decide +kernel
theorem dX3_isSameOrNeighbour_31 : decode cX3_isSameOrNeighbour 31 = .ok (.iconst 1, 1) := by decide +kernel
theorem dX3_isSameOrNeighbour_32 : decode cX3_isSameOrNeighbour 32 = .ok (.goto 4, 3) := by decide +kernel
theorem dX3_isSameOrNeighbour_35 : decode cX3_isSameOrNeighbour 35 = .ok (.iconst 0, 1) := by decide +kernel
theorem dX3_isSameOrNeighbour_36 : decode cX3_isSameOrNeighbour 36 = .ok (.istore_n 2, 1) := by decide +kernel
theorem dX3_isSameOrNeighbour_37 : decode cX3_isSameOrNeighbour 37 = .ok (.iinc 3 1, 3) := by decide +kernel
theorem dX3_isSameOrNeighbour_40 : decode cX3_isSameOrNeighbour 40 = .ok (.goto (-27), 3) := by decide +kernel
theorem dX3_isSameOrNeighbour_43 : decode cX3_isSameOrNeighbour 43 = .ok (.iload_n 2, 1) := by decide +kernel
theorem dX3_isSameOrNeighbour_44 : decode cX3_isSameOrNeighbour 44 = .ok (.ireturn, 1) := by decide +kernel
theorem dX3_level_0 : decode cX3_level 0 = .ok (.aload_n 0, 1) := by decide +kernel
theorem dX3_level_1 : decode cX3_level 1 = .ok (.getfield 9, 3) := by decide +kernel
theorem dX3_level_4 : decode cX3_level 4 = .ok (.iload_n 1, 1) := by decide +kernel
theorem dX3_level_5 : decode cX3_level 5 = .ok (.iaload, 1) := by decide +kernel
theorem dX3_level_6 : decode cX3_level 6 = .ok (.aload_n 0, 1) := by decide +kernel
theorem dX3_level_7 : decode cX3_level 7 = .ok (.getfield 15, 3) := by decide +kernel
theorem dX3_level_10 : decode cX3_level 10 = .ok (.iload_n 1, 1) := by decide +kernel
theorem dX3_level_11 : decode cX3_level 11 = .ok (.iaload, 1) := by decide +kernel
theorem dX3_level_12 : decode cX3_level 12 = .ok (.iadd, 1) := by decide +kernel
theorem dX3_level_13 : decode cX3_level 13 = .ok (.aload_n 0, 1) := by decide +kernel
theorem dX3_level_14 : decode cX3_level 14 = .ok (.getfield 18, 3) := by decide +kernel
theorem dX3_level_17 : decode cX3_level 17 = .ok (.iload_n 1, 1) := by decide +kernel
theorem dX3_level_18 : decode cX3_level 18 = .ok (.iaload, 1) := by decide +kernel
theorem dX3_level_19 : decode cX3_level 19 = .ok (.iadd, 1) := by decide +kernel
theorem dX3_level_20 : decode cX3_level 20 = .ok (.ireturn, 1) := by decide +kernel
theorem dX3_isWalkable_0 : decode cX3_isWalkable 0 = .ok (.aload_n 0, 1) := by decide +kernel
theorem dX3_isWalkable_1 : decode cX3_isWalkable 1 = .ok (.getfield 18, 3) := by decide +kernel
theorem dX3_isWalkable_4 : decode cX3_isWalkable 4 = .ok (.iload_n 1, 1) := by decide +kernel
theorem dX3_isWalkable_5 : decode cX3_isWalkable 5 = .ok (.iaload, 1) := by decide +kernel
theorem dX3_isWalkable_6 : decode cX3_isWalkable 6 = .ok (.iconst 3, 1) := by decide +kernel
theorem dX3_isWalkable_7 : decode cX3_isWalkable 7 = .ok (.if_icmp .ge 7, 3) := by decide +kernel
theorem dX3_isWalkable_10 : decode cX3_isWalkable 10 = .ok (.iconst 1, 1) := by decide +kernel
theorem dX3_isWalkable_11 : decode cX3_isWalkable 11 = .ok (.goto 4, 3) := by decide +kernel
theorem dX3_isWalkable_14 : decode cX3_isWalkable 14 = .ok (.iconst 0, 1) := by decide +kernel
theorem dX3_isWalkable_15 : decode cX3_isWalkable 15 = .ok (.ireturn, 1) := by decide +kernel
theorem dX3_rise_0 : decode cX3_rise 0 = .ok (.aload_n 0, 1) := by decide +kernel
theorem dX3_rise_1 : decode cX3_rise 1 = .ok (.getfield 24, 3) := by decide +kernel
theorem dX3_rise_4 : decode cX3_rise 4 = .ok (.iload_n 1, 1) := by decide +kernel
theorem dX3_rise_5 : decode cX3_rise 5 = .ok (.bipush 12, 2) := by decide +kernel
theorem dX3_rise_7 : decode cX3_rise 7 = .ok (.invokestatic 37, 3) := by decide +kernel
theorem dX3_rise_10 : decode cX3_rise 10 = .ok (.iaload, 1) := by decide +kernel
theorem dX3_rise_11 : decode cX3_rise 11 = .ok (.istore_n 2, 1) := by decide +kernel
theorem dX3_rise_12 : decode cX3_rise 12 = .ok (.iconst 0, 1) := by decide +kernel
theorem dX3_rise_13 : decode cX3_rise 13 = .ok (.istore_n 3, 1) := by decide +kernel
theorem dX3_rise_14 : decode cX3_rise 14 = .ok (.iload_n 3, 1) := by decide +kernel
theorem dX3_rise_15 : decode cX3_rise 15 = .ok (.bipush 10, 2) := by decide +kernel
theorem dX3_rise_17 : decode cX3_rise 17 = .ok (.if_icmp .ge 16, 3) := by decide +kernel
theorem dX3_rise_20 : decode cX3_rise 20 = .ok (.aload_n 0, 1) := by decide +kernel
theorem dX3_rise_21 : decode cX3_rise 21 = .ok (.getfield 18, 3) := by decide +kernel
theorem dX3_rise_24 : decode cX3_rise 24 = .ok (.iload_n 3, 1) := by decide +kernel
theorem dX3_rise_25 : decode cX3_rise 25 = .ok (.iload_n 2, 1) := by decide +kernel
theorem dX3_rise_26 : decode cX3_rise 26 = .ok (.iastore, 1) := by decide +kernel
theorem dX3_rise_27 : decode cX3_rise 27 = .ok (.iinc 3 1, 3) := by decide +kernel
theorem dX3_rise_30 : decode cX3_rise 30 = .ok (.goto (-16), 3) := by decide +kernel
theorem dX3_rise_33 : decode cX3_rise 33 = .ok (.return_, 1) := by decide +kernel
theorem dX3_flow_0 : decode cX3_flow 0 = .ok (.aload_n 0, 1) := by decide +kernel
theorem dX3_flow_1 : decode cX3_flow 1 = .ok (.getfield 18, 3) := by decide +kernel
theorem dX3_flow_4 : decode cX3_flow 4 = .ok (.iconst 0, 1) := by decide +kernel
theorem dX3_flow_5 : decode cX3_flow 5 = .ok (.aload_n 0, 1) := by decide +kernel
theorem dX3_flow_6 : decode cX3_flow 6 = .ok (.getfield 21, 3) := by decide +kernel
theorem dX3_flow_9 : decode cX3_flow 9 = .ok (.iconst 0, 1) := by decide +kernel
theorem dX3_flow_10 : decode cX3_flow 10 = .ok (.bipush 80, 2) := by decide +kernel
theorem dX3_flow_12 : decode cX3_flow 12 = .ok (.invokestatic 27, 3) := by decide +kernel
theorem dX3_flow_15 : decode cX3_flow 15 = .ok (.iconst 0, 1) := by decide +kernel
theorem dX3_flow_16 : decode cX3_flow 16 = .ok (.istore_n 1, 1) := by decide +kernel
theorem dX3_flow_17 : decode cX3_flow 17 = .ok (.iload_n 1, 1) := by decide +kernel
theorem dX3_flow_18 : decode cX3_flow 18 = .ok (.bipush 80, 2) := by decide +kernel
theorem dX3_flow_20 : decode cX3_flow 20 = .ok (.if_icmp .ge 47, 3) := by decide +kernel
theorem dX3_flow_23 : decode cX3_flow 23 = .ok (.aload_n 0, 1) := by decide +kernel
theorem dX3_flow_24 : decode cX3_flow 24 = .ok (.iload_n 1, 1) := by decide +kernel
theorem dX3_flow_25 : decode cX3_flow 25 = .ok (.invokevirtual 42, 3) := by decide +kernel
theorem dX3_flow_28 : decode cX3_flow 28 = .ok (.istore_n 2, 1) := by decide +kernel
theorem dX3_flow_29 : decode cX3_flow 29 = .ok (.iload_n 2, 1) := by decide +kernel
theorem dX3_flow_30 : decode cX3_flow 30 = .ok (.iconst (-1), 1) := by decide +kernel
theorem dX3_flow_31 : decode cX3_flow 31 = .ok (.if_icmp .eq 30, 3) := by decide +kernel
theorem dX3_flow_34 : decode cX3_flow 34 = .ok (.aload_n 0, 1) := by decide +kernel
theorem dX3_flow_35 : decode cX3_flow 35 = .ok (.iload_n 2, 1) := by decide +kernel
theorem dX3_flow_36 : decode cX3_flow 36 = .ok (.iload_n 1, 1) := by decide +kernel
theorem dX3_flow_37 : decode cX3_flow 37 = .ok (.invokevirtual 46, 3) := by decide +kernel
theorem dX3_flow_40 : decode cX3_flow 40 = .ok (.istore_n 3, 1) := by decide +kernel
theorem dX3_flow_41 : decode cX3_flow 41 = .ok (.aload_n 0, 1) := by decide +kernel
theorem dX3_flow_42 : decode cX3_flow 42 = .ok (.getfield 21, 3) := by decide +kernel
theorem dX3_flow_45 : decode cX3_flow 45 = .ok (.iload_n 1, 1) := by decide +kernel
theorem dX3_flow_46 : decode cX3_flow 46 = .ok (.dup2, 1) := by decide +kernel
theorem dX3_flow_47 : decode cX3_flow 47 = .ok (.iaload, 1) := by decide +kernel
theorem dX3_flow_48 : decode cX3_flow 48 = .ok (.iload_n 3, 1) := by decide +kernel
theorem dX3_flow_49 : decode cX3_flow 49 = .ok (.isub, 1) := by decide +kernel
theorem dX3_flow_50 : decode cX3_flow 50 = .ok (.iastore, 1) := by decide +kernel
theorem dX3_flow_51 : decode cX3_flow 51 = .ok (.aload_n 0, 1) := by decide +kernel
theorem dX3_flow_52 : decode cX3_flow 52 = .ok (.getfield 21, 3) := by decide +kernel
theorem dX3_flow_55 : decode cX3_flow 55 = .ok (.iload_n 2, 1) := by decide +kernel
theorem dX3_flow_56 : decode cX3_flow 56 = .ok (.dup2, 1) := by decide +kernel
theorem dX3_flow_57 : decode cX3_flow 57 = .ok (.iaload, 1) := by decide +kernel
theorem dX3_flow_58 : decode cX3_flow 58 = .ok (.iload_n 3, 1) := by decide +kernel
theorem dX3_flow_59 : decode cX3_flow 59 = .ok (.iadd, 1) := by decide +kernel
theorem dX3_flow_60 : decode cX3_flow 60 = .ok (.iastore, 1) := by decide +kernel
theorem dX3_flow_61 : decode cX3_flow 61 = .ok (.iinc 1 1, 3) := by decide +kernel
theorem dX3_flow_64 : decode cX3_flow 64 = .ok (.goto (-47), 3) := by decide +kernel
theorem dX3_flow_67 : decode cX3_flow 67 = .ok (.iconst 0, 1) := by decide +kernel
theorem dX3_flow_68 : decode cX3_flow 68 = .ok (.istore_n 1, 1) := by decide +kernel
theorem dX3_flow_69 : decode cX3_flow 69 = .ok (.iload_n 1, 1) := by decide +kernel
theorem dX3_flow_70 : decode cX3_flow 70 = .ok (.bipush 80, 2) := by decide +kernel
theorem dX3_flow_72 : decode cX3_flow 72 = .ok (.if_icmp .ge 26, 3) := by decide +kernel
theorem dX3_flow_75 : decode cX3_flow 75 = .ok (.aload_n 0, 1) := by decide +kernel
theorem dX3_flow_76 : decode cX3_flow 76 = .ok (.getfield 18, 3) := by decide +kernel
theorem dX3_flow_79 : decode cX3_flow 79 = .ok (.iload_n 1, 1) := by decide +kernel
theorem dX3_flow_80 : decode cX3_flow 80 = .ok (.aload_n 0, 1) := by decide +kernel
theorem dX3_flow_81 : decode cX3_flow 81 = .ok (.getfield 21, 3) := by decide +kernel
theorem dX3_flow_84 : decode cX3_flow 84 = .ok (.iload_n 1, 1) := by decide +kernel
theorem dX3_flow_85 : decode cX3_flow 85 = .ok (.iaload, 1) := by decide +kernel
theorem dX3_flow_86 : decode cX3_flow 86 = .ok (.bipush 40, 2) := by decide +kernel
theorem dX3_flow_88 : decode cX3_flow 88 = .ok (.invokestatic 49, 3) := by decide +kernel
theorem dX3_flow_91 : decode cX3_flow 91 = .ok (.iastore, 1) := by decide +kernel
theorem dX3_flow_92 : decode cX3_flow 92 = .ok (.iinc 1 1, 3) := by decide +kernel
theorem dX3_flow_95 : decode cX3_flow 95 = .ok (.goto (-26), 3) := by decide +kernel
theorem dX3_flow_98 : decode cX3_flow 98 = .ok (.return_, 1) := by decide +kernel
theorem dX3_lowestNeighbour_0 : decode cX3_lowestNeighbour 0 = .ok (.iconst (-1), 1) := by decide +kernel
theorem dX3_lowestNeighbour_1 : decode cX3_lowestNeighbour 1 = .ok (.istore_n 2, 1) := by decide +kernel
theorem dX3_lowestNeighbour_2 : decode cX3_lowestNeighbour 2 = .ok (.iconst 0, 1) := by decide +kernel
theorem dX3_lowestNeighbour_3 : decode cX3_lowestNeighbour 3 = .ok (.istore_n 3, 1) := by decide +kernel
theorem dX3_lowestNeighbour_4 : decode cX3_lowestNeighbour 4 = .ok (.iload_n 3, 1) := by decide +kernel
theorem dX3_lowestNeighbour_5 : decode cX3_lowestNeighbour 5 = .ok (.iconst 4, 1) := by decide +kernel
theorem dX3_lowestNeighbour_6 : decode cX3_lowestNeighbour 6 = .ok (.if_icmp .ge 44, 3) := by decide +kernel
theorem dX3_lowestNeighbour_9 : decode cX3_lowestNeighbour 9 = .ok (.iload_n 1, 1) := by decide +kernel
theorem dX3_lowestNeighbour_10 : decode cX3_lowestNeighbour 10 = .ok (.iload_n 3, 1) := by decide +kernel
theorem dX3_lowestNeighbour_11 : decode cX3_lowestNeighbour 11 = .ok (.invokestatic 33, 3) := by decide +kernel
theorem dX3_lowestNeighbour_14 : decode cX3_lowestNeighbour 14 = .ok (.istore 4, 2) := by decide +kernel
theorem dX3_lowestNeighbour_16 : decode cX3_lowestNeighbour 16 = .ok (.iload 4, 2) := by decide +kernel
theorem dX3_lowestNeighbour_18 : decode cX3_lowestNeighbour 18 = .ok (.iconst (-1), 1) := by decide +kernel
theorem dX3_lowestNeighbour_19 : decode cX3_lowestNeighbour 19 = .ok (.if_icmp .eq 25, 3) := by decide +kernel
theorem dX3_lowestNeighbour_22 : decode cX3_lowestNeighbour 22 = .ok (.iload_n 2, 1) := by decide +kernel
theorem dX3_lowestNeighbour_23 : decode cX3_lowestNeighbour 23 = .ok (.iconst (-1), 1) := by decide +kernel
theorem dX3_lowestNeighbour_24 : decode cX3_lowestNeighbour 24 = .ok (.if_icmp .eq 17, 3) := by decide +kernel
theorem dX3_lowestNeighbour_27 : decode cX3_lowestNeighbour 27 = .ok (.aload_n 0, 1) := by decide +kernel
theorem dX3_lowestNeighbour_28 : decode cX3_lowestNeighbour 28 = .ok (.iload 4, 2) := by decide +kernel
theorem dX3_lowestNeighbour_30 : decode cX3_lowestNeighbour 30 = .ok (.invokevirtual 52, 3) := by decide +kernel
theorem dX3_lowestNeighbour_33 : decode cX3_lowestNeighbour 33 = .ok (.aload_n 0, 1) := by decide +kernel
theorem dX3_lowestNeighbour_34 : decode cX3_lowestNeighbour 34 = .ok (.iload_n 2, 1) := by decide +kernel
theorem dX3_lowestNeighbour_35 : decode cX3_lowestNeighbour 35 = .ok (.invokevirtual 52, 3) := by decide +kernel
theorem dX3_lowestNeighbour_38 : decode cX3_lowestNeighbour 38 = .ok (.if_icmp .ge 6, 3) := by decide +kernel
theorem dX3_lowestNeighbour_41 : decode cX3_lowestNeighbour 41 = .ok (.iload 4, 2) := by decide +kernel
theorem dX3_lowestNeighbour_43 : decode cX3_lowestNeighbour 43 = .ok (.istore_n 2, 1) := by decide +kernel
theorem dX3_lowestNeighbour_44 : decode cX3_lowestNeighbour 44 = .ok (.iinc 3 1, 3) := by decide +kernel
theorem dX3_lowestNeighbour_47 : decode cX3_lowestNeighbour 47 = .ok (.goto (-43), 3) := by decide +kernel
theorem dX3_lowestNeighbour_50 : decode cX3_lowestNeighbour 50 = .ok (.iload_n 2, 1) := by decide +kernel
theorem dX3_lowestNeighbour_51 : decode cX3_lowestNeighbour 51 = .ok (.ireturn, 1) := by decide +kernel
theorem dX3_givenTo_0 : decode cX3_givenTo 0 = .ok (.aload_n 0, 1) := by decide +kernel
theorem dX3_givenTo_1 : decode cX3_givenTo 1 = .ok (.iload_n 2, 1) := by decide +kernel
theorem dX3_givenTo_2 : decode cX3_givenTo 2 = .ok (.invokevirtual 52, 3) := by decide +kernel
theorem dX3_givenTo_5 : decode cX3_givenTo 5 = .ok (.aload_n 0, 1) := by decide +kernel
theorem dX3_givenTo_6 : decode cX3_givenTo 6 = .ok (.iload_n 1, 1) := by decide +kernel
theorem dX3_givenTo_7 : decode cX3_givenTo 7 = .ok (.invokevirtual 52, 3) := by decide +kernel
theorem dX3_givenTo_10 : decode cX3_givenTo 10 = .ok (.isub, 1) := by decide +kernel
theorem dX3_givenTo_11 : decode cX3_givenTo 11 = .ok (.istore_n 3, 1) := by decide +kernel
theorem dX3_givenTo_12 : decode cX3_givenTo 12 = .ok (.iload_n 3, 1) := by decide +kernel
theorem dX3_givenTo_13 : decode cX3_givenTo 13 = .ok (.ifCond .le 18, 3) := by decide +kernel
theorem dX3_givenTo_16 : decode cX3_givenTo 16 = .ok (.iload_n 3, 1) := by decide +kernel
theorem dX3_givenTo_17 : decode cX3_givenTo 17 = .ok (.iconst 2, 1) := by decide +kernel
theorem dX3_givenTo_18 : decode cX3_givenTo 18 = .ok (.idiv, 1) := by decide +kernel
theorem dX3_givenTo_19 : decode cX3_givenTo 19 = .ok (.aload_n 0, 1) := by decide +kernel
theorem dX3_givenTo_20 : decode cX3_givenTo 20 = .ok (.getfield 18, 3) := by decide +kernel
theorem dX3_givenTo_23 : decode cX3_givenTo 23 = .ok (.iload_n 2, 1) := by decide +kernel
theorem dX3_givenTo_24 : decode cX3_givenTo 24 = .ok (.iaload, 1) := by decide +kernel
theorem dX3_givenTo_25 : decode cX3_givenTo 25 = .ok (.invokestatic 49, 3) := by decide +kernel
theorem dX3_givenTo_28 : decode cX3_givenTo 28 = .ok (.goto 4, 3) := by decide +kernel
theorem dX3_givenTo_31 : decode cX3_givenTo 31 = .ok (.iconst 0, 1) := by decide +kernel
theorem dX3_givenTo_32 : decode cX3_givenTo 32 = .ok (.ireturn, 1) := by decide +kernel
theorem dX3_bagsInTown_0 : decode cX3_bagsInTown 0 = .ok (.iconst 0, 1) := by decide +kernel
theorem dX3_bagsInTown_1 : decode cX3_bagsInTown 1 = .ok (.istore_n 1, 1) := by decide +kernel
theorem dX3_bagsInTown_2 : decode cX3_bagsInTown 2 = .ok (.iconst 0, 1) := by decide +kernel
theorem dX3_bagsInTown_3 : decode cX3_bagsInTown 3 = .ok (.istore_n 2, 1) := by decide +kernel
theorem dX3_bagsInTown_4 : decode cX3_bagsInTown 4 = .ok (.iload_n 2, 1) := by decide +kernel
theorem dX3_bagsInTown_5 : decode cX3_bagsInTown 5 = .ok (.bipush 80, 2) := by decide +kernel
theorem dX3_bagsInTown_7 : decode cX3_bagsInTown 7 = .ok (.if_icmp .ge 18, 3) := by decide +kernel
theorem dX3_bagsInTown_10 : decode cX3_bagsInTown 10 = .ok (.iload_n 1, 1) := by decide +kernel
theorem dX3_bagsInTown_11 : decode cX3_bagsInTown 11 = .ok (.aload_n 0, 1) := by decide +kernel
theorem dX3_bagsInTown_12 : decode cX3_bagsInTown 12 = .ok (.getfield 15, 3) := by decide +kernel
theorem dX3_bagsInTown_15 : decode cX3_bagsInTown 15 = .ok (.iload_n 2, 1) := by decide +kernel
theorem dX3_bagsInTown_16 : decode cX3_bagsInTown 16 = .ok (.iaload, 1) := by decide +kernel
theorem dX3_bagsInTown_17 : decode cX3_bagsInTown 17 = .ok (.iadd, 1) := by decide +kernel
theorem dX3_bagsInTown_18 : decode cX3_bagsInTown 18 = .ok (.istore_n 1, 1) := by decide +kernel
theorem dX3_bagsInTown_19 : decode cX3_bagsInTown 19 = .ok (.iinc 2 1, 3) := by decide +kernel
theorem dX3_bagsInTown_22 : decode cX3_bagsInTown 22 = .ok (.goto (-18), 3) := by decide +kernel
theorem dX3_bagsInTown_25 : decode cX3_bagsInTown 25 = .ok (.iload_n 1, 1) := by decide +kernel
theorem dX3_bagsInTown_26 : decode cX3_bagsInTown 26 = .ok (.ireturn, 1) := by decide +kernel
theorem dX3_wetStreets_0 : decode cX3_wetStreets 0 = .ok (.iconst 0, 1) := by decide +kernel
theorem dX3_wetStreets_1 : decode cX3_wetStreets 1 = .ok (.istore_n 1, 1) := by decide +kernel
theorem dX3_wetStreets_2 : decode cX3_wetStreets 2 = .ok (.bipush 10, 2) := by decide +kernel
theorem dX3_wetStreets_4 : decode cX3_wetStreets 4 = .ok (.istore_n 2, 1) := by decide +kernel
theorem dX3_wetStreets_5 : decode cX3_wetStreets 5 = .ok (.iload_n 2, 1) := by decide +kernel
theorem dX3_wetStreets_6 : decode cX3_wetStreets 6 = .ok (.bipush 80, 2) := by decide +kernel
theorem dX3_wetStreets_8 : decode cX3_wetStreets 8 = .ok (.if_icmp .ge 26, 3) := by decide +kernel
theorem dX3_wetStreets_11 : decode cX3_wetStreets 11 = .ok (.iload_n 1, 1) := by decide +kernel
theorem dX3_wetStreets_12 : decode cX3_wetStreets 12 = .ok (.aload_n 0, 1) := by decide +kernel
theorem dX3_wetStreets_13 : decode cX3_wetStreets 13 = .ok (.getfield 18, 3) := by decide +kernel
theorem dX3_wetStreets_16 : decode cX3_wetStreets 16 = .ok (.iload_n 2, 1) := by decide +kernel
theorem dX3_wetStreets_17 : decode cX3_wetStreets 17 = .ok (.iaload, 1) := by decide +kernel
theorem dX3_wetStreets_18 : decode cX3_wetStreets 18 = .ok (.ifCond .le 7, 3) := by decide +kernel
theorem dX3_wetStreets_21 : decode cX3_wetStreets 21 = .ok (.iconst 1, 1) := by decide +kernel
theorem dX3_wetStreets_22 : decode cX3_wetStreets 22 = .ok (.goto 4, 3) := by decide +kernel
theorem dX3_wetStreets_25 : decode cX3_wetStreets 25 = .ok (.iconst 0, 1) := by decide +kernel
theorem dX3_wetStreets_26 : decode cX3_wetStreets 26 = .ok (.iadd, 1) := by decide +kernel
theorem dX3_wetStreets_27 : decode cX3_wetStreets 27 = .ok (.istore_n 1, 1) := by decide +kernel
theorem dX3_wetStreets_28 : decode cX3_wetStreets 28 = .ok (.iinc 2 1, 3) := by decide +kernel
theorem dX3_wetStreets_31 : decode cX3_wetStreets 31 = .ok (.goto (-26), 3) := by decide +kernel
theorem dX3_wetStreets_34 : decode cX3_wetStreets 34 = .ok (.iload_n 1, 1) := by decide +kernel
theorem dX3_wetStreets_35 : decode cX3_wetStreets 35 = .ok (.ireturn, 1) := by decide +kernel
theorem dX3_waterInStreets_0 : decode cX3_waterInStreets 0 = .ok (.iconst 0, 1) := by decide +kernel
theorem dX3_waterInStreets_1 : decode cX3_waterInStreets 1 = .ok (.istore_n 1, 1) := by decide +kernel
theorem dX3_waterInStreets_2 : decode cX3_waterInStreets 2 = .ok (.bipush 10, 2) := by decide +kernel
theorem dX3_waterInStreets_4 : decode cX3_waterInStreets 4 = .ok (.istore_n 2, 1) := by decide +kernel
theorem dX3_waterInStreets_5 : decode cX3_waterInStreets 5 = .ok (.iload_n 2, 1) := by decide +kernel
theorem dX3_waterInStreets_6 : decode cX3_waterInStreets 6 = .ok (.bipush 80, 2) := by decide +kernel
theorem dX3_waterInStreets_8 : decode cX3_waterInStreets 8 = .ok (.if_icmp .ge 18, 3) := by decide +kernel
theorem dX3_waterInStreets_11 : decode cX3_waterInStreets 11 = .ok (.iload_n 1, 1) := by decide +kernel
theorem dX3_waterInStreets_12 : decode cX3_waterInStreets 12 = .ok (.aload_n 0, 1) := by decide +kernel
theorem dX3_waterInStreets_13 : decode cX3_waterInStreets 13 = .ok (.getfield 18, 3) := by decide +kernel
theorem dX3_waterInStreets_16 : decode cX3_waterInStreets 16 = .ok (.iload_n 2, 1) := by decide +kernel
theorem dX3_waterInStreets_17 : decode cX3_waterInStreets 17 = .ok (.iaload, 1) := by decide +kernel
theorem dX3_waterInStreets_18 : decode cX3_waterInStreets 18 = .ok (.iadd, 1) := by decide +kernel
theorem dX3_waterInStreets_19 : decode cX3_waterInStreets 19 = .ok (.istore_n 1, 1) := by decide +kernel
theorem dX3_waterInStreets_20 : decode cX3_waterInStreets 20 = .ok (.iinc 2 1, 3) := by decide +kernel
theorem dX3_waterInStreets_23 : decode cX3_waterInStreets 23 = .ok (.goto (-18), 3) := by decide +kernel
theorem dX3_waterInStreets_26 : decode cX3_waterInStreets 26 = .ok (.iload_n 1, 1) := by decide +kernel
theorem dX3_waterInStreets_27 : decode cX3_waterInStreets 27 = .ok (.ireturn, 1) := by decide +kernel
theorem dX4_init_0 : decode cX4_init 0 = .ok (.aload_n 0, 1) := by decide +kernel
theorem dX4_init_1 : decode cX4_init 1 = .ok (.invokespecial 3, 3) := by decide +kernel
theorem dX4_init_4 : decode cX4_init 4 = .ok (.aload_n 0, 1) := by decide +kernel
theorem dX4_init_5 : decode cX4_init 5 = .ok (.aload_n 1, 1) := by decide +kernel
theorem dX4_init_6 : decode cX4_init 6 = .ok (.putfield 9, 3) := by decide +kernel
theorem dX4_init_9 : decode cX4_init 9 = .ok (.return_, 1) := by decide +kernel
theorem dX4_isFull_0 : decode cX4_isFull 0 = .ok (.aload_n 0, 1) := by decide +kernel
theorem dX4_isFull_1 : decode cX4_isFull 1 = .ok (.getfield 15, 3) := by decide +kernel
theorem dX4_isFull_4 : decode cX4_isFull 4 = .ok (.aload_n 0, 1) := by decide +kernel
theorem dX4_isFull_5 : decode cX4_isFull 5 = .ok (.getfield 9, 3) := by decide +kernel
theorem dX4_isFull_8 : decode cX4_isFull 8 = .ok (.arraylength, 1) := by decide +kernel
theorem dX4_isFull_9 : decode cX4_isFull 9 = .ok (.if_icmp .lt 7, 3) := by decide +kernel
theorem dX4_isFull_12 : decode cX4_isFull 12 = .ok (.iconst 1, 1) := by decide +kernel
theorem dX4_isFull_13 : decode cX4_isFull 13 = .ok (.goto 4, 3) := by decide +kernel
theorem dX4_isFull_16 : decode cX4_isFull 16 = .ok (.iconst 0, 1) := by decide +kernel
theorem dX4_isFull_17 : decode cX4_isFull 17 = .ok (.ireturn, 1) := by decide +kernel
theorem dX4_has_0 : decode cX4_has 0 = .ok (.iload_n 1, 1) := by decide +kernel
theorem dX4_has_1 : decode cX4_has 1 = .ok (.ifCond .lt 15, 3) := by decide +kernel
theorem dX4_has_4 : decode cX4_has 4 = .ok (.iload_n 1, 1) := by decide +kernel
theorem dX4_has_5 : decode cX4_has 5 = .ok (.aload_n 0, 1) := by decide +kernel
theorem dX4_has_6 : decode cX4_has 6 = .ok (.getfield 15, 3) := by decide +kernel
theorem dX4_has_9 : decode cX4_has 9 = .ok (.if_icmp .ge 7, 3) := by decide +kernel
theorem dX4_has_12 : decode cX4_has 12 = .ok (.iconst 1, 1) := by decide +kernel
theorem dX4_has_13 : decode cX4_has 13 = .ok (.goto 4, 3) := by decide +kernel
theorem dX4_has_16 : decode cX4_has 16 = .ok (.iconst 0, 1) := by decide +kernel
theorem dX4_has_17 : decode cX4_has 17 = .ok (.ireturn, 1) := by decide +kernel
theorem dX4_firstIn_0 : decode cX4_firstIn 0 = .ok (.iconst 0, 1) := by decide +kernel
theorem dX4_firstIn_1 : decode cX4_firstIn 1 = .ok (.istore_n 2, 1) := by decide +kernel
theorem dX4_firstIn_2 : decode cX4_firstIn 2 = .ok (.iload_n 2, 1) := by decide +kernel
theorem dX4_firstIn_3 : decode cX4_firstIn 3 = .ok (.aload_n 0, 1) := by decide +kernel
theorem dX4_firstIn_4 : decode cX4_firstIn 4 = .ok (.getfield 15, 3) := by decide +kernel
theorem dX4_firstIn_7 : decode cX4_firstIn 7 = .ok (.if_icmp .ge 21, 3) := by decide +kernel
theorem dX4_firstIn_10 : decode cX4_firstIn 10 = .ok (.aload_n 0, 1) := by decide +kernel
theorem dX4_firstIn_11 : decode cX4_firstIn 11 = .ok (.getfield 9, 3) := by decide +kernel
theorem dX4_firstIn_14 : decode cX4_firstIn 14 = .ok (.iload_n 2, 1) := by decide +kernel
theorem dX4_firstIn_15 : decode cX4_firstIn 15 = .ok (.iaload, 1) := by decide +kernel
theorem dX4_firstIn_16 : decode cX4_firstIn 16 = .ok (.iload_n 1, 1) := by decide +kernel
theorem dX4_firstIn_17 : decode cX4_firstIn 17 = .ok (.if_icmp .ne 5, 3) := by decide +kernel
theorem dX4_firstIn_20 : decode cX4_firstIn 20 = .ok (.iload_n 2, 1) := by decide +kernel
theorem dX4_firstIn_21 : decode cX4_firstIn 21 = .ok (.ireturn, 1) := by decide +kernel
theorem dX4_firstIn_22 : decode cX4_firstIn 22 = .ok (.iinc 2 1, 3) := by decide +kernel
theorem dX4_firstIn_25 : decode cX4_firstIn 25 = .ok (.goto (-23), 3) := by decide +kernel
theorem dX4_firstIn_28 : decode cX4_firstIn 28 = .ok (.iconst (-1), 1) := by decide +kernel
theorem dX4_firstIn_29 : decode cX4_firstIn 29 = .ok (.ireturn, 1) := by decide +kernel
theorem dX4_canComeTo_0 : decode cX4_canComeTo 0 = .ok (.aload_n 0, 1) := by decide +kernel
theorem dX4_canComeTo_1 : decode cX4_canComeTo 1 = .ok (.invokevirtual 19, 3) := by decide +kernel
theorem dX4_canComeTo_4 : decode cX4_canComeTo 4 = .ok (.ifCond .ne 16, 3) := by decide +kernel
theorem dX4_canComeTo_7 : decode cX4_canComeTo 7 = .ok (.aload_n 0, 1) := by decide +kernel
theorem dX4_canComeTo_8 : decode cX4_canComeTo 8 = .ok (.iload_n 1, 1) := by decide +kernel
theorem dX4_canComeTo_9 : decode cX4_canComeTo 9 = .ok (.invokevirtual 23, 3) := by decide +kernel
theorem dX4_canComeTo_12 : decode cX4_canComeTo 12 = .ok (.iconst (-1), 1) := by decide +kernel
theorem dX4_canComeTo_13 : decode cX4_canComeTo 13 = .ok (.if_icmp .ne 7, 3) := by decide +kernel
theorem dX4_canComeTo_16 : decode cX4_canComeTo 16 = .ok (.iconst 1, 1) := by decide +kernel
theorem dX4_canComeTo_17 : decode cX4_canComeTo 17 = .ok (.goto 4, 3) := by decide +kernel
theorem dX4_canComeTo_20 : decode cX4_canComeTo 20 = .ok (.iconst 0, 1) := by decide +kernel
theorem dX4_canComeTo_21 : decode cX4_canComeTo 21 = .ok (.ireturn, 1) := by decide +kernel
theorem dX4_xOf_0 : decode cX4_xOf 0 = .ok (.aload_n 0, 1) := by decide +kernel
theorem dX4_xOf_1 : decode cX4_xOf 1 = .ok (.getfield 9, 3) := by decide +kernel
theorem dX4_xOf_4 : decode cX4_xOf 4 = .ok (.iload_n 1, 1) := by decide +kernel
theorem dX4_xOf_5 : decode cX4_xOf 5 = .ok (.iaload, 1) := by decide +kernel
theorem dX4_xOf_6 : decode cX4_xOf 6 = .ok (.bipush 10, 2) := by decide +kernel
theorem dX4_xOf_8 : decode cX4_xOf 8 = .ok (.irem, 1) := by decide +kernel
theorem dX4_xOf_9 : decode cX4_xOf 9 = .ok (.ireturn, 1) := by decide +kernel
theorem dX4_yOf_0 : decode cX4_yOf 0 = .ok (.aload_n 0, 1) := by decide +kernel
theorem dX4_yOf_1 : decode cX4_yOf 1 = .ok (.getfield 9, 3) := by decide +kernel
theorem dX4_yOf_4 : decode cX4_yOf 4 = .ok (.iload_n 1, 1) := by decide +kernel
theorem dX4_yOf_5 : decode cX4_yOf 5 = .ok (.iaload, 1) := by decide +kernel
theorem dX4_yOf_6 : decode cX4_yOf 6 = .ok (.bipush 10, 2) := by decide +kernel
theorem dX4_yOf_8 : decode cX4_yOf 8 = .ok (.idiv, 1) := by decide +kernel
theorem dX4_yOf_9 : decode cX4_yOf 9 = .ok (.ireturn, 1) := by decide +kernel
theorem dX4_copyCells_0 : decode cX4_copyCells 0 = .ok (.aload_n 0, 1) := by decide +kernel
theorem dX4_copyCells_1 : decode cX4_copyCells 1 = .ok (.aload_n 1, 1) := by decide +kernel
theorem dX4_copyCells_2 : decode cX4_copyCells 2 = .ok (.getfield 15, 3) := by decide +kernel
theorem dX4_copyCells_5 : decode cX4_copyCells 5 = .ok (.putfield 15, 3) := by decide +kernel
theorem dX4_copyCells_8 : decode cX4_copyCells 8 = .ok (.iconst 0, 1) := by decide +kernel
theorem dX4_copyCells_9 : decode cX4_copyCells 9 = .ok (.istore_n 2, 1) := by decide +kernel
theorem dX4_copyCells_10 : decode cX4_copyCells 10 = .ok (.iload_n 2, 1) := by decide +kernel
theorem dX4_copyCells_11 : decode cX4_copyCells 11 = .ok (.aload_n 0, 1) := by decide +kernel
theorem dX4_copyCells_12 : decode cX4_copyCells 12 = .ok (.getfield 15, 3) := by decide +kernel
theorem dX4_copyCells_15 : decode cX4_copyCells 15 = .ok (.if_icmp .ge 21, 3) := by decide +kernel
theorem dX4_copyCells_18 : decode cX4_copyCells 18 = .ok (.aload_n 0, 1) := by decide +kernel
theorem dX4_copyCells_19 : decode cX4_copyCells 19 = .ok (.getfield 9, 3) := by decide +kernel
theorem dX4_copyCells_22 : decode cX4_copyCells 22 = .ok (.iload_n 2, 1) := by decide +kernel
theorem dX4_copyCells_23 : decode cX4_copyCells 23 = .ok (.aload_n 1, 1) := by decide +kernel
theorem dX4_copyCells_24 : decode cX4_copyCells 24 = .ok (.getfield 9, 3) := by decide +kernel
theorem dX4_copyCells_27 : decode cX4_copyCells 27 = .ok (.iload_n 2, 1) := by decide +kernel
theorem dX4_copyCells_28 : decode cX4_copyCells 28 = .ok (.iaload, 1) := by decide +kernel
theorem dX4_copyCells_29 : decode cX4_copyCells 29 = .ok (.iastore, 1) := by decide +kernel
theorem dX4_copyCells_30 : decode cX4_copyCells 30 = .ok (.iinc 2 1, 3) := by decide +kernel
theorem dX4_copyCells_33 : decode cX4_copyCells 33 = .ok (.goto (-23), 3) := by decide +kernel
theorem dX4_copyCells_36 : decode cX4_copyCells 36 = .ok (.return_, 1) := by decide +kernel
theorem dX5_init_0 : decode cX5_init 0 = .ok (.aload_n 0, 1) := by decide +kernel
theorem dX5_init_1 : decode cX5_init 1 = .ok (.iconst 5, 1) := by decide +kernel
theorem dX5_init_2 : decode cX5_init 2 = .ok (.newarray .int, 2) := by decide +kernel
theorem dX5_init_4 : decode cX5_init 4 = .ok (.invokespecial 3, 3) := by decide +kernel
theorem dX5_init_7 : decode cX5_init 7 = .ok (.aload_n 0, 1) := by decide +kernel
theorem dX5_init_8 : decode cX5_init 8 = .ok (.iconst 5, 1) := by decide +kernel
theorem dX5_init_9 : decode cX5_init 9 = .ok (.newarray .int, 2) := by decide +kernel
theorem dX5_init_11 : decode cX5_init 11 = .ok (.putfield 9, 3) := by decide +kernel
theorem dX5_init_14 : decode cX5_init 14 = .ok (.aload_n 0, 1) := by decide +kernel
theorem dX5_init_15 : decode cX5_init 15 = .ok (.iconst 5, 1) := by decide +kernel
theorem dX5_init_16 : decode cX5_init 16 = .ok (.newarray .int, 2) := by decide +kernel
theorem dX5_init_18 : decode cX5_init 18 = .ok (.putfield 15, 3) := by decide +kernel
theorem dX5_init_21 : decode cX5_init 21 = .ok (.aload_n 0, 1) := by decide +kernel
theorem dX5_init_22 : decode cX5_init 22 = .ok (.iconst 5, 1) := by decide +kernel
theorem dX5_init_23 : decode cX5_init 23 = .ok (.newarray .boolean, 2) := by decide +kernel
theorem dX5_init_25 : decode cX5_init 25 = .ok (.putfield 18, 3) := by decide +kernel
theorem dX5_init_28 : decode cX5_init 28 = .ok (.aload_n 0, 1) := by decide +kernel
theorem dX5_init_29 : decode cX5_init 29 = .ok (.iconst 5, 1) := by decide +kernel
theorem dX5_init_30 : decode cX5_init 30 = .ok (.newarray .int, 2) := by decide +kernel
theorem dX5_init_32 : decode cX5_init 32 = .ok (.putfield 22, 3) := by decide +kernel
theorem dX5_init_35 : decode cX5_init 35 = .ok (.return_, 1) := by decide +kernel
theorem dX5_setUp_0 : decode cX5_setUp 0 = .ok (.aload_n 0, 1) := by decide +kernel
theorem dX5_setUp_1 : decode cX5_setUp 1 = .ok (.getfield 25, 3) := by decide +kernel
theorem dX5_setUp_4 : decode cX5_setUp 4 = .ok (.istore 4, 2) := by decide +kernel
theorem dX5_setUp_6 : decode cX5_setUp 6 = .ok (.aload_n 0, 1) := by decide +kernel
theorem dX5_setUp_7 : decode cX5_setUp 7 = .ok (.getfield 29, 3) := by decide +kernel
theorem dX5_setUp_10 : decode cX5_setUp 10 = .ok (.iload 4, 2) := by decide +kernel
theorem dX5_setUp_12 : decode cX5_setUp 12 = .ok (.iload_n 1, 1) := by decide +kernel
theorem dX5_setUp_13 : decode cX5_setUp 13 = .ok (.iastore, 1) := by decide +kernel
theorem dX5_setUp_14 : decode cX5_setUp 14 = .ok (.aload_n 0, 1) := by decide +kernel
theorem dX5_setUp_15 : decode cX5_setUp 15 = .ok (.getfield 9, 3) := by decide +kernel
theorem dX5_setUp_18 : decode cX5_setUp 18 = .ok (.iload 4, 2) := by decide +kernel
theorem dX5_setUp_20 : decode cX5_setUp 20 = .ok (.iload_n 2, 1) := by decide +kernel
theorem dX5_setUp_21 : decode cX5_setUp 21 = .ok (.iastore, 1) := by decide +kernel
theorem dX5_setUp_22 : decode cX5_setUp 22 = .ok (.aload_n 0, 1) := by decide +kernel
theorem dX5_setUp_23 : decode cX5_setUp 23 = .ok (.getfield 15, 3) := by decide +kernel
theorem dX5_setUp_26 : decode cX5_setUp 26 = .ok (.iload 4, 2) := by decide +kernel
theorem dX5_setUp_28 : decode cX5_setUp 28 = .ok (.iload_n 3, 1) := by decide +kernel
theorem dX5_setUp_29 : decode cX5_setUp 29 = .ok (.iastore, 1) := by decide +kernel
theorem dX5_setUp_30 : decode cX5_setUp 30 = .ok (.aload_n 0, 1) := by decide +kernel
theorem dX5_setUp_31 : decode cX5_setUp 31 = .ok (.getfield 18, 3) := by decide +kernel
theorem dX5_setUp_34 : decode cX5_setUp 34 = .ok (.iload 4, 2) := by decide +kernel
theorem dX5_setUp_36 : decode cX5_setUp 36 = .ok (.iconst 1, 1) := by decide +kernel
theorem dX5_setUp_37 : decode cX5_setUp 37 = .ok (.bastore, 1) := by decide +kernel
theorem dX5_setUp_38 : decode cX5_setUp 38 = .ok (.aload_n 0, 1) := by decide +kernel
theorem dX5_setUp_39 : decode cX5_setUp 39 = .ok (.dup, 1) := by decide +kernel
theorem dX5_setUp_40 : decode cX5_setUp 40 = .ok (.getfield 25, 3) := by decide +kernel
theorem dX5_setUp_43 : decode cX5_setUp 43 = .ok (.iconst 1, 1) := by decide +kernel
theorem dX5_setUp_44 : decode cX5_setUp 44 = .ok (.iadd, 1) := by decide +kernel
theorem dX5_setUp_45 : decode cX5_setUp 45 = .ok (.putfield 25, 3) := by decide +kernel
theorem dX5_setUp_48 : decode cX5_setUp 48 = .ok (.iload 4, 2) := by decide +kernel
theorem dX5_setUp_50 : decode cX5_setUp 50 = .ok (.ireturn, 1) := by decide +kernel
theorem dX5_copyFrom_0 : decode cX5_copyFrom 0 = .ok (.aload_n 0, 1) := by decide +kernel
theorem dX5_copyFrom_1 : decode cX5_copyFrom 1 = .ok (.aload_n 1, 1) := by decide +kernel
theorem dX5_copyFrom_2 : decode cX5_copyFrom 2 = .ok (.invokevirtual 32, 3) := by decide +kernel
theorem dX5_copyFrom_5 : decode cX5_copyFrom 5 = .ok (.iconst 0, 1) := by decide +kernel
theorem dX5_copyFrom_6 : decode cX5_copyFrom 6 = .ok (.istore_n 2, 1) := by decide +kernel
theorem dX5_copyFrom_7 : decode cX5_copyFrom 7 = .ok (.iload_n 2, 1) := by decide +kernel
theorem dX5_copyFrom_8 : decode cX5_copyFrom 8 = .ok (.aload_n 0, 1) := by decide +kernel
theorem dX5_copyFrom_9 : decode cX5_copyFrom 9 = .ok (.getfield 25, 3) := by decide +kernel
theorem dX5_copyFrom_12 : decode cX5_copyFrom 12 = .ok (.if_icmp .ge 57, 3) := by decide +kernel
theorem dX5_copyFrom_15 : decode cX5_copyFrom 15 = .ok (.aload_n 0, 1) := by decide +kernel
theorem dX5_copyFrom_16 : decode cX5_copyFrom 16 = .ok (.getfield 9, 3) := by decide +kernel
theorem dX5_copyFrom_19 : decode cX5_copyFrom 19 = .ok (.iload_n 2, 1) := by decide +kernel
theorem dX5_copyFrom_20 : decode cX5_copyFrom 20 = .ok (.aload_n 1, 1) := by decide +kernel
theorem dX5_copyFrom_21 : decode cX5_copyFrom 21 = .ok (.getfield 9, 3) := by decide +kernel
theorem dX5_copyFrom_24 : decode cX5_copyFrom 24 = .ok (.iload_n 2, 1) := by decide +kernel
theorem dX5_copyFrom_25 : decode cX5_copyFrom 25 = .ok (.iaload, 1) := by decide +kernel
theorem dX5_copyFrom_26 : decode cX5_copyFrom 26 = .ok (.iastore, 1) := by decide +kernel
theorem dX5_copyFrom_27 : decode cX5_copyFrom 27 = .ok (.aload_n 0, 1) := by decide +kernel
theorem dX5_copyFrom_28 : decode cX5_copyFrom 28 = .ok (.getfield 15, 3) := by decide +kernel
theorem dX5_copyFrom_31 : decode cX5_copyFrom 31 = .ok (.iload_n 2, 1) := by decide +kernel
theorem dX5_copyFrom_32 : decode cX5_copyFrom 32 = .ok (.aload_n 1, 1) := by decide +kernel
theorem dX5_copyFrom_33 : decode cX5_copyFrom 33 = .ok (.getfield 15, 3) := by decide +kernel
theorem dX5_copyFrom_36 : decode cX5_copyFrom 36 = .ok (.iload_n 2, 1) := by decide +kernel
theorem dX5_copyFrom_37 : decode cX5_copyFrom 37 = .ok (.iaload, 1) := by decide +kernel
theorem dX5_copyFrom_38 : decode cX5_copyFrom 38 = .ok (.iastore, 1) := by decide +kernel
theorem dX5_copyFrom_39 : decode cX5_copyFrom 39 = .ok (.aload_n 0, 1) := by decide +kernel
theorem dX5_copyFrom_40 : decode cX5_copyFrom 40 = .ok (.getfield 18, 3) := by decide +kernel
theorem dX5_copyFrom_43 : decode cX5_copyFrom 43 = .ok (.iload_n 2, 1) := by decide +kernel
theorem dX5_copyFrom_44 : decode cX5_copyFrom 44 = .ok (.aload_n 1, 1) := by decide +kernel
theorem dX5_copyFrom_45 : decode cX5_copyFrom 45 = .ok (.getfield 18, 3) := by decide +kernel
theorem dX5_copyFrom_48 : decode cX5_copyFrom 48 = .ok (.iload_n 2, 1) := by decide +kernel
theorem dX5_copyFrom_49 : decode cX5_copyFrom 49 = .ok (.baload, 1) := by decide +kernel
theorem dX5_copyFrom_50 : decode cX5_copyFrom 50 = .ok (.bastore, 1) := by decide +kernel
theorem dX5_copyFrom_51 : decode cX5_copyFrom 51 = .ok (.aload_n 0, 1) := by decide +kernel
theorem dX5_copyFrom_52 : decode cX5_copyFrom 52 = .ok (.getfield 22, 3) := by decide +kernel
theorem dX5_copyFrom_55 : decode cX5_copyFrom 55 = .ok (.iload_n 2, 1) := by decide +kernel
theorem dX5_copyFrom_56 : decode cX5_copyFrom 56 = .ok (.aload_n 1, 1) := by decide +kernel
theorem dX5_copyFrom_57 : decode cX5_copyFrom 57 = .ok (.getfield 22, 3) := by decide +kernel
theorem dX5_copyFrom_60 : decode cX5_copyFrom 60 = .ok (.iload_n 2, 1) := by decide +kernel
theorem dX5_copyFrom_61 : decode cX5_copyFrom 61 = .ok (.iaload, 1) := by decide +kernel
theorem dX5_copyFrom_62 : decode cX5_copyFrom 62 = .ok (.iastore, 1) := by decide +kernel
theorem dX5_copyFrom_63 : decode cX5_copyFrom 63 = .ok (.iinc 2 1, 3) := by decide +kernel
theorem dX5_copyFrom_66 : decode cX5_copyFrom 66 = .ok (.goto (-59), 3) := by decide +kernel
theorem dX5_copyFrom_69 : decode cX5_copyFrom 69 = .ok (.return_, 1) := by decide +kernel
theorem dX5_work_0 : decode cX5_work 0 = .ok (.iconst 0, 1) := by decide +kernel
theorem dX5_work_1 : decode cX5_work 1 = .ok (.istore_n 2, 1) := by decide +kernel
theorem dX5_work_2 : decode cX5_work 2 = .ok (.iload_n 2, 1) := by decide +kernel
theorem dX5_work_3 : decode cX5_work 3 = .ok (.aload_n 0, 1) := by decide +kernel
theorem dX5_work_4 : decode cX5_work 4 = .ok (.getfield 25, 3) := by decide +kernel
theorem dX5_work_7 : decode cX5_work 7 = .ok (.if_icmp .ge 91, 3) := by decide +kernel
theorem dX5_work_10 : decode cX5_work 10 = .ok (.aload_n 1, 1) := by decide +kernel
theorem dX5_work_11 : decode cX5_work 11 = .ok (.getfield 36, 3) := by decide +kernel
theorem dX5_work_14 : decode cX5_work 14 = .ok (.aload_n 0, 1) := by decide +kernel
theorem dX5_work_15 : decode cX5_work 15 = .ok (.getfield 29, 3) := by decide +kernel
theorem dX5_work_18 : decode cX5_work 18 = .ok (.iload_n 2, 1) := by decide +kernel
theorem dX5_work_19 : decode cX5_work 19 = .ok (.iaload, 1) := by decide +kernel
theorem dX5_work_20 : decode cX5_work 20 = .ok (.iaload, 1) := by decide +kernel
theorem dX5_work_21 : decode cX5_work 21 = .ok (.istore_n 3, 1) := by decide +kernel
theorem dX5_work_22 : decode cX5_work 22 = .ok (.aload_n 0, 1) := by decide +kernel
theorem dX5_work_23 : decode cX5_work 23 = .ok (.getfield 18, 3) := by decide +kernel
theorem dX5_work_26 : decode cX5_work 26 = .ok (.iload_n 2, 1) := by decide +kernel
theorem dX5_work_27 : decode cX5_work 27 = .ok (.baload, 1) := by decide +kernel
theorem dX5_work_28 : decode cX5_work 28 = .ok (.ifCond .eq 64, 3) := by decide +kernel
theorem dX5_work_31 : decode cX5_work 31 = .ok (.aload_n 0, 1) := by decide +kernel
theorem dX5_work_32 : decode cX5_work 32 = .ok (.getfield 15, 3) := by decide +kernel
theorem dX5_work_35 : decode cX5_work 35 = .ok (.iload_n 2, 1) := by decide +kernel
theorem dX5_work_36 : decode cX5_work 36 = .ok (.iaload, 1) := by decide +kernel
theorem dX5_work_37 : decode cX5_work 37 = .ok (.ifCond .le 55, 3) := by decide +kernel
theorem dX5_work_40 : decode cX5_work 40 = .ok (.iload_n 3, 1) := by decide +kernel
theorem dX5_work_41 : decode cX5_work 41 = .ok (.ifCond .le 51, 3) := by decide +kernel
theorem dX5_work_44 : decode cX5_work 44 = .ok (.aload_n 0, 1) := by decide +kernel
theorem dX5_work_45 : decode cX5_work 45 = .ok (.getfield 9, 3) := by decide +kernel
theorem dX5_work_48 : decode cX5_work 48 = .ok (.iload_n 2, 1) := by decide +kernel
theorem dX5_work_49 : decode cX5_work 49 = .ok (.iaload, 1) := by decide +kernel
theorem dX5_work_50 : decode cX5_work 50 = .ok (.iload_n 3, 1) := by decide +kernel
theorem dX5_work_51 : decode cX5_work 51 = .ok (.invokestatic 41, 3) := by decide +kernel
theorem dX5_work_54 : decode cX5_work 54 = .ok (.istore 4, 2) := by decide +kernel
theorem dX5_work_56 : decode cX5_work 56 = .ok (.aload_n 1, 1) := by decide +kernel
theorem dX5_work_57 : decode cX5_work 57 = .ok (.getfield 36, 3) := by decide +kernel
theorem dX5_work_60 : decode cX5_work 60 = .ok (.aload_n 0, 1) := by decide +kernel
theorem dX5_work_61 : decode cX5_work 61 = .ok (.getfield 29, 3) := by decide +kernel
theorem dX5_work_64 : decode cX5_work 64 = .ok (.iload_n 2, 1) := by decide +kernel
theorem dX5_work_65 : decode cX5_work 65 = .ok (.iaload, 1) := by decide +kernel
theorem dX5_work_66 : decode cX5_work 66 = .ok (.iload_n 3, 1) := by decide +kernel
theorem dX5_work_67 : decode cX5_work 67 = .ok (.iload 4, 2) := by decide +kernel
theorem dX5_work_69 : decode cX5_work 69 = .ok (.isub, 1) := by decide +kernel
theorem dX5_work_70 : decode cX5_work 70 = .ok (.iastore, 1) := by decide +kernel
theorem dX5_work_71 : decode cX5_work 71 = .ok (.aload_n 0, 1) := by decide +kernel
theorem dX5_work_72 : decode cX5_work 72 = .ok (.getfield 22, 3) := by decide +kernel
theorem dX5_work_75 : decode cX5_work 75 = .ok (.iload_n 2, 1) := by decide +kernel
theorem dX5_work_76 : decode cX5_work 76 = .ok (.dup2, 1) := by decide +kernel
theorem dX5_work_77 : decode cX5_work 77 = .ok (.iaload, 1) := by decide +kernel
theorem dX5_work_78 : decode cX5_work 78 = .ok (.iload 4, 2) := by decide +kernel
theorem dX5_work_80 : decode cX5_work 80 = .ok (.iadd, 1) := by decide +kernel
theorem dX5_work_81 : decode cX5_work 81 = .ok (.iastore, 1) := by decide +kernel
theorem dX5_work_82 : decode cX5_work 82 = .ok (.aload_n 0, 1) := by decide +kernel
theorem dX5_work_83 : decode cX5_work 83 = .ok (.getfield 15, 3) := by decide +kernel
theorem dX5_work_86 : decode cX5_work 86 = .ok (.iload_n 2, 1) := by decide +kernel
theorem dX5_work_87 : decode cX5_work 87 = .ok (.dup2, 1) := by decide +kernel
theorem dX5_work_88 : decode cX5_work 88 = .ok (.iaload, 1) := by decide +kernel
theorem dX5_work_89 : decode cX5_work 89 = .ok (.iconst 1, 1) := by decide +kernel
theorem dX5_work_90 : decode cX5_work 90 = .ok (.isub, 1) := by decide +kernel
theorem dX5_work_91 : decode cX5_work 91 = .ok (.iastore, 1) := by decide +kernel
theorem dX5_work_92 : decode cX5_work 92 = .ok (.iinc 2 1, 3) := by decide +kernel
theorem dX5_work_95 : decode cX5_work 95 = .ok (.goto (-93), 3) := by decide +kernel
theorem dX5_work_98 : decode cX5_work 98 = .ok (.return_, 1) := by decide +kernel
theorem dX5_fuelOfAll_0 : decode cX5_fuelOfAll 0 = .ok (.iconst 0, 1) := by decide +kernel
theorem dX5_fuelOfAll_1 : decode cX5_fuelOfAll 1 = .ok (.istore_n 1, 1) := by decide +kernel
theorem dX5_fuelOfAll_2 : decode cX5_fuelOfAll 2 = .ok (.iconst 0, 1) := by decide +kernel
theorem dX5_fuelOfAll_3 : decode cX5_fuelOfAll 3 = .ok (.istore_n 2, 1) := by decide +kernel
theorem dX5_fuelOfAll_4 : decode cX5_fuelOfAll 4 = .ok (.iload_n 2, 1) := by decide +kernel
theorem dX5_fuelOfAll_5 : decode cX5_fuelOfAll 5 = .ok (.aload_n 0, 1) := by decide +kernel
theorem dX5_fuelOfAll_6 : decode cX5_fuelOfAll 6 = .ok (.getfield 25, 3) := by decide +kernel
theorem dX5_fuelOfAll_9 : decode cX5_fuelOfAll 9 = .ok (.if_icmp .ge 18, 3) := by decide +kernel
theorem dX5_fuelOfAll_12 : decode cX5_fuelOfAll 12 = .ok (.iload_n 1, 1) := by decide +kernel
theorem dX5_fuelOfAll_13 : decode cX5_fuelOfAll 13 = .ok (.aload_n 0, 1) := by decide +kernel
theorem dX5_fuelOfAll_14 : decode cX5_fuelOfAll 14 = .ok (.getfield 15, 3) := by decide +kernel
theorem dX5_fuelOfAll_17 : decode cX5_fuelOfAll 17 = .ok (.iload_n 2, 1) := by decide +kernel
theorem dX5_fuelOfAll_18 : decode cX5_fuelOfAll 18 = .ok (.iaload, 1) := by decide +kernel
theorem dX5_fuelOfAll_19 : decode cX5_fuelOfAll 19 = .ok (.iadd, 1) := by decide +kernel
theorem dX5_fuelOfAll_20 : decode cX5_fuelOfAll 20 = .ok (.istore_n 1, 1) := by decide +kernel
theorem dX5_fuelOfAll_21 : decode cX5_fuelOfAll 21 = .ok (.iinc 2 1, 3) := by decide +kernel
theorem dX5_fuelOfAll_24 : decode cX5_fuelOfAll 24 = .ok (.goto (-20), 3) := by decide +kernel
theorem dX5_fuelOfAll_27 : decode cX5_fuelOfAll 27 = .ok (.iload_n 1, 1) := by decide +kernel
theorem dX5_fuelOfAll_28 : decode cX5_fuelOfAll 28 = .ok (.ireturn, 1) := by decide +kernel
theorem dX5_tell_0 : decode cX5_tell 0 = .ok (.iload_n 2, 1) := by decide +kernel
theorem dX5_tell_1 : decode cX5_tell 1 = .ok (.tableswitch 76 0 4 #[35, 41, 47, 54, 61], 35) := by decide +kernel
theorem dX5_tell_36 : decode cX5_tell 36 = .ok (.aload_n 0, 1) := by decide +kernel
theorem dX5_tell_37 : decode cX5_tell 37 = .ok (.iload_n 1, 1) := by decide +kernel
theorem dX5_tell_38 : decode cX5_tell 38 = .ok (.invokevirtual 47, 3) := by decide +kernel
theorem dX5_tell_41 : decode cX5_tell 41 = .ok (.ireturn, 1) := by decide +kernel
theorem dX5_tell_42 : decode cX5_tell 42 = .ok (.aload_n 0, 1) := by decide +kernel
theorem dX5_tell_43 : decode cX5_tell 43 = .ok (.iload_n 1, 1) := by decide +kernel
theorem dX5_tell_44 : decode cX5_tell 44 = .ok (.invokevirtual 51, 3) := by decide +kernel
theorem dX5_tell_47 : decode cX5_tell 47 = .ok (.ireturn, 1) := by decide +kernel
theorem dX5_tell_48 : decode cX5_tell 48 = .ok (.aload_n 0, 1) := by decide +kernel
theorem dX5_tell_49 : decode cX5_tell 49 = .ok (.getfield 9, 3) := by decide +kernel
theorem dX5_tell_52 : decode cX5_tell 52 = .ok (.iload_n 1, 1) := by decide +kernel
theorem dX5_tell_53 : decode cX5_tell 53 = .ok (.iaload, 1) := by decide +kernel
theorem dX5_tell_54 : decode cX5_tell 54 = .ok (.ireturn, 1) := by decide +kernel
theorem dX5_tell_55 : decode cX5_tell 55 = .ok (.aload_n 0, 1) := by decide +kernel
theorem dX5_tell_56 : decode cX5_tell 56 = .ok (.getfield 15, 3) := by decide +kernel
theorem dX5_tell_59 : decode cX5_tell 59 = .ok (.iload_n 1, 1) := by decide +kernel
theorem dX5_tell_60 : decode cX5_tell 60 = .ok (.iaload, 1) := by decide +kernel
theorem dX5_tell_61 : decode cX5_tell 61 = .ok (.ireturn, 1) := by decide +kernel
theorem dX5_tell_62 : decode cX5_tell 62 = .ok (.aload_n 0, 1) := by decide +kernel
theorem dX5_tell_63 : decode cX5_tell 63 = .ok (.getfield 18, 3) := by decide +kernel
theorem dX5_tell_66 : decode cX5_tell 66 = .ok (.iload_n 1, 1) := by decide +kernel
theorem dX5_tell_67 : decode cX5_tell 67 = .ok (.baload, 1) := by decide +kernel
theorem dX5_tell_68 : decode cX5_tell 68 = .ok (.ifCond .eq 7, 3) := by decide +kernel
theorem dX5_tell_71 : decode cX5_tell 71 = .ok (.iconst 1, 1) := by decide +kernel
theorem dX5_tell_72 : decode cX5_tell 72 = .ok (.goto 4, 3) := by decide +kernel
theorem dX5_tell_75 : decode cX5_tell 75 = .ok (.iconst 0, 1) := by decide +kernel
theorem dX5_tell_76 : decode cX5_tell 76 = .ok (.ireturn, 1) := by decide +kernel
theorem dX5_tell_77 : decode cX5_tell 77 = .ok (.aload_n 0, 1) := by decide +kernel
theorem dX5_tell_78 : decode cX5_tell 78 = .ok (.getfield 22, 3) := by decide +kernel
theorem dX5_tell_81 : decode cX5_tell 81 = .ok (.iload_n 1, 1) := by decide +kernel
theorem dX5_tell_82 : decode cX5_tell 82 = .ok (.iaload, 1) := by decide +kernel
theorem dX5_tell_83 : decode cX5_tell 83 = .ok (.ireturn, 1) := by decide +kernel
theorem dX6_init_0 : decode cX6_init 0 = .ok (.aload_n 0, 1) := by decide +kernel
theorem dX6_init_1 : decode cX6_init 1 = .ok (.iconst 4, 1) := by decide +kernel
theorem dX6_init_2 : decode cX6_init 2 = .ok (.newarray .int, 2) := by decide +kernel
theorem dX6_init_4 : decode cX6_init 4 = .ok (.invokespecial 3, 3) := by decide +kernel
theorem dX6_init_7 : decode cX6_init 7 = .ok (.aload_n 0, 1) := by decide +kernel
theorem dX6_init_8 : decode cX6_init 8 = .ok (.iconst 4, 1) := by decide +kernel
theorem dX6_init_9 : decode cX6_init 9 = .ok (.newarray .int, 2) := by decide +kernel
theorem dX6_init_11 : decode cX6_init 11 = .ok (.putfield 9, 3) := by decide +kernel
theorem dX6_init_14 : decode cX6_init 14 = .ok (.aload_n 0, 1) := by decide +kernel
theorem dX6_init_15 : decode cX6_init 15 = .ok (.iconst 4, 1) := by decide +kernel
theorem dX6_init_16 : decode cX6_init 16 = .ok (.newarray .int, 2) := by decide +kernel
theorem dX6_init_18 : decode cX6_init 18 = .ok (.putfield 15, 3) := by decide +kernel
theorem dX6_init_21 : decode cX6_init 21 = .ok (.aload_n 0, 1) := by decide +kernel
theorem dX6_init_22 : decode cX6_init 22 = .ok (.iconst 4, 1) := by decide +kernel
theorem dX6_init_23 : decode cX6_init 23 = .ok (.newarray .int, 2) := by decide +kernel
theorem dX6_init_25 : decode cX6_init 25 = .ok (.putfield 18, 3) := by decide +kernel
theorem dX6_init_28 : decode cX6_init 28 = .ok (.return_, 1) := by decide +kernel
theorem dX6_open_0 : decode cX6_open 0 = .ok (.aload_n 0, 1) := by decide +kernel
theorem dX6_open_1 : decode cX6_open 1 = .ok (.getfield 21, 3) := by decide +kernel
theorem dX6_open_4 : decode cX6_open 4 = .ok (.istore_n 3, 1) := by decide +kernel
theorem dX6_open_5 : decode cX6_open 5 = .ok (.aload_n 0, 1) := by decide +kernel
theorem dX6_open_6 : decode cX6_open 6 = .ok (.getfield 25, 3) := by decide +kernel
theorem dX6_open_9 : decode cX6_open 9 = .ok (.iload_n 3, 1) := by decide +kernel
theorem dX6_open_10 : decode cX6_open 10 = .ok (.iload_n 1, 1) := by decide +kernel
theorem dX6_open_11 : decode cX6_open 11 = .ok (.iastore, 1) := by decide +kernel
theorem dX6_open_12 : decode cX6_open 12 = .ok (.aload_n 0, 1) := by decide +kernel
theorem dX6_open_13 : decode cX6_open 13 = .ok (.getfield 9, 3) := by decide +kernel
theorem dX6_open_16 : decode cX6_open 16 = .ok (.iload_n 3, 1) := by decide +kernel
theorem dX6_open_17 : decode cX6_open 17 = .ok (.iload_n 2, 1) := by decide +kernel
theorem dX6_open_18 : decode cX6_open 18 = .ok (.iastore, 1) := by decide +kernel
theorem dX6_open_19 : decode cX6_open 19 = .ok (.aload_n 0, 1) := by decide +kernel
theorem dX6_open_20 : decode cX6_open 20 = .ok (.dup, 1) := by decide +kernel
theorem dX6_open_21 : decode cX6_open 21 = .ok (.getfield 21, 3) := by decide +kernel
theorem dX6_open_24 : decode cX6_open 24 = .ok (.iconst 1, 1) := by decide +kernel
theorem dX6_open_25 : decode cX6_open 25 = .ok (.iadd, 1) := by decide +kernel
theorem dX6_open_26 : decode cX6_open 26 = .ok (.putfield 21, 3) := by decide +kernel
theorem dX6_open_29 : decode cX6_open 29 = .ok (.iload_n 3, 1) := by decide +kernel
theorem dX6_open_30 : decode cX6_open 30 = .ok (.ireturn, 1) := by decide +kernel
theorem dX6_copyFrom_0 : decode cX6_copyFrom 0 = .ok (.aload_n 0, 1) := by decide +kernel
theorem dX6_copyFrom_1 : decode cX6_copyFrom 1 = .ok (.aload_n 1, 1) := by decide +kernel
theorem dX6_copyFrom_2 : decode cX6_copyFrom 2 = .ok (.invokevirtual 28, 3) := by decide +kernel
theorem dX6_copyFrom_5 : decode cX6_copyFrom 5 = .ok (.iconst 0, 1) := by decide +kernel
theorem dX6_copyFrom_6 : decode cX6_copyFrom 6 = .ok (.istore_n 2, 1) := by decide +kernel
theorem dX6_copyFrom_7 : decode cX6_copyFrom 7 = .ok (.iload_n 2, 1) := by decide +kernel
theorem dX6_copyFrom_8 : decode cX6_copyFrom 8 = .ok (.aload_n 0, 1) := by decide +kernel
theorem dX6_copyFrom_9 : decode cX6_copyFrom 9 = .ok (.getfield 21, 3) := by decide +kernel
theorem dX6_copyFrom_12 : decode cX6_copyFrom 12 = .ok (.if_icmp .ge 45, 3) := by decide +kernel
theorem dX6_copyFrom_15 : decode cX6_copyFrom 15 = .ok (.aload_n 0, 1) := by decide +kernel
theorem dX6_copyFrom_16 : decode cX6_copyFrom 16 = .ok (.getfield 9, 3) := by decide +kernel
theorem dX6_copyFrom_19 : decode cX6_copyFrom 19 = .ok (.iload_n 2, 1) := by decide +kernel
theorem dX6_copyFrom_20 : decode cX6_copyFrom 20 = .ok (.aload_n 1, 1) := by decide +kernel
theorem dX6_copyFrom_21 : decode cX6_copyFrom 21 = .ok (.getfield 9, 3) := by decide +kernel
theorem dX6_copyFrom_24 : decode cX6_copyFrom 24 = .ok (.iload_n 2, 1) := by decide +kernel
theorem dX6_copyFrom_25 : decode cX6_copyFrom 25 = .ok (.iaload, 1) := by decide +kernel
theorem dX6_copyFrom_26 : decode cX6_copyFrom 26 = .ok (.iastore, 1) := by decide +kernel
theorem dX6_copyFrom_27 : decode cX6_copyFrom 27 = .ok (.aload_n 0, 1) := by decide +kernel
theorem dX6_copyFrom_28 : decode cX6_copyFrom 28 = .ok (.getfield 15, 3) := by decide +kernel
theorem dX6_copyFrom_31 : decode cX6_copyFrom 31 = .ok (.iload_n 2, 1) := by decide +kernel
theorem dX6_copyFrom_32 : decode cX6_copyFrom 32 = .ok (.aload_n 1, 1) := by decide +kernel
theorem dX6_copyFrom_33 : decode cX6_copyFrom 33 = .ok (.getfield 15, 3) := by decide +kernel
theorem dX6_copyFrom_36 : decode cX6_copyFrom 36 = .ok (.iload_n 2, 1) := by decide +kernel
theorem dX6_copyFrom_37 : decode cX6_copyFrom 37 = .ok (.iaload, 1) := by decide +kernel
theorem dX6_copyFrom_38 : decode cX6_copyFrom 38 = .ok (.iastore, 1) := by decide +kernel
theorem dX6_copyFrom_39 : decode cX6_copyFrom 39 = .ok (.aload_n 0, 1) := by decide +kernel
theorem dX6_copyFrom_40 : decode cX6_copyFrom 40 = .ok (.getfield 18, 3) := by decide +kernel
theorem dX6_copyFrom_43 : decode cX6_copyFrom 43 = .ok (.iload_n 2, 1) := by decide +kernel
theorem dX6_copyFrom_44 : decode cX6_copyFrom 44 = .ok (.aload_n 1, 1) := by decide +kernel
theorem dX6_copyFrom_45 : decode cX6_copyFrom 45 = .ok (.getfield 18, 3) := by decide +kernel
theorem dX6_copyFrom_48 : decode cX6_copyFrom 48 = .ok (.iload_n 2, 1) := by decide +kernel
theorem dX6_copyFrom_49 : decode cX6_copyFrom 49 = .ok (.iaload, 1) := by decide +kernel
theorem dX6_copyFrom_50 : decode cX6_copyFrom 50 = .ok (.iastore, 1) := by decide +kernel
theorem dX6_copyFrom_51 : decode cX6_copyFrom 51 = .ok (.iinc 2 1, 3) := by decide +kernel
theorem dX6_copyFrom_54 : decode cX6_copyFrom 54 = .ok (.goto (-47), 3) := by decide +kernel
theorem dX6_copyFrom_57 : decode cX6_copyFrom 57 = .ok (.return_, 1) := by decide +kernel
theorem dX6_hasRoomFor_0 : decode cX6_hasRoomFor 0 = .ok (.aload_n 0, 1) := by decide +kernel
theorem dX6_hasRoomFor_1 : decode cX6_hasRoomFor 1 = .ok (.getfield 9, 3) := by decide +kernel
theorem dX6_hasRoomFor_4 : decode cX6_hasRoomFor 4 = .ok (.iload_n 1, 1) := by decide +kernel
theorem dX6_hasRoomFor_5 : decode cX6_hasRoomFor 5 = .ok (.iaload, 1) := by decide +kernel
theorem dX6_hasRoomFor_6 : decode cX6_hasRoomFor 6 = .ok (.aload_n 0, 1) := by decide +kernel
theorem dX6_hasRoomFor_7 : decode cX6_hasRoomFor 7 = .ok (.getfield 15, 3) := by decide +kernel
theorem dX6_hasRoomFor_10 : decode cX6_hasRoomFor 10 = .ok (.iload_n 1, 1) := by decide +kernel
theorem dX6_hasRoomFor_11 : decode cX6_hasRoomFor 11 = .ok (.iaload, 1) := by decide +kernel
theorem dX6_hasRoomFor_12 : decode cX6_hasRoomFor 12 = .ok (.isub, 1) := by decide +kernel
theorem dX6_hasRoomFor_13 : decode cX6_hasRoomFor 13 = .ok (.iload_n 2, 1) := by decide +kernel
theorem dX6_hasRoomFor_14 : decode cX6_hasRoomFor 14 = .ok (.if_icmp .lt 7, 3) := by decide +kernel
theorem dX6_hasRoomFor_17 : decode cX6_hasRoomFor 17 = .ok (.iconst 1, 1) := by decide +kernel
theorem dX6_hasRoomFor_18 : decode cX6_hasRoomFor 18 = .ok (.goto 4, 3) := by decide +kernel
theorem dX6_hasRoomFor_21 : decode cX6_hasRoomFor 21 = .ok (.iconst 0, 1) := by decide +kernel
theorem dX6_hasRoomFor_22 : decode cX6_hasRoomFor 22 = .ok (.ireturn, 1) := by decide +kernel
theorem dX6_takeIn_0 : decode cX6_takeIn 0 = .ok (.aload_n 0, 1) := by decide +kernel
theorem dX6_takeIn_1 : decode cX6_takeIn 1 = .ok (.getfield 15, 3) := by decide +kernel
theorem dX6_takeIn_4 : decode cX6_takeIn 4 = .ok (.iload_n 1, 1) := by decide +kernel
theorem dX6_takeIn_5 : decode cX6_takeIn 5 = .ok (.dup2, 1) := by decide +kernel
theorem dX6_takeIn_6 : decode cX6_takeIn 6 = .ok (.iaload, 1) := by decide +kernel
theorem dX6_takeIn_7 : decode cX6_takeIn 7 = .ok (.iload_n 2, 1) := by decide +kernel
theorem dX6_takeIn_8 : decode cX6_takeIn 8 = .ok (.iadd, 1) := by decide +kernel
theorem dX6_takeIn_9 : decode cX6_takeIn 9 = .ok (.iastore, 1) := by decide +kernel
theorem dX6_takeIn_10 : decode cX6_takeIn 10 = .ok (.aload_n 0, 1) := by decide +kernel
theorem dX6_takeIn_11 : decode cX6_takeIn 11 = .ok (.getfield 18, 3) := by decide +kernel
theorem dX6_takeIn_14 : decode cX6_takeIn 14 = .ok (.iload_n 1, 1) := by decide +kernel
theorem dX6_takeIn_15 : decode cX6_takeIn 15 = .ok (.dup2, 1) := by decide +kernel
theorem dX6_takeIn_16 : decode cX6_takeIn 16 = .ok (.iaload, 1) := by decide +kernel
theorem dX6_takeIn_17 : decode cX6_takeIn 17 = .ok (.iconst 1, 1) := by decide +kernel
theorem dX6_takeIn_18 : decode cX6_takeIn 18 = .ok (.iadd, 1) := by decide +kernel
theorem dX6_takeIn_19 : decode cX6_takeIn 19 = .ok (.iastore, 1) := by decide +kernel
theorem dX6_takeIn_20 : decode cX6_takeIn 20 = .ok (.return_, 1) := by decide +kernel
theorem dX6_nearestWithRoom_0 : decode cX6_nearestWithRoom 0 = .ok (.iconst (-1), 1) := by decide +kernel
theorem dX6_nearestWithRoom_1 : decode cX6_nearestWithRoom 1 = .ok (.istore_n 3, 1) := by decide +kernel
theorem dX6_nearestWithRoom_2 : decode cX6_nearestWithRoom 2 = .ok (.iconst (-1), 1) := by decide +kernel
theorem dX6_nearestWithRoom_3 : decode cX6_nearestWithRoom 3 = .ok (.istore 4, 2) := by decide +kernel
theorem dX6_nearestWithRoom_5 : decode cX6_nearestWithRoom 5 = .ok (.iconst 0, 1) := by decide +kernel
theorem dX6_nearestWithRoom_6 : decode cX6_nearestWithRoom 6 = .ok (.istore 5, 2) := by decide +kernel
theorem dX6_nearestWithRoom_8 : decode cX6_nearestWithRoom 8 = .ok (.iload 5, 2) := by decide +kernel
theorem dX6_nearestWithRoom_10 : decode cX6_nearestWithRoom 10 = .ok (.aload_n 0, 1) := by decide +kernel
theorem dX6_nearestWithRoom_11 : decode cX6_nearestWithRoom 11 = .ok (.getfield 21, 3) := by decide +kernel
theorem dX6_nearestWithRoom_14 : decode cX6_nearestWithRoom 14 = .ok (.if_icmp .ge 47, 3) := by decide +kernel
theorem dX6_nearestWithRoom_17 : decode cX6_nearestWithRoom 17 = .ok (.aload_n 0, 1) := by decide +kernel
theorem dX6_nearestWithRoom_18 : decode cX6_nearestWithRoom 18 = .ok (.iload 5, 2) := by decide +kernel
theorem dX6_nearestWithRoom_20 : decode cX6_nearestWithRoom 20 = .ok (.iload_n 1, 1) := by decide +kernel
theorem dX6_nearestWithRoom_21 : decode cX6_nearestWithRoom 21 = .ok (.invokevirtual 32, 3) := by decide +kernel
theorem dX6_nearestWithRoom_24 : decode cX6_nearestWithRoom 24 = .ok (.ifCond .eq 31, 3) := by decide +kernel
theorem dX6_nearestWithRoom_27 : decode cX6_nearestWithRoom 27 = .ok (.aload_n 2, 1) := by decide +kernel
theorem dX6_nearestWithRoom_28 : decode cX6_nearestWithRoom 28 = .ok (.aload_n 0, 1) := by decide +kernel
theorem dX6_nearestWithRoom_29 : decode cX6_nearestWithRoom 29 = .ok (.getfield 25, 3) := by decide +kernel
theorem dX6_nearestWithRoom_32 : decode cX6_nearestWithRoom 32 = .ok (.iload 5, 2) := by decide +kernel
theorem dX6_nearestWithRoom_34 : decode cX6_nearestWithRoom 34 = .ok (.iaload, 1) := by decide +kernel
theorem dX6_nearestWithRoom_35 : decode cX6_nearestWithRoom 35 = .ok (.iload 4, 2) := by decide +kernel
theorem dX6_nearestWithRoom_37 : decode cX6_nearestWithRoom 37 = .ok (.invokevirtual 36, 3) := by decide +kernel
theorem dX6_nearestWithRoom_40 : decode cX6_nearestWithRoom 40 = .ok (.ifCond .eq 15, 3) := by decide +kernel
theorem dX6_nearestWithRoom_43 : decode cX6_nearestWithRoom 43 = .ok (.iload 5, 2) := by decide +kernel
theorem dX6_nearestWithRoom_45 : decode cX6_nearestWithRoom 45 = .ok (.istore_n 3, 1) := by decide +kernel
theorem dX6_nearestWithRoom_46 : decode cX6_nearestWithRoom 46 = .ok (.aload_n 0, 1) := by decide +kernel
theorem dX6_nearestWithRoom_47 : decode cX6_nearestWithRoom 47 = .ok (.getfield 25, 3) := by decide +kernel
theorem dX6_nearestWithRoom_50 : decode cX6_nearestWithRoom 50 = .ok (.iload 5, 2) := by decide +kernel
theorem dX6_nearestWithRoom_52 : decode cX6_nearestWithRoom 52 = .ok (.iaload, 1) := by decide +kernel
theorem dX6_nearestWithRoom_53 : decode cX6_nearestWithRoom 53 = .ok (.istore 4, 2) := by decide +kernel
theorem dX6_nearestWithRoom_55 : decode cX6_nearestWithRoom 55 = .ok (.iinc 5 1, 3) := by decide +kernel
theorem dX6_nearestWithRoom_58 : decode cX6_nearestWithRoom 58 = .ok (.goto (-50), 3) := by decide +kernel
theorem dX6_nearestWithRoom_61 : decode cX6_nearestWithRoom 61 = .ok (.iload_n 3, 1) := by decide +kernel
theorem dX6_nearestWithRoom_62 : decode cX6_nearestWithRoom 62 = .ok (.ireturn, 1) := by decide +kernel
theorem dX6_tell_0 : decode cX6_tell 0 = .ok (.iload_n 2, 1) := by decide +kernel
theorem dX6_tell_1 : decode cX6_tell 1 = .ok (.tableswitch 57 0 3 #[31, 37, 43, 50], 31) := by decide +kernel
theorem dX6_tell_32 : decode cX6_tell 32 = .ok (.aload_n 0, 1) := by decide +kernel
theorem dX6_tell_33 : decode cX6_tell 33 = .ok (.iload_n 1, 1) := by decide +kernel
theorem dX6_tell_34 : decode cX6_tell 34 = .ok (.invokevirtual 41, 3) := by decide +kernel
theorem dX6_tell_37 : decode cX6_tell 37 = .ok (.ireturn, 1) := by decide +kernel
theorem dX6_tell_38 : decode cX6_tell 38 = .ok (.aload_n 0, 1) := by decide +kernel
theorem dX6_tell_39 : decode cX6_tell 39 = .ok (.iload_n 1, 1) := by decide +kernel
theorem dX6_tell_40 : decode cX6_tell 40 = .ok (.invokevirtual 45, 3) := by decide +kernel
theorem dX6_tell_43 : decode cX6_tell 43 = .ok (.ireturn, 1) := by decide +kernel
theorem dX6_tell_44 : decode cX6_tell 44 = .ok (.aload_n 0, 1) := by decide +kernel
theorem dX6_tell_45 : decode cX6_tell 45 = .ok (.getfield 9, 3) := by decide +kernel
theorem dX6_tell_48 : decode cX6_tell 48 = .ok (.iload_n 1, 1) := by decide +kernel
theorem dX6_tell_49 : decode cX6_tell 49 = .ok (.iaload, 1) := by decide +kernel
theorem dX6_tell_50 : decode cX6_tell 50 = .ok (.ireturn, 1) := by decide +kernel
theorem dX6_tell_51 : decode cX6_tell 51 = .ok (.aload_n 0, 1) := by decide +kernel
theorem dX6_tell_52 : decode cX6_tell 52 = .ok (.getfield 15, 3) := by decide +kernel
theorem dX6_tell_55 : decode cX6_tell 55 = .ok (.iload_n 1, 1) := by decide +kernel
theorem dX6_tell_56 : decode cX6_tell 56 = .ok (.iaload, 1) := by decide +kernel
theorem dX6_tell_57 : decode cX6_tell 57 = .ok (.ireturn, 1) := by decide +kernel
theorem dX6_tell_58 : decode cX6_tell 58 = .ok (.aload_n 0, 1) := by decide +kernel
theorem dX6_tell_59 : decode cX6_tell 59 = .ok (.getfield 18, 3) := by decide +kernel
theorem dX6_tell_62 : decode cX6_tell 62 = .ok (.iload_n 1, 1) := by decide +kernel
theorem dX6_tell_63 : decode cX6_tell 63 = .ok (.iaload, 1) := by decide +kernel
theorem dX6_tell_64 : decode cX6_tell 64 = .ok (.ireturn, 1) := by decide +kernel
theorem dX7_init_0 : decode cX7_init 0 = .ok (.aload_n 0, 1) := by decide +kernel
theorem dX7_init_1 : decode cX7_init 1 = .ok (.invokespecial 3, 3) := by decide +kernel
theorem dX7_init_4 : decode cX7_init 4 = .ok (.aload_n 0, 1) := by decide +kernel
theorem dX7_init_5 : decode cX7_init 5 = .ok (.new 9, 3) := by decide +kernel
theorem dX7_init_8 : decode cX7_init 8 = .ok (.dup, 1) := by decide +kernel
theorem dX7_init_9 : decode cX7_init 9 = .ok (.invokespecial 11, 3) := by decide +kernel
theorem dX7_init_12 : decode cX7_init 12 = .ok (.putfield 12, 3) := by decide +kernel
theorem dX7_init_15 : decode cX7_init 15 = .ok (.aload_n 0, 1) := by decide +kernel
theorem dX7_init_16 : decode cX7_init 16 = .ok (.new 18, 3) := by decide +kernel
theorem dX7_init_19 : decode cX7_init 19 = .ok (.dup, 1) := by decide +kernel
theorem dX7_init_20 : decode cX7_init 20 = .ok (.invokespecial 20, 3) := by decide +kernel
theorem dX7_init_23 : decode cX7_init 23 = .ok (.putfield 21, 3) := by decide +kernel
theorem dX7_init_26 : decode cX7_init 26 = .ok (.aload_n 0, 1) := by decide +kernel
theorem dX7_init_27 : decode cX7_init 27 = .ok (.new 25, 3) := by decide +kernel
theorem dX7_init_30 : decode cX7_init 30 = .ok (.dup, 1) := by decide +kernel
theorem dX7_init_31 : decode cX7_init 31 = .ok (.invokespecial 27, 3) := by decide +kernel
theorem dX7_init_34 : decode cX7_init 34 = .ok (.putfield 28, 3) := by decide +kernel
theorem dX7_init_37 : decode cX7_init 37 = .ok (.aload_n 0, 1) := by decide +kernel
theorem dX7_init_38 : decode cX7_init 38 = .ok (.new 32, 3) := by decide +kernel
theorem dX7_init_41 : decode cX7_init 41 = .ok (.dup, 1) := by decide +kernel
theorem dX7_init_42 : decode cX7_init 42 = .ok (.invokespecial 34, 3) := by decide +kernel
theorem dX7_init_45 : decode cX7_init 45 = .ok (.putfield 35, 3) := by decide +kernel
theorem dX7_init_48 : decode cX7_init 48 = .ok (.aload_n 0, 1) := by decide +kernel
theorem dX7_init_49 : decode cX7_init 49 = .ok (.new 39, 3) := by decide +kernel
theorem dX7_init_52 : decode cX7_init 52 = .ok (.dup, 1) := by decide +kernel
theorem dX7_init_53 : decode cX7_init 53 = .ok (.invokespecial 41, 3) := by decide +kernel
theorem dX7_init_56 : decode cX7_init 56 = .ok (.putfield 42, 3) := by decide +kernel
theorem dX7_init_59 : decode cX7_init 59 = .ok (.aload_n 0, 1) := by decide +kernel
theorem dX7_init_60 : decode cX7_init 60 = .ok (.new 46, 3) := by decide +kernel
theorem dX7_init_63 : decode cX7_init 63 = .ok (.dup, 1) := by decide +kernel
theorem dX7_init_64 : decode cX7_init 64 = .ok (.invokespecial 48, 3) := by decide +kernel
theorem dX7_init_67 : decode cX7_init 67 = .ok (.putfield 49, 3) := by decide +kernel
theorem dX7_init_70 : decode cX7_init 70 = .ok (.aload_n 0, 1) := by decide +kernel
theorem dX7_init_71 : decode cX7_init 71 = .ok (.new 53, 3) := by decide +kernel
theorem dX7_init_74 : decode cX7_init 74 = .ok (.dup, 1) := by decide +kernel
theorem dX7_init_75 : decode cX7_init 75 = .ok (.invokespecial 55, 3) := by decide +kernel
theorem dX7_init_78 : decode cX7_init 78 = .ok (.putfield 56, 3) := by decide +kernel
theorem dX7_init_81 : decode cX7_init 81 = .ok (.return_, 1) := by decide +kernel
theorem dX7_copyFrom_0 : decode cX7_copyFrom 0 = .ok (.aload_n 0, 1) := by decide +kernel
theorem dX7_copyFrom_1 : decode cX7_copyFrom 1 = .ok (.aload_n 1, 1) := by decide +kernel
theorem dX7_copyFrom_2 : decode cX7_copyFrom 2 = .ok (.getfield 60, 3) := by decide +kernel
theorem dX7_copyFrom_5 : decode cX7_copyFrom 5 = .ok (.putfield 60, 3) := by decide +kernel
theorem dX7_copyFrom_8 : decode cX7_copyFrom 8 = .ok (.aload_n 0, 1) := by decide +kernel
theorem dX7_copyFrom_9 : decode cX7_copyFrom 9 = .ok (.getfield 12, 3) := by decide +kernel
theorem dX7_copyFrom_12 : decode cX7_copyFrom 12 = .ok (.aload_n 1, 1) := by decide +kernel
theorem dX7_copyFrom_13 : decode cX7_copyFrom 13 = .ok (.getfield 12, 3) := by decide +kernel
theorem dX7_copyFrom_16 : decode cX7_copyFrom 16 = .ok (.invokevirtual 64, 3) := by decide +kernel
theorem dX7_copyFrom_19 : decode cX7_copyFrom 19 = .ok (.aload_n 0, 1) := by decide +kernel
theorem dX7_copyFrom_20 : decode cX7_copyFrom 20 = .ok (.getfield 21, 3) := by decide +kernel
theorem dX7_copyFrom_23 : decode cX7_copyFrom 23 = .ok (.aload_n 1, 1) := by decide +kernel
theorem dX7_copyFrom_24 : decode cX7_copyFrom 24 = .ok (.getfield 21, 3) := by decide +kernel
theorem dX7_copyFrom_27 : decode cX7_copyFrom 27 = .ok (.invokevirtual 68, 3) := by decide +kernel
theorem dX7_copyFrom_30 : decode cX7_copyFrom 30 = .ok (.aload_n 0, 1) := by decide +kernel
theorem dX7_copyFrom_31 : decode cX7_copyFrom 31 = .ok (.getfield 28, 3) := by decide +kernel
theorem dX7_copyFrom_34 : decode cX7_copyFrom 34 = .ok (.aload_n 1, 1) := by decide +kernel
theorem dX7_copyFrom_35 : decode cX7_copyFrom 35 = .ok (.getfield 28, 3) := by decide +kernel
theorem dX7_copyFrom_38 : decode cX7_copyFrom 38 = .ok (.invokevirtual 71, 3) := by decide +kernel
theorem dX7_copyFrom_41 : decode cX7_copyFrom 41 = .ok (.aload_n 0, 1) := by decide +kernel
theorem dX7_copyFrom_42 : decode cX7_copyFrom 42 = .ok (.getfield 35, 3) := by decide +kernel
theorem dX7_copyFrom_45 : decode cX7_copyFrom 45 = .ok (.aload_n 1, 1) := by decide +kernel
theorem dX7_copyFrom_46 : decode cX7_copyFrom 46 = .ok (.getfield 35, 3) := by decide +kernel
theorem dX7_copyFrom_49 : decode cX7_copyFrom 49 = .ok (.invokevirtual 74, 3) := by decide +kernel
theorem dX7_copyFrom_52 : decode cX7_copyFrom 52 = .ok (.aload_n 0, 1) := by decide +kernel
theorem dX7_copyFrom_53 : decode cX7_copyFrom 53 = .ok (.getfield 42, 3) := by decide +kernel
theorem dX7_copyFrom_56 : decode cX7_copyFrom 56 = .ok (.aload_n 1, 1) := by decide +kernel
theorem dX7_copyFrom_57 : decode cX7_copyFrom 57 = .ok (.getfield 42, 3) := by decide +kernel
theorem dX7_copyFrom_60 : decode cX7_copyFrom 60 = .ok (.invokevirtual 77, 3) := by decide +kernel
theorem dX7_copyFrom_63 : decode cX7_copyFrom 63 = .ok (.aload_n 0, 1) := by decide +kernel
theorem dX7_copyFrom_64 : decode cX7_copyFrom 64 = .ok (.getfield 49, 3) := by decide +kernel
theorem dX7_copyFrom_67 : decode cX7_copyFrom 67 = .ok (.aload_n 1, 1) := by decide +kernel
theorem dX7_copyFrom_68 : decode cX7_copyFrom 68 = .ok (.getfield 49, 3) := by decide +kernel
theorem dX7_copyFrom_71 : decode cX7_copyFrom 71 = .ok (.invokevirtual 80, 3) := by decide +kernel
theorem dX7_copyFrom_74 : decode cX7_copyFrom 74 = .ok (.return_, 1) := by decide +kernel
theorem dX7_passHours_0 : decode cX7_passHours 0 = .ok (.iconst 0, 1) := by decide +kernel
theorem dX7_passHours_1 : decode cX7_passHours 1 = .ok (.istore_n 2, 1) := by decide +kernel
theorem dX7_passHours_2 : decode cX7_passHours 2 = .ok (.iload_n 2, 1) := by decide +kernel
theorem dX7_passHours_3 : decode cX7_passHours 3 = .ok (.iload_n 1, 1) := by decide +kernel
theorem dX7_passHours_4 : decode cX7_passHours 4 = .ok (.if_icmp .ge 13, 3) := by decide +kernel
theorem dX7_passHours_7 : decode cX7_passHours 7 = .ok (.aload_n 0, 1) := by decide +kernel
theorem dX7_passHours_8 : decode cX7_passHours 8 = .ok (.invokevirtual 83, 3) := by decide +kernel
theorem dX7_passHours_11 : decode cX7_passHours 11 = .ok (.iinc 2 1, 3) := by decide +kernel
theorem dX7_passHours_14 : decode cX7_passHours 14 = .ok (.goto (-12), 3) := by decide +kernel
theorem dX7_passHours_17 : decode cX7_passHours 17 = .ok (.return_, 1) := by decide +kernel
theorem dX7_passHour_0 : decode cX7_passHour 0 = .ok (.aload_n 0, 1) := by decide +kernel
theorem dX7_passHour_1 : decode cX7_passHour 1 = .ok (.invokevirtual 86, 3) := by decide +kernel
theorem dX7_passHour_4 : decode cX7_passHour 4 = .ok (.aload_n 0, 1) := by decide +kernel
theorem dX7_passHour_5 : decode cX7_passHour 5 = .ok (.getfield 28, 3) := by decide +kernel
theorem dX7_passHour_8 : decode cX7_passHour 8 = .ok (.aload_n 0, 1) := by decide +kernel
theorem dX7_passHour_9 : decode cX7_passHour 9 = .ok (.getfield 12, 3) := by decide +kernel
theorem dX7_passHour_12 : decode cX7_passHour 12 = .ok (.invokevirtual 89, 3) := by decide +kernel
theorem dX7_passHour_15 : decode cX7_passHour 15 = .ok (.ifCond .le 22, 3) := by decide +kernel
theorem dX7_passHour_18 : decode cX7_passHour 18 = .ok (.aload_n 0, 1) := by decide +kernel
theorem dX7_passHour_19 : decode cX7_passHour 19 = .ok (.getfield 49, 3) := by decide +kernel
theorem dX7_passHour_22 : decode cX7_passHour 22 = .ok (.aload_n 0, 1) := by decide +kernel
theorem dX7_passHour_23 : decode cX7_passHour 23 = .ok (.getfield 42, 3) := by decide +kernel
theorem dX7_passHour_26 : decode cX7_passHour 26 = .ok (.aload_n 0, 1) := by decide +kernel
theorem dX7_passHour_27 : decode cX7_passHour 27 = .ok (.getfield 56, 3) := by decide +kernel
theorem dX7_passHour_30 : decode cX7_passHour 30 = .ok (.aload_n 0, 1) := by decide +kernel
theorem dX7_passHour_31 : decode cX7_passHour 31 = .ok (.getfield 12, 3) := by decide +kernel
theorem dX7_passHour_34 : decode cX7_passHour 34 = .ok (.invokevirtual 93, 3) := by decide +kernel
theorem dX7_passHour_37 : decode cX7_passHour 37 = .ok (.aload_n 0, 1) := by decide +kernel
theorem dX7_passHour_38 : decode cX7_passHour 38 = .ok (.getfield 42, 3) := by decide +kernel
theorem dX7_passHour_41 : decode cX7_passHour 41 = .ok (.aload_n 0, 1) := by decide +kernel
theorem dX7_passHour_42 : decode cX7_passHour 42 = .ok (.getfield 35, 3) := by decide +kernel
theorem dX7_passHour_45 : decode cX7_passHour 45 = .ok (.aload_n 0, 1) := by decide +kernel
theorem dX7_passHour_46 : decode cX7_passHour 46 = .ok (.getfield 56, 3) := by decide +kernel
theorem dX7_passHour_49 : decode cX7_passHour 49 = .ok (.aload_n 0, 1) := by decide +kernel
theorem dX7_passHour_50 : decode cX7_passHour 50 = .ok (.getfield 12, 3) := by decide +kernel
theorem dX7_passHour_53 : decode cX7_passHour 53 = .ok (.invokevirtual 97, 3) := by decide +kernel
theorem dX7_passHour_56 : decode cX7_passHour 56 = .ok (.aload_n 0, 1) := by decide +kernel
theorem dX7_passHour_57 : decode cX7_passHour 57 = .ok (.getfield 42, 3) := by decide +kernel
theorem dX7_passHour_60 : decode cX7_passHour 60 = .ok (.aload_n 0, 1) := by decide +kernel
theorem dX7_passHour_61 : decode cX7_passHour 61 = .ok (.getfield 12, 3) := by decide +kernel
theorem dX7_passHour_64 : decode cX7_passHour 64 = .ok (.invokevirtual 101, 3) := by decide +kernel
theorem dX7_passHour_67 : decode cX7_passHour 67 = .ok (.return_, 1) := by decide +kernel
theorem dX7_passWaterHour_0 : decode cX7_passWaterHour 0 = .ok (.aload_n 0, 1) := by decide +kernel
theorem dX7_passWaterHour_1 : decode cX7_passWaterHour 1 = .ok (.getfield 12, 3) := by decide +kernel
theorem dX7_passWaterHour_4 : decode cX7_passWaterHour 4 = .ok (.aload_n 0, 1) := by decide +kernel
theorem dX7_passWaterHour_5 : decode cX7_passWaterHour 5 = .ok (.getfield 60, 3) := by decide +kernel
theorem dX7_passWaterHour_8 : decode cX7_passWaterHour 8 = .ok (.invokevirtual 104, 3) := by decide +kernel
theorem dX7_passWaterHour_11 : decode cX7_passWaterHour 11 = .ok (.aload_n 0, 1) := by decide +kernel
theorem dX7_passWaterHour_12 : decode cX7_passWaterHour 12 = .ok (.getfield 12, 3) := by decide +kernel
theorem dX7_passWaterHour_15 : decode cX7_passWaterHour 15 = .ok (.invokevirtual 108, 3) := by decide +kernel
theorem dX7_passWaterHour_18 : decode cX7_passWaterHour 18 = .ok (.aload_n 0, 1) := by decide +kernel
theorem dX7_passWaterHour_19 : decode cX7_passWaterHour 19 = .ok (.getfield 21, 3) := by decide +kernel
theorem dX7_passWaterHour_22 : decode cX7_passWaterHour 22 = .ok (.aload_n 0, 1) := by decide +kernel
theorem dX7_passWaterHour_23 : decode cX7_passWaterHour 23 = .ok (.getfield 12, 3) := by decide +kernel
theorem dX7_passWaterHour_26 : decode cX7_passWaterHour 26 = .ok (.invokevirtual 111, 3) := by decide +kernel
theorem dX7_passWaterHour_29 : decode cX7_passWaterHour 29 = .ok (.aload_n 0, 1) := by decide +kernel
theorem dX7_passWaterHour_30 : decode cX7_passWaterHour 30 = .ok (.dup, 1) := by decide +kernel
theorem dX7_passWaterHour_31 : decode cX7_passWaterHour 31 = .ok (.getfield 60, 3) := by decide +kernel
theorem dX7_passWaterHour_34 : decode cX7_passWaterHour 34 = .ok (.iconst 1, 1) := by decide +kernel
theorem dX7_passWaterHour_35 : decode cX7_passWaterHour 35 = .ok (.iadd, 1) := by decide +kernel
theorem dX7_passWaterHour_36 : decode cX7_passWaterHour 36 = .ok (.putfield 60, 3) := by decide +kernel
theorem dX7_passWaterHour_39 : decode cX7_passWaterHour 39 = .ok (.return_, 1) := by decide +kernel
theorem dX7_tellCell_0 : decode cX7_tellCell 0 = .ok (.iload_n 2, 1) := by decide +kernel
theorem dX7_tellCell_1 : decode cX7_tellCell 1 = .ok (.tableswitch 83 0 4 #[35, 45, 55, 65, 74], 35) := by decide +kernel
theorem dX7_tellCell_36 : decode cX7_tellCell 36 = .ok (.aload_n 0, 1) := by decide +kernel
theorem dX7_tellCell_37 : decode cX7_tellCell 37 = .ok (.getfield 12, 3) := by decide +kernel
theorem dX7_tellCell_40 : decode cX7_tellCell 40 = .ok (.getfield 114, 3) := by decide +kernel
theorem dX7_tellCell_43 : decode cX7_tellCell 43 = .ok (.iload_n 1, 1) := by decide +kernel
theorem dX7_tellCell_44 : decode cX7_tellCell 44 = .ok (.iaload, 1) := by decide +kernel
theorem dX7_tellCell_45 : decode cX7_tellCell 45 = .ok (.ireturn, 1) := by decide +kernel
theorem dX7_tellCell_46 : decode cX7_tellCell 46 = .ok (.aload_n 0, 1) := by decide +kernel
theorem dX7_tellCell_47 : decode cX7_tellCell 47 = .ok (.getfield 12, 3) := by decide +kernel
theorem dX7_tellCell_50 : decode cX7_tellCell 50 = .ok (.getfield 118, 3) := by decide +kernel
theorem dX7_tellCell_53 : decode cX7_tellCell 53 = .ok (.iload_n 1, 1) := by decide +kernel
theorem dX7_tellCell_54 : decode cX7_tellCell 54 = .ok (.iaload, 1) := by decide +kernel
theorem dX7_tellCell_55 : decode cX7_tellCell 55 = .ok (.ireturn, 1) := by decide +kernel
theorem dX7_tellCell_56 : decode cX7_tellCell 56 = .ok (.aload_n 0, 1) := by decide +kernel
theorem dX7_tellCell_57 : decode cX7_tellCell 57 = .ok (.getfield 12, 3) := by decide +kernel
theorem dX7_tellCell_60 : decode cX7_tellCell 60 = .ok (.getfield 121, 3) := by decide +kernel
theorem dX7_tellCell_63 : decode cX7_tellCell 63 = .ok (.iload_n 1, 1) := by decide +kernel
theorem dX7_tellCell_64 : decode cX7_tellCell 64 = .ok (.iaload, 1) := by decide +kernel
theorem dX7_tellCell_65 : decode cX7_tellCell 65 = .ok (.ireturn, 1) := by decide +kernel
theorem dX7_tellCell_66 : decode cX7_tellCell 66 = .ok (.aload_n 0, 1) := by decide +kernel
theorem dX7_tellCell_67 : decode cX7_tellCell 67 = .ok (.getfield 12, 3) := by decide +kernel
theorem dX7_tellCell_70 : decode cX7_tellCell 70 = .ok (.iload_n 1, 1) := by decide +kernel
theorem dX7_tellCell_71 : decode cX7_tellCell 71 = .ok (.invokevirtual 124, 3) := by decide +kernel
theorem dX7_tellCell_74 : decode cX7_tellCell 74 = .ok (.ireturn, 1) := by decide +kernel
theorem dX7_tellCell_75 : decode cX7_tellCell 75 = .ok (.aload_n 0, 1) := by decide +kernel
theorem dX7_tellCell_76 : decode cX7_tellCell 76 = .ok (.getfield 42, 3) := by decide +kernel
theorem dX7_tellCell_79 : decode cX7_tellCell 79 = .ok (.iload_n 1, 1) := by decide +kernel
theorem dX7_tellCell_80 : decode cX7_tellCell 80 = .ok (.invokevirtual 128, 3) := by decide +kernel
theorem dX7_tellCell_83 : decode cX7_tellCell 83 = .ok (.ireturn, 1) := by decide +kernel
theorem dX7_tellCell_84 : decode cX7_tellCell 84 = .ok (.aload_n 0, 1) := by decide +kernel
theorem dX7_tellCell_85 : decode cX7_tellCell 85 = .ok (.getfield 12, 3) := by decide +kernel
theorem dX7_tellCell_88 : decode cX7_tellCell 88 = .ok (.iload_n 1, 1) := by decide +kernel
theorem dX7_tellCell_89 : decode cX7_tellCell 89 = .ok (.invokevirtual 131, 3) := by decide +kernel
theorem dX7_tellCell_92 : decode cX7_tellCell 92 = .ok (.ifCond .eq 7, 3) := by decide +kernel
theorem dX7_tellCell_95 : decode cX7_tellCell 95 = .ok (.iconst 1, 1) := by decide +kernel
theorem dX7_tellCell_96 : decode cX7_tellCell 96 = .ok (.goto 4, 3) := by decide +kernel
theorem dX7_tellCell_99 : decode cX7_tellCell 99 = .ok (.iconst 0, 1) := by decide +kernel
theorem dX7_tellCell_100 : decode cX7_tellCell 100 = .ok (.ireturn, 1) := by decide +kernel
theorem dX7_tellHousehold_0 : decode cX7_tellHousehold 0 = .ok (.iload_n 2, 1) := by decide +kernel
theorem dX7_tellHousehold_1 : decode cX7_tellHousehold 1 = .ok (.tableswitch 69 0 3 #[31, 40, 49, 59], 31) := by decide +kernel
theorem dX7_tellHousehold_32 : decode cX7_tellHousehold 32 = .ok (.aload_n 0, 1) := by decide +kernel
theorem dX7_tellHousehold_33 : decode cX7_tellHousehold 33 = .ok (.getfield 42, 3) := by decide +kernel
theorem dX7_tellHousehold_36 : decode cX7_tellHousehold 36 = .ok (.iload_n 1, 1) := by decide +kernel
theorem dX7_tellHousehold_37 : decode cX7_tellHousehold 37 = .ok (.invokevirtual 135, 3) := by decide +kernel
theorem dX7_tellHousehold_40 : decode cX7_tellHousehold 40 = .ok (.ireturn, 1) := by decide +kernel
theorem dX7_tellHousehold_41 : decode cX7_tellHousehold 41 = .ok (.aload_n 0, 1) := by decide +kernel
theorem dX7_tellHousehold_42 : decode cX7_tellHousehold 42 = .ok (.getfield 42, 3) := by decide +kernel
theorem dX7_tellHousehold_45 : decode cX7_tellHousehold 45 = .ok (.iload_n 1, 1) := by decide +kernel
theorem dX7_tellHousehold_46 : decode cX7_tellHousehold 46 = .ok (.invokevirtual 138, 3) := by decide +kernel
theorem dX7_tellHousehold_49 : decode cX7_tellHousehold 49 = .ok (.ireturn, 1) := by decide +kernel
theorem dX7_tellHousehold_50 : decode cX7_tellHousehold 50 = .ok (.aload_n 0, 1) := by decide +kernel
theorem dX7_tellHousehold_51 : decode cX7_tellHousehold 51 = .ok (.getfield 42, 3) := by decide +kernel
theorem dX7_tellHousehold_54 : decode cX7_tellHousehold 54 = .ok (.getfield 141, 3) := by decide +kernel
theorem dX7_tellHousehold_57 : decode cX7_tellHousehold 57 = .ok (.iload_n 1, 1) := by decide +kernel
theorem dX7_tellHousehold_58 : decode cX7_tellHousehold 58 = .ok (.iaload, 1) := by decide +kernel
theorem dX7_tellHousehold_59 : decode cX7_tellHousehold 59 = .ok (.ireturn, 1) := by decide +kernel
theorem dX7_tellHousehold_60 : decode cX7_tellHousehold 60 = .ok (.aload_n 0, 1) := by decide +kernel
theorem dX7_tellHousehold_61 : decode cX7_tellHousehold 61 = .ok (.getfield 42, 3) := by decide +kernel
theorem dX7_tellHousehold_64 : decode cX7_tellHousehold 64 = .ok (.getfield 144, 3) := by decide +kernel
theorem dX7_tellHousehold_67 : decode cX7_tellHousehold 67 = .ok (.iload_n 1, 1) := by decide +kernel
theorem dX7_tellHousehold_68 : decode cX7_tellHousehold 68 = .ok (.iaload, 1) := by decide +kernel
theorem dX7_tellHousehold_69 : decode cX7_tellHousehold 69 = .ok (.ireturn, 1) := by decide +kernel
theorem dX7_tellHousehold_70 : decode cX7_tellHousehold 70 = .ok (.aload_n 0, 1) := by decide +kernel
theorem dX7_tellHousehold_71 : decode cX7_tellHousehold 71 = .ok (.iload_n 1, 1) := by decide +kernel
theorem dX7_tellHousehold_72 : decode cX7_tellHousehold 72 = .ok (.invokevirtual 147, 3) := by decide +kernel
theorem dX7_tellHousehold_75 : decode cX7_tellHousehold 75 = .ok (.ireturn, 1) := by decide +kernel
theorem dX7_stepsToRefuge_0 : decode cX7_stepsToRefuge 0 = .ok (.aload_n 0, 1) := by decide +kernel
theorem dX7_stepsToRefuge_1 : decode cX7_stepsToRefuge 1 = .ok (.getfield 42, 3) := by decide +kernel
theorem dX7_stepsToRefuge_4 : decode cX7_stepsToRefuge 4 = .ok (.getfield 144, 3) := by decide +kernel
theorem dX7_stepsToRefuge_7 : decode cX7_stepsToRefuge 7 = .ok (.iload_n 1, 1) := by decide +kernel
theorem dX7_stepsToRefuge_8 : decode cX7_stepsToRefuge 8 = .ok (.iaload, 1) := by decide +kernel
theorem dX7_stepsToRefuge_9 : decode cX7_stepsToRefuge 9 = .ok (.iconst 2, 1) := by decide +kernel
theorem dX7_stepsToRefuge_10 : decode cX7_stepsToRefuge 10 = .ok (.if_icmp .ne 5, 3) := by decide +kernel
theorem dX7_stepsToRefuge_13 : decode cX7_stepsToRefuge 13 = .ok (.iconst 0, 1) := by decide +kernel
theorem dX7_stepsToRefuge_14 : decode cX7_stepsToRefuge 14 = .ok (.ireturn, 1) := by decide +kernel
theorem dX7_stepsToRefuge_15 : decode cX7_stepsToRefuge 15 = .ok (.aload_n 0, 1) := by decide +kernel
theorem dX7_stepsToRefuge_16 : decode cX7_stepsToRefuge 16 = .ok (.getfield 42, 3) := by decide +kernel
theorem dX7_stepsToRefuge_19 : decode cX7_stepsToRefuge 19 = .ok (.getfield 144, 3) := by decide +kernel
theorem dX7_stepsToRefuge_22 : decode cX7_stepsToRefuge 22 = .ok (.iload_n 1, 1) := by decide +kernel
theorem dX7_stepsToRefuge_23 : decode cX7_stepsToRefuge 23 = .ok (.iaload, 1) := by decide +kernel
theorem dX7_stepsToRefuge_24 : decode cX7_stepsToRefuge 24 = .ok (.iconst 3, 1) := by decide +kernel
theorem dX7_stepsToRefuge_25 : decode cX7_stepsToRefuge 25 = .ok (.if_icmp .ne 5, 3) := by decide +kernel
theorem dX7_stepsToRefuge_28 : decode cX7_stepsToRefuge 28 = .ok (.iconst (-1), 1) := by decide +kernel
theorem dX7_stepsToRefuge_29 : decode cX7_stepsToRefuge 29 = .ok (.ireturn, 1) := by decide +kernel
theorem dX7_stepsToRefuge_30 : decode cX7_stepsToRefuge 30 = .ok (.aload_n 0, 1) := by decide +kernel
theorem dX7_stepsToRefuge_31 : decode cX7_stepsToRefuge 31 = .ok (.getfield 56, 3) := by decide +kernel
theorem dX7_stepsToRefuge_34 : decode cX7_stepsToRefuge 34 = .ok (.aload_n 0, 1) := by decide +kernel
theorem dX7_stepsToRefuge_35 : decode cX7_stepsToRefuge 35 = .ok (.getfield 42, 3) := by decide +kernel
theorem dX7_stepsToRefuge_38 : decode cX7_stepsToRefuge 38 = .ok (.getfield 150, 3) := by decide +kernel
theorem dX7_stepsToRefuge_41 : decode cX7_stepsToRefuge 41 = .ok (.iload_n 1, 1) := by decide +kernel
theorem dX7_stepsToRefuge_42 : decode cX7_stepsToRefuge 42 = .ok (.iaload, 1) := by decide +kernel
theorem dX7_stepsToRefuge_43 : decode cX7_stepsToRefuge 43 = .ok (.aload_n 0, 1) := by decide +kernel
theorem dX7_stepsToRefuge_44 : decode cX7_stepsToRefuge 44 = .ok (.getfield 12, 3) := by decide +kernel
theorem dX7_stepsToRefuge_47 : decode cX7_stepsToRefuge 47 = .ok (.invokevirtual 153, 3) := by decide +kernel
theorem dX7_stepsToRefuge_50 : decode cX7_stepsToRefuge 50 = .ok (.aload_n 0, 1) := by decide +kernel
theorem dX7_stepsToRefuge_51 : decode cX7_stepsToRefuge 51 = .ok (.getfield 35, 3) := by decide +kernel
theorem dX7_stepsToRefuge_54 : decode cX7_stepsToRefuge 54 = .ok (.aload_n 0, 1) := by decide +kernel
theorem dX7_stepsToRefuge_55 : decode cX7_stepsToRefuge 55 = .ok (.getfield 42, 3) := by decide +kernel
theorem dX7_stepsToRefuge_58 : decode cX7_stepsToRefuge 58 = .ok (.getfield 141, 3) := by decide +kernel
theorem dX7_stepsToRefuge_61 : decode cX7_stepsToRefuge 61 = .ok (.iload_n 1, 1) := by decide +kernel
theorem dX7_stepsToRefuge_62 : decode cX7_stepsToRefuge 62 = .ok (.iaload, 1) := by decide +kernel
theorem dX7_stepsToRefuge_63 : decode cX7_stepsToRefuge 63 = .ok (.aload_n 0, 1) := by decide +kernel
theorem dX7_stepsToRefuge_64 : decode cX7_stepsToRefuge 64 = .ok (.getfield 56, 3) := by decide +kernel
theorem dX7_stepsToRefuge_67 : decode cX7_stepsToRefuge 67 = .ok (.invokevirtual 157, 3) := by decide +kernel
theorem dX7_stepsToRefuge_70 : decode cX7_stepsToRefuge 70 = .ok (.istore_n 2, 1) := by decide +kernel
theorem dX7_stepsToRefuge_71 : decode cX7_stepsToRefuge 71 = .ok (.iload_n 2, 1) := by decide +kernel
theorem dX7_stepsToRefuge_72 : decode cX7_stepsToRefuge 72 = .ok (.iconst (-1), 1) := by decide +kernel
theorem dX7_stepsToRefuge_73 : decode cX7_stepsToRefuge 73 = .ok (.if_icmp .ne 7, 3) := by decide +kernel
theorem dX7_stepsToRefuge_76 : decode cX7_stepsToRefuge 76 = .ok (.iconst (-1), 1) := by decide +kernel
theorem dX7_stepsToRefuge_77 : decode cX7_stepsToRefuge 77 = .ok (.goto 20, 3) := by decide +kernel
theorem dX7_stepsToRefuge_80 : decode cX7_stepsToRefuge 80 = .ok (.aload_n 0, 1) := by decide +kernel
theorem dX7_stepsToRefuge_81 : decode cX7_stepsToRefuge 81 = .ok (.getfield 56, 3) := by decide +kernel
theorem dX7_stepsToRefuge_84 : decode cX7_stepsToRefuge 84 = .ok (.getfield 161, 3) := by decide +kernel
theorem dX7_stepsToRefuge_87 : decode cX7_stepsToRefuge 87 = .ok (.aload_n 0, 1) := by decide +kernel
theorem dX7_stepsToRefuge_88 : decode cX7_stepsToRefuge 88 = .ok (.getfield 35, 3) := by decide +kernel
theorem dX7_stepsToRefuge_91 : decode cX7_stepsToRefuge 91 = .ok (.getfield 164, 3) := by decide +kernel
theorem dX7_stepsToRefuge_94 : decode cX7_stepsToRefuge 94 = .ok (.iload_n 2, 1) := by decide +kernel
theorem dX7_stepsToRefuge_95 : decode cX7_stepsToRefuge 95 = .ok (.iaload, 1) := by decide +kernel
theorem dX7_stepsToRefuge_96 : decode cX7_stepsToRefuge 96 = .ok (.iaload, 1) := by decide +kernel
theorem dX7_stepsToRefuge_97 : decode cX7_stepsToRefuge 97 = .ok (.ireturn, 1) := by decide +kernel
theorem dX7_tellCount_0 : decode cX7_tellCount 0 = .ok (.iload_n 1, 1) := by decide +kernel
theorem dX7_tellCount_1 : decode cX7_tellCount 1 = .ok (.tableswitch 123 0 8 #[51, 56, 64, 73, 82, 91, 99, 107, 115], 51) := by decide +kernel
theorem dX7_tellCount_52 : decode cX7_tellCount 52 = .ok (.aload_n 0, 1) := by decide +kernel
theorem dX7_tellCount_53 : decode cX7_tellCount 53 = .ok (.getfield 60, 3) := by decide +kernel
theorem dX7_tellCount_56 : decode cX7_tellCount 56 = .ok (.ireturn, 1) := by decide +kernel
theorem dX7_tellCount_57 : decode cX7_tellCount 57 = .ok (.aload_n 0, 1) := by decide +kernel
theorem dX7_tellCount_58 : decode cX7_tellCount 58 = .ok (.getfield 42, 3) := by decide +kernel
theorem dX7_tellCount_61 : decode cX7_tellCount 61 = .ok (.getfield 165, 3) := by decide +kernel
theorem dX7_tellCount_64 : decode cX7_tellCount 64 = .ok (.ireturn, 1) := by decide +kernel
theorem dX7_tellCount_65 : decode cX7_tellCount 65 = .ok (.aload_n 0, 1) := by decide +kernel
theorem dX7_tellCount_66 : decode cX7_tellCount 66 = .ok (.getfield 42, 3) := by decide +kernel
theorem dX7_tellCount_69 : decode cX7_tellCount 69 = .ok (.iconst 0, 1) := by decide +kernel
theorem dX7_tellCount_70 : decode cX7_tellCount 70 = .ok (.invokevirtual 168, 3) := by decide +kernel
theorem dX7_tellCount_73 : decode cX7_tellCount 73 = .ok (.ireturn, 1) := by decide +kernel
theorem dX7_tellCount_74 : decode cX7_tellCount 74 = .ok (.aload_n 0, 1) := by decide +kernel
theorem dX7_tellCount_75 : decode cX7_tellCount 75 = .ok (.getfield 42, 3) := by decide +kernel
theorem dX7_tellCount_78 : decode cX7_tellCount 78 = .ok (.iconst 1, 1) := by decide +kernel
theorem dX7_tellCount_79 : decode cX7_tellCount 79 = .ok (.invokevirtual 168, 3) := by decide +kernel
theorem dX7_tellCount_82 : decode cX7_tellCount 82 = .ok (.ireturn, 1) := by decide +kernel
theorem dX7_tellCount_83 : decode cX7_tellCount 83 = .ok (.aload_n 0, 1) := by decide +kernel
theorem dX7_tellCount_84 : decode cX7_tellCount 84 = .ok (.getfield 42, 3) := by decide +kernel
theorem dX7_tellCount_87 : decode cX7_tellCount 87 = .ok (.iconst 2, 1) := by decide +kernel
theorem dX7_tellCount_88 : decode cX7_tellCount 88 = .ok (.invokevirtual 168, 3) := by decide +kernel
theorem dX7_tellCount_91 : decode cX7_tellCount 91 = .ok (.ireturn, 1) := by decide +kernel
theorem dX7_tellCount_92 : decode cX7_tellCount 92 = .ok (.aload_n 0, 1) := by decide +kernel
theorem dX7_tellCount_93 : decode cX7_tellCount 93 = .ok (.getfield 42, 3) := by decide +kernel
theorem dX7_tellCount_96 : decode cX7_tellCount 96 = .ok (.getfield 171, 3) := by decide +kernel
theorem dX7_tellCount_99 : decode cX7_tellCount 99 = .ok (.ireturn, 1) := by decide +kernel
theorem dX7_tellCount_100 : decode cX7_tellCount 100 = .ok (.aload_n 0, 1) := by decide +kernel
theorem dX7_tellCount_101 : decode cX7_tellCount 101 = .ok (.getfield 12, 3) := by decide +kernel
theorem dX7_tellCount_104 : decode cX7_tellCount 104 = .ok (.invokevirtual 174, 3) := by decide +kernel
theorem dX7_tellCount_107 : decode cX7_tellCount 107 = .ok (.ireturn, 1) := by decide +kernel
theorem dX7_tellCount_108 : decode cX7_tellCount 108 = .ok (.aload_n 0, 1) := by decide +kernel
theorem dX7_tellCount_109 : decode cX7_tellCount 109 = .ok (.getfield 12, 3) := by decide +kernel
theorem dX7_tellCount_112 : decode cX7_tellCount 112 = .ok (.invokevirtual 178, 3) := by decide +kernel
theorem dX7_tellCount_115 : decode cX7_tellCount 115 = .ok (.ireturn, 1) := by decide +kernel
theorem dX7_tellCount_116 : decode cX7_tellCount 116 = .ok (.aload_n 0, 1) := by decide +kernel
theorem dX7_tellCount_117 : decode cX7_tellCount 117 = .ok (.getfield 12, 3) := by decide +kernel
theorem dX7_tellCount_120 : decode cX7_tellCount 120 = .ok (.invokevirtual 181, 3) := by decide +kernel
theorem dX7_tellCount_123 : decode cX7_tellCount 123 = .ok (.ireturn, 1) := by decide +kernel
theorem dX7_tellCount_124 : decode cX7_tellCount 124 = .ok (.aload_n 0, 1) := by decide +kernel
theorem dX7_tellCount_125 : decode cX7_tellCount 125 = .ok (.getfield 28, 3) := by decide +kernel
theorem dX7_tellCount_128 : decode cX7_tellCount 128 = .ok (.aload_n 0, 1) := by decide +kernel
theorem dX7_tellCount_129 : decode cX7_tellCount 129 = .ok (.getfield 12, 3) := by decide +kernel
theorem dX7_tellCount_132 : decode cX7_tellCount 132 = .ok (.invokevirtual 89, 3) := by decide +kernel
theorem dX7_tellCount_135 : decode cX7_tellCount 135 = .ok (.ireturn, 1) := by decide +kernel
theorem dX8_init_0 : decode cX8_init 0 = .ok (.aload_n 0, 1) := by decide +kernel
theorem dX8_init_1 : decode cX8_init 1 = .ok (.invokespecial 3, 3) := by decide +kernel
theorem dX8_init_4 : decode cX8_init 4 = .ok (.aload_n 0, 1) := by decide +kernel
theorem dX8_init_5 : decode cX8_init 5 = .ok (.bipush 80, 2) := by decide +kernel
theorem dX8_init_7 : decode cX8_init 7 = .ok (.newarray .int, 2) := by decide +kernel
theorem dX8_init_9 : decode cX8_init 9 = .ok (.putfield 9, 3) := by decide +kernel
theorem dX8_init_12 : decode cX8_init 12 = .ok (.aload_n 0, 1) := by decide +kernel
theorem dX8_init_13 : decode cX8_init 13 = .ok (.bipush 80, 2) := by decide +kernel
theorem dX8_init_15 : decode cX8_init 15 = .ok (.newarray .int, 2) := by decide +kernel
theorem dX8_init_17 : decode cX8_init 17 = .ok (.putfield 15, 3) := by decide +kernel
theorem dX8_init_20 : decode cX8_init 20 = .ok (.aload_n 0, 1) := by decide +kernel
theorem dX8_init_21 : decode cX8_init 21 = .ok (.bipush 80, 2) := by decide +kernel
theorem dX8_init_23 : decode cX8_init 23 = .ok (.newarray .int, 2) := by decide +kernel
theorem dX8_init_25 : decode cX8_init 25 = .ok (.putfield 18, 3) := by decide +kernel
theorem dX8_init_28 : decode cX8_init 28 = .ok (.return_, 1) := by decide +kernel
theorem dX8_search_0 : decode cX8_search 0 = .ok (.iconst 0, 1) := by decide +kernel
theorem dX8_search_1 : decode cX8_search 1 = .ok (.istore_n 3, 1) := by decide +kernel
theorem dX8_search_2 : decode cX8_search 2 = .ok (.iload_n 3, 1) := by decide +kernel
theorem dX8_search_3 : decode cX8_search 3 = .ok (.bipush 80, 2) := by decide +kernel
theorem dX8_search_5 : decode cX8_search 5 = .ok (.if_icmp .ge 16, 3) := by decide +kernel
theorem dX8_search_8 : decode cX8_search 8 = .ok (.aload_n 0, 1) := by decide +kernel
theorem dX8_search_9 : decode cX8_search 9 = .ok (.getfield 9, 3) := by decide +kernel
theorem dX8_search_12 : decode cX8_search 12 = .ok (.iload_n 3, 1) := by decide +kernel
theorem dX8_search_13 : decode cX8_search 13 = .ok (.iconst (-1), 1) := by decide +kernel
theorem dX8_search_14 : decode cX8_search 14 = .ok (.iastore, 1) := by decide +kernel
theorem dX8_search_15 : decode cX8_search 15 = .ok (.iinc 3 1, 3) := by decide +kernel
theorem dX8_search_18 : decode cX8_search 18 = .ok (.goto (-16), 3) := by decide +kernel
theorem dX8_search_21 : decode cX8_search 21 = .ok (.aload_n 0, 1) := by decide +kernel
theorem dX8_search_22 : decode cX8_search 22 = .ok (.getfield 9, 3) := by decide +kernel
theorem dX8_search_25 : decode cX8_search 25 = .ok (.iload_n 1, 1) := by decide +kernel
theorem dX8_search_26 : decode cX8_search 26 = .ok (.iconst 0, 1) := by decide +kernel
theorem dX8_search_27 : decode cX8_search 27 = .ok (.iastore, 1) := by decide +kernel
theorem dX8_search_28 : decode cX8_search 28 = .ok (.aload_n 0, 1) := by decide +kernel
theorem dX8_search_29 : decode cX8_search 29 = .ok (.getfield 15, 3) := by decide +kernel
theorem dX8_search_32 : decode cX8_search 32 = .ok (.iload_n 1, 1) := by decide +kernel
theorem dX8_search_33 : decode cX8_search 33 = .ok (.iload_n 1, 1) := by decide +kernel
theorem dX8_search_34 : decode cX8_search 34 = .ok (.iastore, 1) := by decide +kernel
theorem dX8_search_35 : decode cX8_search 35 = .ok (.aload_n 0, 1) := by decide +kernel
theorem dX8_search_36 : decode cX8_search 36 = .ok (.getfield 18, 3) := by decide +kernel
theorem dX8_search_39 : decode cX8_search 39 = .ok (.iconst 0, 1) := by decide +kernel
theorem dX8_search_40 : decode cX8_search 40 = .ok (.iload_n 1, 1) := by decide +kernel
theorem dX8_search_41 : decode cX8_search 41 = .ok (.iastore, 1) := by decide +kernel
theorem dX8_search_42 : decode cX8_search 42 = .ok (.aload_n 0, 1) := by decide +kernel
theorem dX8_search_43 : decode cX8_search 43 = .ok (.iconst 1, 1) := by decide +kernel
theorem dX8_search_44 : decode cX8_search 44 = .ok (.putfield 21, 3) := by decide +kernel
theorem dX8_search_47 : decode cX8_search 47 = .ok (.iconst 0, 1) := by decide +kernel
theorem dX8_search_48 : decode cX8_search 48 = .ok (.istore_n 3, 1) := by decide +kernel
theorem dX8_search_49 : decode cX8_search 49 = .ok (.iload_n 3, 1) := by decide +kernel
theorem dX8_search_50 : decode cX8_search 50 = .ok (.aload_n 0, 1) := by decide +kernel
theorem dX8_search_51 : decode cX8_search 51 = .ok (.getfield 21, 3) := by decide +kernel
theorem dX8_search_54 : decode cX8_search 54 = .ok (.if_icmp .ge 26, 3) := by decide +kernel
theorem dX8_search_57 : decode cX8_search 57 = .ok (.iload_n 3, 1) := by decide +kernel
theorem dX8_search_58 : decode cX8_search 58 = .ok (.bipush 80, 2) := by decide +kernel
theorem dX8_search_60 : decode cX8_search 60 = .ok (.if_icmp .ge 20, 3) := by decide +kernel
theorem dX8_search_63 : decode cX8_search 63 = .ok (.aload_n 0, 1) := by decide +kernel
theorem dX8_search_64 : decode cX8_search 64 = .ok (.aload_n 0, 1) := by decide +kernel
theorem dX8_search_65 : decode cX8_search 65 = .ok (.getfield 18, 3) := by decide +kernel
theorem dX8_search_68 : decode cX8_search 68 = .ok (.iload_n 3, 1) := by decide +kernel
theorem dX8_search_69 : decode cX8_search 69 = .ok (.iaload, 1) := by decide +kernel
theorem dX8_search_70 : decode cX8_search 70 = .ok (.aload_n 2, 1) := by decide +kernel
theorem dX8_search_71 : decode cX8_search 71 = .ok (.invokevirtual 25, 3) := by decide +kernel
theorem dX8_search_74 : decode cX8_search 74 = .ok (.iinc 3 1, 3) := by decide +kernel
theorem dX8_search_77 : decode cX8_search 77 = .ok (.goto (-28), 3) := by decide +kernel
theorem dX8_search_80 : decode cX8_search 80 = .ok (.return_, 1) := by decide +kernel
theorem dX8_goOnFrom_0 : decode cX8_goOnFrom 0 = .ok (.iconst 0, 1) := by decide +kernel
theorem dX8_goOnFrom_1 : decode cX8_goOnFrom 1 = .ok (.istore_n 3, 1) := by decide +kernel
theorem dX8_goOnFrom_2 : decode cX8_goOnFrom 2 = .ok (.iload_n 3, 1) := by decide +kernel
theorem dX8_goOnFrom_3 : decode cX8_goOnFrom 3 = .ok (.iconst 4, 1) := by decide +kernel
theorem dX8_goOnFrom_4 : decode cX8_goOnFrom 4 = .ok (.if_icmp .ge 114, 3) := by decide +kernel
theorem dX8_goOnFrom_7 : decode cX8_goOnFrom 7 = .ok (.iload_n 1, 1) := by decide +kernel
theorem dX8_goOnFrom_8 : decode cX8_goOnFrom 8 = .ok (.iload_n 3, 1) := by decide +kernel
theorem dX8_goOnFrom_9 : decode cX8_goOnFrom 9 = .ok (.invokestatic 29, 3) := by decide +kernel
theorem dX8_goOnFrom_12 : decode cX8_goOnFrom 12 = .ok (.istore 4, 2) := by decide +kernel
theorem dX8_goOnFrom_14 : decode cX8_goOnFrom 14 = .ok (.iload 4, 2) := by decide +kernel
theorem dX8_goOnFrom_16 : decode cX8_goOnFrom 16 = .ok (.iconst (-1), 1) := by decide +kernel
theorem dX8_goOnFrom_17 : decode cX8_goOnFrom 17 = .ok (.if_icmp .eq 95, 3) := by decide +kernel
theorem dX8_goOnFrom_20 : decode cX8_goOnFrom 20 = .ok (.aload_n 0, 1) := by decide +kernel
theorem dX8_goOnFrom_21 : decode cX8_goOnFrom 21 = .ok (.getfield 9, 3) := by decide +kernel
theorem dX8_goOnFrom_24 : decode cX8_goOnFrom 24 = .ok (.iload 4, 2) := by decide +kernel
theorem dX8_goOnFrom_26 : decode cX8_goOnFrom 26 = .ok (.iaload, 1) := by decide +kernel
theorem dX8_goOnFrom_27 : decode cX8_goOnFrom 27 = .ok (.iconst (-1), 1) := by decide +kernel
theorem dX8_goOnFrom_28 : decode cX8_goOnFrom 28 = .ok (.if_icmp .ne 84, 3) := by decide +kernel
theorem dX8_goOnFrom_31 : decode cX8_goOnFrom 31 = .ok (.aload_n 2, 1) := by decide +kernel
theorem dX8_goOnFrom_32 : decode cX8_goOnFrom 32 = .ok (.iload 4, 2) := by decide +kernel
theorem dX8_goOnFrom_34 : decode cX8_goOnFrom 34 = .ok (.invokevirtual 35, 3) := by decide +kernel
theorem dX8_goOnFrom_37 : decode cX8_goOnFrom 37 = .ok (.ifCond .eq 75, 3) := by decide +kernel
theorem dX8_goOnFrom_40 : decode cX8_goOnFrom 40 = .ok (.aload_n 0, 1) := by decide +kernel
theorem dX8_goOnFrom_41 : decode cX8_goOnFrom 41 = .ok (.getfield 21, 3) := by decide +kernel
theorem dX8_goOnFrom_44 : decode cX8_goOnFrom 44 = .ok (.bipush 80, 2) := by decide +kernel
theorem dX8_goOnFrom_46 : decode cX8_goOnFrom 46 = .ok (.if_icmp .ge 66, 3) := by decide +kernel
theorem dX8_goOnFrom_49 : decode cX8_goOnFrom 49 = .ok (.aload_n 0, 1) := by decide +kernel
theorem dX8_goOnFrom_50 : decode cX8_goOnFrom 50 = .ok (.getfield 9, 3) := by decide +kernel
theorem dX8_goOnFrom_53 : decode cX8_goOnFrom 53 = .ok (.iload 4, 2) := by decide +kernel
theorem dX8_goOnFrom_55 : decode cX8_goOnFrom 55 = .ok (.aload_n 0, 1) := by decide +kernel
theorem dX8_goOnFrom_56 : decode cX8_goOnFrom 56 = .ok (.getfield 9, 3) := by decide +kernel
theorem dX8_goOnFrom_59 : decode cX8_goOnFrom 59 = .ok (.iload_n 1, 1) := by decide +kernel
theorem dX8_goOnFrom_60 : decode cX8_goOnFrom 60 = .ok (.iaload, 1) := by decide +kernel
theorem dX8_goOnFrom_61 : decode cX8_goOnFrom 61 = .ok (.iconst 1, 1) := by decide +kernel
theorem dX8_goOnFrom_62 : decode cX8_goOnFrom 62 = .ok (.iadd, 1) := by decide +kernel
theorem dX8_goOnFrom_63 : decode cX8_goOnFrom 63 = .ok (.iastore, 1) := by decide +kernel
theorem dX8_goOnFrom_64 : decode cX8_goOnFrom 64 = .ok (.aload_n 0, 1) := by decide +kernel
theorem dX8_goOnFrom_65 : decode cX8_goOnFrom 65 = .ok (.getfield 15, 3) := by decide +kernel
theorem dX8_goOnFrom_68 : decode cX8_goOnFrom 68 = .ok (.iload 4, 2) := by decide +kernel
theorem dX8_goOnFrom_70 : decode cX8_goOnFrom 70 = .ok (.aload_n 0, 1) := by decide +kernel
theorem dX8_goOnFrom_71 : decode cX8_goOnFrom 71 = .ok (.getfield 9, 3) := by decide +kernel
theorem dX8_goOnFrom_74 : decode cX8_goOnFrom 74 = .ok (.iload_n 1, 1) := by decide +kernel
theorem dX8_goOnFrom_75 : decode cX8_goOnFrom 75 = .ok (.iaload, 1) := by decide +kernel
theorem dX8_goOnFrom_76 : decode cX8_goOnFrom 76 = .ok (.ifCond .ne 8, 3) := by decide +kernel
theorem dX8_goOnFrom_79 : decode cX8_goOnFrom 79 = .ok (.iload 4, 2) := by decide +kernel
theorem dX8_goOnFrom_81 : decode cX8_goOnFrom 81 = .ok (.goto 9, 3) := by decide +kernel
theorem dX8_goOnFrom_84 : decode cX8_goOnFrom 84 = .ok (.aload_n 0, 1) := by decide +kernel
theorem dX8_goOnFrom_85 : decode cX8_goOnFrom 85 = .ok (.getfield 15, 3) := by decide +kernel
theorem dX8_goOnFrom_88 : decode cX8_goOnFrom 88 = .ok (.iload_n 1, 1) := by decide +kernel
theorem dX8_goOnFrom_89 : decode cX8_goOnFrom 89 = .ok (.iaload, 1) := by decide +kernel
theorem dX8_goOnFrom_90 : decode cX8_goOnFrom 90 = .ok (.iastore, 1) := by decide +kernel
theorem dX8_goOnFrom_91 : decode cX8_goOnFrom 91 = .ok (.aload_n 0, 1) := by decide +kernel
theorem dX8_goOnFrom_92 : decode cX8_goOnFrom 92 = .ok (.getfield 18, 3) := by decide +kernel
theorem dX8_goOnFrom_95 : decode cX8_goOnFrom 95 = .ok (.aload_n 0, 1) := by decide +kernel
theorem dX8_goOnFrom_96 : decode cX8_goOnFrom 96 = .ok (.getfield 21, 3) := by decide +kernel
