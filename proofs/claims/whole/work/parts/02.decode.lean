theorem dX0_init_0 : decode cX0_init 0 = .ok (.aload_n 0, 1) := by decide +kernel
theorem dX0_init_1 : decode cX0_init 1 = .ok (.invokespecial 3, 3) := by decide +kernel
theorem dX0_init_4 : decode cX0_init 4 = .ok (.aload_n 0, 1) := by decide +kernel
theorem dX0_init_5 : decode cX0_init 5 = .ok (.new 9, 3) := by decide +kernel
theorem dX0_init_8 : decode cX0_init 8 = .ok (.dup, 1) := by decide +kernel
theorem dX0_init_9 : decode cX0_init 9 = .ok (.bipush 6, 2) := by decide +kernel
theorem dX0_init_11 : decode cX0_init 11 = .ok (.invokespecial 11, 3) := by decide +kernel
theorem dX0_init_14 : decode cX0_init 14 = .ok (.putfield 14, 3) := by decide +kernel
theorem dX0_init_17 : decode cX0_init 17 = .ok (.aload_n 0, 1) := by decide +kernel
theorem dX0_init_18 : decode cX0_init 18 = .ok (.new 9, 3) := by decide +kernel
theorem dX0_init_21 : decode cX0_init 21 = .ok (.dup, 1) := by decide +kernel
theorem dX0_init_22 : decode cX0_init 22 = .ok (.bipush 6, 2) := by decide +kernel
theorem dX0_init_24 : decode cX0_init 24 = .ok (.invokespecial 11, 3) := by decide +kernel
theorem dX0_init_27 : decode cX0_init 27 = .ok (.putfield 20, 3) := by decide +kernel
theorem dX0_init_30 : decode cX0_init 30 = .ok (.aload_n 0, 1) := by decide +kernel
theorem dX0_init_31 : decode cX0_init 31 = .ok (.aload_n 1, 1) := by decide +kernel
theorem dX0_init_32 : decode cX0_init 32 = .ok (.putfield 23, 3) := by decide +kernel
theorem dX0_init_35 : decode cX0_init 35 = .ok (.aload_n 0, 1) := by decide +kernel
theorem dX0_init_36 : decode cX0_init 36 = .ok (.aload_n 2, 1) := by decide +kernel
theorem dX0_init_37 : decode cX0_init 37 = .ok (.putfield 27, 3) := by decide +kernel
theorem dX0_init_40 : decode cX0_init 40 = .ok (.return_, 1) := by decide +kernel
theorem dX0_begin_0 : decode cX0_begin 0 = .ok (.aload_n 0, 1) := by decide +kernel
theorem dX0_begin_1 : decode cX0_begin 1 = .ok (.iload_n 1, 1) := by decide +kernel
theorem dX0_begin_2 : decode cX0_begin 2 = .ok (.putfield 31, 3) := by decide +kernel
theorem dX0_begin_5 : decode cX0_begin 5 = .ok (.aload_n 0, 1) := by decide +kernel
theorem dX0_begin_6 : decode cX0_begin 6 = .ok (.iload_n 2, 1) := by decide +kernel
theorem dX0_begin_7 : decode cX0_begin 7 = .ok (.putfield 35, 3) := by decide +kernel
theorem dX0_begin_10 : decode cX0_begin 10 = .ok (.aload_n 0, 1) := by decide +kernel
theorem dX0_begin_11 : decode cX0_begin 11 = .ok (.iconst 0, 1) := by decide +kernel
theorem dX0_begin_12 : decode cX0_begin 12 = .ok (.putfield 38, 3) := by decide +kernel
theorem dX0_begin_15 : decode cX0_begin 15 = .ok (.aload_n 0, 1) := by decide +kernel
theorem dX0_begin_16 : decode cX0_begin 16 = .ok (.iload_n 2, 1) := by decide +kernel
theorem dX0_begin_17 : decode cX0_begin 17 = .ok (.putfield 41, 3) := by decide +kernel
theorem dX0_begin_20 : decode cX0_begin 20 = .ok (.aload_n 0, 1) := by decide +kernel
theorem dX0_begin_21 : decode cX0_begin 21 = .ok (.iload_n 2, 1) := by decide +kernel
theorem dX0_begin_22 : decode cX0_begin 22 = .ok (.putfield 44, 3) := by decide +kernel
theorem dX0_begin_25 : decode cX0_begin 25 = .ok (.aload_n 0, 1) := by decide +kernel
theorem dX0_begin_26 : decode cX0_begin 26 = .ok (.getfield 14, 3) := by decide +kernel
theorem dX0_begin_29 : decode cX0_begin 29 = .ok (.bipush 6, 2) := by decide +kernel
theorem dX0_begin_31 : decode cX0_begin 31 = .ok (.iconst 0, 1) := by decide +kernel
theorem dX0_begin_32 : decode cX0_begin 32 = .ok (.invokevirtual 47, 3) := by decide +kernel
theorem dX0_begin_35 : decode cX0_begin 35 = .ok (.aload_n 0, 1) := by decide +kernel
theorem dX0_begin_36 : decode cX0_begin 36 = .ok (.getfield 20, 3) := by decide +kernel
theorem dX0_begin_39 : decode cX0_begin 39 = .ok (.bipush 6, 2) := by decide +kernel
theorem dX0_begin_41 : decode cX0_begin 41 = .ok (.iload_n 2, 1) := by decide +kernel
theorem dX0_begin_42 : decode cX0_begin 42 = .ok (.invokevirtual 47, 3) := by decide +kernel
theorem dX0_begin_45 : decode cX0_begin 45 = .ok (.return_, 1) := by decide +kernel
theorem dX0_hear_0 : decode cX0_hear 0 = .ok (.aload_n 0, 1) := by decide +kernel
theorem dX0_hear_1 : decode cX0_hear 1 = .ok (.dup, 1) := by decide +kernel
theorem dX0_hear_2 : decode cX0_hear 2 = .ok (.getfield 38, 3) := by decide +kernel
theorem dX0_hear_5 : decode cX0_hear 5 = .ok (.iconst 1, 1) := by decide +kernel
theorem dX0_hear_6 : decode cX0_hear 6 = .ok (.iadd, 1) := by decide +kernel
theorem dX0_hear_7 : decode cX0_hear 7 = .ok (.putfield 38, 3) := by decide +kernel
theorem dX0_hear_10 : decode cX0_hear 10 = .ok (.aload_n 0, 1) := by decide +kernel
theorem dX0_hear_11 : decode cX0_hear 11 = .ok (.aload_n 0, 1) := by decide +kernel
theorem dX0_hear_12 : decode cX0_hear 12 = .ok (.getfield 41, 3) := by decide +kernel
theorem dX0_hear_15 : decode cX0_hear 15 = .ok (.putfield 44, 3) := by decide +kernel
theorem dX0_hear_18 : decode cX0_hear 18 = .ok (.aload_n 0, 1) := by decide +kernel
theorem dX0_hear_19 : decode cX0_hear 19 = .ok (.iload_n 2, 1) := by decide +kernel
theorem dX0_hear_20 : decode cX0_hear 20 = .ok (.putfield 41, 3) := by decide +kernel
theorem dX0_hear_23 : decode cX0_hear 23 = .ok (.aload_n 0, 1) := by decide +kernel
theorem dX0_hear_24 : decode cX0_hear 24 = .ok (.getfield 14, 3) := by decide +kernel
theorem dX0_hear_27 : decode cX0_hear 27 = .ok (.iload_n 1, 1) := by decide +kernel
theorem dX0_hear_28 : decode cX0_hear 28 = .ok (.aload_n 0, 1) := by decide +kernel
theorem dX0_hear_29 : decode cX0_hear 29 = .ok (.getfield 38, 3) := by decide +kernel
theorem dX0_hear_32 : decode cX0_hear 32 = .ok (.invokevirtual 51, 3) := by decide +kernel
theorem dX0_hear_35 : decode cX0_hear 35 = .ok (.aload_n 0, 1) := by decide +kernel
theorem dX0_hear_36 : decode cX0_hear 36 = .ok (.getfield 20, 3) := by decide +kernel
theorem dX0_hear_39 : decode cX0_hear 39 = .ok (.iload_n 1, 1) := by decide +kernel
theorem dX0_hear_40 : decode cX0_hear 40 = .ok (.iload_n 2, 1) := by decide +kernel
theorem dX0_hear_41 : decode cX0_hear 41 = .ok (.invokevirtual 51, 3) := by decide +kernel
theorem dX0_hear_44 : decode cX0_hear 44 = .ok (.return_, 1) := by decide +kernel
theorem dX0_hearAll_0 : decode cX0_hearAll 0 = .ok (.iconst 0, 1) := by decide +kernel
theorem dX0_hearAll_1 : decode cX0_hearAll 1 = .ok (.istore_n 2, 1) := by decide +kernel
theorem dX0_hearAll_2 : decode cX0_hearAll 2 = .ok (.iload_n 2, 1) := by decide +kernel
theorem dX0_hearAll_3 : decode cX0_hearAll 3 = .ok (.aload_n 1, 1) := by decide +kernel
theorem dX0_hearAll_4 : decode cX0_hearAll 4 = .ok (.invokevirtual 54, 3) := by decide +kernel
theorem dX0_hearAll_7 : decode cX0_hearAll 7 = .ok (.if_icmp .ge 29, 3) := by decide +kernel
theorem dX0_hearAll_10 : decode cX0_hearAll 10 = .ok (.aload_n 0, 1) := by decide +kernel
theorem dX0_hearAll_11 : decode cX0_hearAll 11 = .ok (.aload_n 1, 1) := by decide +kernel
theorem dX0_hearAll_12 : decode cX0_hearAll 12 = .ok (.iload_n 2, 1) := by decide +kernel
theorem dX0_hearAll_13 : decode cX0_hearAll 13 = .ok (.invokevirtual 58, 3) := by decide +kernel
theorem dX0_hearAll_16 : decode cX0_hearAll 16 = .ok (.bipush 6, 2) := by decide +kernel
theorem dX0_hearAll_18 : decode cX0_hearAll 18 = .ok (.idiv, 1) := by decide +kernel
theorem dX0_hearAll_19 : decode cX0_hearAll 19 = .ok (.aload_n 1, 1) := by decide +kernel
theorem dX0_hearAll_20 : decode cX0_hearAll 20 = .ok (.iload_n 2, 1) := by decide +kernel
theorem dX0_hearAll_21 : decode cX0_hearAll 21 = .ok (.invokevirtual 58, 3) := by decide +kernel
theorem dX0_hearAll_24 : decode cX0_hearAll 24 = .ok (.bipush 6, 2) := by decide +kernel
theorem dX0_hearAll_26 : decode cX0_hearAll 26 = .ok (.irem, 1) := by decide +kernel
theorem dX0_hearAll_27 : decode cX0_hearAll 27 = .ok (.invokevirtual 62, 3) := by decide +kernel
theorem dX0_hearAll_30 : decode cX0_hearAll 30 = .ok (.iinc 2 1, 3) := by decide +kernel
theorem dX0_hearAll_33 : decode cX0_hearAll 33 = .ok (.goto (-31), 3) := by decide +kernel
theorem dX0_hearAll_36 : decode cX0_hearAll 36 = .ok (.return_, 1) := by decide +kernel
theorem dX0_willDo_0 : decode cX0_willDo 0 = .ok (.aload_n 0, 1) := by decide +kernel
theorem dX0_willDo_1 : decode cX0_willDo 1 = .ok (.getfield 31, 3) := by decide +kernel
theorem dX0_willDo_4 : decode cX0_willDo 4 = .ok (.tableswitch 79 0 3 #[32, 37, 42, 48], 32) := by decide +kernel
theorem dX0_willDo_36 : decode cX0_willDo 36 = .ok (.aload_n 0, 1) := by decide +kernel
theorem dX0_willDo_37 : decode cX0_willDo 37 = .ok (.getfield 41, 3) := by decide +kernel
theorem dX0_willDo_40 : decode cX0_willDo 40 = .ok (.ireturn, 1) := by decide +kernel
theorem dX0_willDo_41 : decode cX0_willDo 41 = .ok (.aload_n 0, 1) := by decide +kernel
theorem dX0_willDo_42 : decode cX0_willDo 42 = .ok (.getfield 44, 3) := by decide +kernel
theorem dX0_willDo_45 : decode cX0_willDo 45 = .ok (.ireturn, 1) := by decide +kernel
theorem dX0_willDo_46 : decode cX0_willDo 46 = .ok (.aload_n 0, 1) := by decide +kernel
theorem dX0_willDo_47 : decode cX0_willDo 47 = .ok (.iload_n 1, 1) := by decide +kernel
theorem dX0_willDo_48 : decode cX0_willDo 48 = .ok (.invokevirtual 65, 3) := by decide +kernel
theorem dX0_willDo_51 : decode cX0_willDo 51 = .ok (.ireturn, 1) := by decide +kernel
theorem dX0_willDo_52 : decode cX0_willDo 52 = .ok (.aload_n 0, 1) := by decide +kernel
theorem dX0_willDo_53 : decode cX0_willDo 53 = .ok (.aload_n 0, 1) := by decide +kernel
theorem dX0_willDo_54 : decode cX0_willDo 54 = .ok (.getfield 14, 3) := by decide +kernel
theorem dX0_willDo_57 : decode cX0_willDo 57 = .ok (.iload_n 1, 1) := by decide +kernel
theorem dX0_willDo_58 : decode cX0_willDo 58 = .ok (.invokevirtual 58, 3) := by decide +kernel
theorem dX0_willDo_61 : decode cX0_willDo 61 = .ok (.invokevirtual 68, 3) := by decide +kernel
theorem dX0_willDo_64 : decode cX0_willDo 64 = .ok (.ifCond .eq 14, 3) := by decide +kernel
theorem dX0_willDo_67 : decode cX0_willDo 67 = .ok (.aload_n 0, 1) := by decide +kernel
theorem dX0_willDo_68 : decode cX0_willDo 68 = .ok (.getfield 20, 3) := by decide +kernel
theorem dX0_willDo_71 : decode cX0_willDo 71 = .ok (.iload_n 1, 1) := by decide +kernel
theorem dX0_willDo_72 : decode cX0_willDo 72 = .ok (.invokevirtual 58, 3) := by decide +kernel
theorem dX0_willDo_75 : decode cX0_willDo 75 = .ok (.goto 7, 3) := by decide +kernel
theorem dX0_willDo_78 : decode cX0_willDo 78 = .ok (.aload_n 0, 1) := by decide +kernel
theorem dX0_willDo_79 : decode cX0_willDo 79 = .ok (.getfield 35, 3) := by decide +kernel
theorem dX0_willDo_82 : decode cX0_willDo 82 = .ok (.ireturn, 1) := by decide +kernel
theorem dX0_willDo_83 : decode cX0_willDo 83 = .ok (.aload_n 0, 1) := by decide +kernel
theorem dX0_willDo_84 : decode cX0_willDo 84 = .ok (.getfield 35, 3) := by decide +kernel
theorem dX0_willDo_87 : decode cX0_willDo 87 = .ok (.ireturn, 1) := by decide +kernel
theorem dX0_keeps_0 : decode cX0_keeps 0 = .ok (.iload_n 1, 1) := by decide +kernel
theorem dX0_keeps_1 : decode cX0_keeps 1 = .ok (.ifCond .le 18, 3) := by decide +kernel
theorem dX0_keeps_4 : decode cX0_keeps 4 = .ok (.iload_n 1, 1) := by decide +kernel
theorem dX0_keeps_5 : decode cX0_keeps 5 = .ok (.aload_n 0, 1) := by decide +kernel
theorem dX0_keeps_6 : decode cX0_keeps 6 = .ok (.getfield 38, 3) := by decide +kernel
theorem dX0_keeps_9 : decode cX0_keeps 9 = .ok (.bipush 40, 2) := by decide +kernel
theorem dX0_keeps_11 : decode cX0_keeps 11 = .ok (.isub, 1) := by decide +kernel
theorem dX0_keeps_12 : decode cX0_keeps 12 = .ok (.if_icmp .le 7, 3) := by decide +kernel
theorem dX0_keeps_15 : decode cX0_keeps 15 = .ok (.iconst 1, 1) := by decide +kernel
theorem dX0_keeps_16 : decode cX0_keeps 16 = .ok (.goto 4, 3) := by decide +kernel
theorem dX0_keeps_19 : decode cX0_keeps 19 = .ok (.iconst 0, 1) := by decide +kernel
theorem dX0_keeps_20 : decode cX0_keeps 20 = .ok (.ireturn, 1) := by decide +kernel
theorem dX0_likestDoing_0 : decode cX0_likestDoing 0 = .ok (.aload_n 0, 1) := by decide +kernel
theorem dX0_likestDoing_1 : decode cX0_likestDoing 1 = .ok (.getfield 23, 3) := by decide +kernel
theorem dX0_likestDoing_4 : decode cX0_likestDoing 4 = .ok (.getfield 72, 3) := by decide +kernel
theorem dX0_likestDoing_7 : decode cX0_likestDoing 7 = .ok (.iload_n 1, 1) := by decide +kernel
theorem dX0_likestDoing_8 : decode cX0_likestDoing 8 = .ok (.invokevirtual 58, 3) := by decide +kernel
theorem dX0_likestDoing_11 : decode cX0_likestDoing 11 = .ok (.istore_n 2, 1) := by decide +kernel
theorem dX0_likestDoing_12 : decode cX0_likestDoing 12 = .ok (.aload_n 0, 1) := by decide +kernel
theorem dX0_likestDoing_13 : decode cX0_likestDoing 13 = .ok (.getfield 35, 3) := by decide +kernel
theorem dX0_likestDoing_16 : decode cX0_likestDoing 16 = .ok (.istore_n 3, 1) := by decide +kernel
theorem dX0_likestDoing_17 : decode cX0_likestDoing 17 = .ok (.ldc 77, 2) := by decide +kernel
theorem dX0_likestDoing_19 : decode cX0_likestDoing 19 = .ok (.istore 4, 2) := by decide +kernel
theorem dX0_likestDoing_21 : decode cX0_likestDoing 21 = .ok (.iconst 0, 1) := by decide +kernel
theorem dX0_likestDoing_22 : decode cX0_likestDoing 22 = .ok (.istore 5, 2) := by decide +kernel
theorem dX0_likestDoing_24 : decode cX0_likestDoing 24 = .ok (.iconst 0, 1) := by decide +kernel
theorem dX0_likestDoing_25 : decode cX0_likestDoing 25 = .ok (.istore 6, 2) := by decide +kernel
theorem dX0_likestDoing_27 : decode cX0_likestDoing 27 = .ok (.iload 6, 2) := by decide +kernel
theorem dX0_likestDoing_29 : decode cX0_likestDoing 29 = .ok (.aload_n 0, 1) := by decide +kernel
theorem dX0_likestDoing_30 : decode cX0_likestDoing 30 = .ok (.getfield 23, 3) := by decide +kernel
theorem dX0_likestDoing_33 : decode cX0_likestDoing 33 = .ok (.invokevirtual 78, 3) := by decide +kernel
theorem dX0_likestDoing_36 : decode cX0_likestDoing 36 = .ok (.if_icmp .ge 86, 3) := by decide +kernel
theorem dX0_likestDoing_39 : decode cX0_likestDoing 39 = .ok (.aload_n 0, 1) := by decide +kernel
theorem dX0_likestDoing_40 : decode cX0_likestDoing 40 = .ok (.getfield 14, 3) := by decide +kernel
theorem dX0_likestDoing_43 : decode cX0_likestDoing 43 = .ok (.iload 6, 2) := by decide +kernel
theorem dX0_likestDoing_45 : decode cX0_likestDoing 45 = .ok (.invokevirtual 58, 3) := by decide +kernel
theorem dX0_likestDoing_48 : decode cX0_likestDoing 48 = .ok (.istore 7, 2) := by decide +kernel
theorem dX0_likestDoing_50 : decode cX0_likestDoing 50 = .ok (.aload_n 0, 1) := by decide +kernel
theorem dX0_likestDoing_51 : decode cX0_likestDoing 51 = .ok (.iload 7, 2) := by decide +kernel
theorem dX0_likestDoing_53 : decode cX0_likestDoing 53 = .ok (.invokevirtual 68, 3) := by decide +kernel
theorem dX0_likestDoing_56 : decode cX0_likestDoing 56 = .ok (.ifCond .eq 60, 3) := by decide +kernel
theorem dX0_likestDoing_59 : decode cX0_likestDoing 59 = .ok (.iload_n 2, 1) := by decide +kernel
theorem dX0_likestDoing_60 : decode cX0_likestDoing 60 = .ok (.aload_n 0, 1) := by decide +kernel
theorem dX0_likestDoing_61 : decode cX0_likestDoing 61 = .ok (.getfield 23, 3) := by decide +kernel
theorem dX0_likestDoing_64 : decode cX0_likestDoing 64 = .ok (.getfield 72, 3) := by decide +kernel
theorem dX0_likestDoing_67 : decode cX0_likestDoing 67 = .ok (.iload 6, 2) := by decide +kernel
theorem dX0_likestDoing_69 : decode cX0_likestDoing 69 = .ok (.invokevirtual 58, 3) := by decide +kernel
theorem dX0_likestDoing_72 : decode cX0_likestDoing 72 = .ok (.invokestatic 81, 3) := by decide +kernel
theorem dX0_likestDoing_75 : decode cX0_likestDoing 75 = .ok (.istore 8, 2) := by decide +kernel
theorem dX0_likestDoing_77 : decode cX0_likestDoing 77 = .ok (.iload 8, 2) := by decide +kernel
theorem dX0_likestDoing_79 : decode cX0_likestDoing 79 = .ok (.iload 4, 2) := by decide +kernel
theorem dX0_likestDoing_81 : decode cX0_likestDoing 81 = .ok (.if_icmp .lt 17, 3) := by decide +kernel
theorem dX0_likestDoing_84 : decode cX0_likestDoing 84 = .ok (.iload 8, 2) := by decide +kernel
theorem dX0_likestDoing_86 : decode cX0_likestDoing 86 = .ok (.iload 4, 2) := by decide +kernel
theorem dX0_likestDoing_88 : decode cX0_likestDoing 88 = .ok (.if_icmp .ne 28, 3) := by decide +kernel
theorem dX0_likestDoing_91 : decode cX0_likestDoing 91 = .ok (.iload 7, 2) := by decide +kernel
theorem dX0_likestDoing_93 : decode cX0_likestDoing 93 = .ok (.iload 5, 2) := by decide +kernel
theorem dX0_likestDoing_95 : decode cX0_likestDoing 95 = .ok (.if_icmp .le 21, 3) := by decide +kernel
theorem dX0_likestDoing_98 : decode cX0_likestDoing 98 = .ok (.iload 8, 2) := by decide +kernel
theorem dX0_likestDoing_100 : decode cX0_likestDoing 100 = .ok (.istore 4, 2) := by decide +kernel
theorem dX0_likestDoing_102 : decode cX0_likestDoing 102 = .ok (.iload 7, 2) := by decide +kernel
theorem dX0_likestDoing_104 : decode cX0_likestDoing 104 = .ok (.istore 5, 2) := by decide +kernel
theorem dX0_likestDoing_106 : decode cX0_likestDoing 106 = .ok (.aload_n 0, 1) := by decide +kernel
theorem dX0_likestDoing_107 : decode cX0_likestDoing 107 = .ok (.getfield 20, 3) := by decide +kernel
theorem dX0_likestDoing_110 : decode cX0_likestDoing 110 = .ok (.iload 6, 2) := by decide +kernel
theorem dX0_likestDoing_112 : decode cX0_likestDoing 112 = .ok (.invokevirtual 58, 3) := by decide +kernel
theorem dX0_likestDoing_115 : decode cX0_likestDoing 115 = .ok (.istore_n 3, 1) := by decide +kernel
theorem dX0_likestDoing_116 : decode cX0_likestDoing 116 = .ok (.iinc 6 1, 3) := by decide +kernel
theorem dX0_likestDoing_119 : decode cX0_likestDoing 119 = .ok (.goto (-92), 3) := by decide +kernel
theorem dX0_likestDoing_122 : decode cX0_likestDoing 122 = .ok (.iload_n 3, 1) := by decide +kernel
theorem dX0_likestDoing_123 : decode cX0_likestDoing 123 = .ok (.ireturn, 1) := by decide +kernel
theorem dX0_day_0 : decode cX0_day 0 = .ok (.aload_n 0, 1) := by decide +kernel
theorem dX0_day_1 : decode cX0_day 1 = .ok (.iload_n 1, 1) := by decide +kernel
theorem dX0_day_2 : decode cX0_day 2 = .ok (.invokevirtual 85, 3) := by decide +kernel
theorem dX0_day_5 : decode cX0_day 5 = .ok (.istore_n 2, 1) := by decide +kernel
theorem dX0_day_6 : decode cX0_day 6 = .ok (.aload_n 0, 1) := by decide +kernel
theorem dX0_day_7 : decode cX0_day 7 = .ok (.getfield 23, 3) := by decide +kernel
theorem dX0_day_10 : decode cX0_day 10 = .ok (.iload_n 1, 1) := by decide +kernel
theorem dX0_day_11 : decode cX0_day 11 = .ok (.iload_n 2, 1) := by decide +kernel
theorem dX0_day_12 : decode cX0_day 12 = .ok (.invokevirtual 88, 3) := by decide +kernel
theorem dX0_day_15 : decode cX0_day 15 = .ok (.ifCond .eq 19, 3) := by decide +kernel
theorem dX0_day_18 : decode cX0_day 18 = .ok (.aload_n 0, 1) := by decide +kernel
theorem dX0_day_19 : decode cX0_day 19 = .ok (.iload_n 1, 1) := by decide +kernel
theorem dX0_day_20 : decode cX0_day 20 = .ok (.aload_n 0, 1) := by decide +kernel
theorem dX0_day_21 : decode cX0_day 21 = .ok (.getfield 23, 3) := by decide +kernel
theorem dX0_day_24 : decode cX0_day 24 = .ok (.getfield 91, 3) := by decide +kernel
theorem dX0_day_27 : decode cX0_day 27 = .ok (.iload_n 1, 1) := by decide +kernel
theorem dX0_day_28 : decode cX0_day 28 = .ok (.invokevirtual 58, 3) := by decide +kernel
theorem dX0_day_31 : decode cX0_day 31 = .ok (.invokevirtual 62, 3) := by decide +kernel
theorem dX0_day_34 : decode cX0_day 34 = .ok (.iload_n 2, 1) := by decide +kernel
theorem dX0_day_35 : decode cX0_day 35 = .ok (.ireturn, 1) := by decide +kernel
theorem dX0_lossOfRow_0 : decode cX0_lossOfRow 0 = .ok (.iconst 0, 1) := by decide +kernel
theorem dX0_lossOfRow_1 : decode cX0_lossOfRow 1 = .ok (.istore_n 1, 1) := by decide +kernel
theorem dX0_lossOfRow_2 : decode cX0_lossOfRow 2 = .ok (.iconst 0, 1) := by decide +kernel
theorem dX0_lossOfRow_3 : decode cX0_lossOfRow 3 = .ok (.istore_n 2, 1) := by decide +kernel
theorem dX0_lossOfRow_4 : decode cX0_lossOfRow 4 = .ok (.iload_n 2, 1) := by decide +kernel
theorem dX0_lossOfRow_5 : decode cX0_lossOfRow 5 = .ok (.aload_n 0, 1) := by decide +kernel
theorem dX0_lossOfRow_6 : decode cX0_lossOfRow 6 = .ok (.getfield 23, 3) := by decide +kernel
theorem dX0_lossOfRow_9 : decode cX0_lossOfRow 9 = .ok (.getfield 94, 3) := by decide +kernel
theorem dX0_lossOfRow_12 : decode cX0_lossOfRow 12 = .ok (.invokevirtual 54, 3) := by decide +kernel
theorem dX0_lossOfRow_15 : decode cX0_lossOfRow 15 = .ok (.if_icmp .ge 37, 3) := by decide +kernel
theorem dX0_lossOfRow_18 : decode cX0_lossOfRow 18 = .ok (.aload_n 0, 1) := by decide +kernel
theorem dX0_lossOfRow_19 : decode cX0_lossOfRow 19 = .ok (.getfield 23, 3) := by decide +kernel
theorem dX0_lossOfRow_22 : decode cX0_lossOfRow 22 = .ok (.getfield 94, 3) := by decide +kernel
theorem dX0_lossOfRow_25 : decode cX0_lossOfRow 25 = .ok (.iload_n 2, 1) := by decide +kernel
theorem dX0_lossOfRow_26 : decode cX0_lossOfRow 26 = .ok (.invokevirtual 58, 3) := by decide +kernel
theorem dX0_lossOfRow_29 : decode cX0_lossOfRow 29 = .ok (.istore_n 3, 1) := by decide +kernel
theorem dX0_lossOfRow_30 : decode cX0_lossOfRow 30 = .ok (.iload_n 1, 1) := by decide +kernel
theorem dX0_lossOfRow_31 : decode cX0_lossOfRow 31 = .ok (.aload_n 0, 1) := by decide +kernel
theorem dX0_lossOfRow_32 : decode cX0_lossOfRow 32 = .ok (.getfield 23, 3) := by decide +kernel
theorem dX0_lossOfRow_35 : decode cX0_lossOfRow 35 = .ok (.iload_n 3, 1) := by decide +kernel
theorem dX0_lossOfRow_36 : decode cX0_lossOfRow 36 = .ok (.aload_n 0, 1) := by decide +kernel
theorem dX0_lossOfRow_37 : decode cX0_lossOfRow 37 = .ok (.iload_n 3, 1) := by decide +kernel
theorem dX0_lossOfRow_38 : decode cX0_lossOfRow 38 = .ok (.invokevirtual 97, 3) := by decide +kernel
theorem dX0_lossOfRow_41 : decode cX0_lossOfRow 41 = .ok (.invokevirtual 100, 3) := by decide +kernel
theorem dX0_lossOfRow_44 : decode cX0_lossOfRow 44 = .ok (.iadd, 1) := by decide +kernel
theorem dX0_lossOfRow_45 : decode cX0_lossOfRow 45 = .ok (.istore_n 1, 1) := by decide +kernel
theorem dX0_lossOfRow_46 : decode cX0_lossOfRow 46 = .ok (.iinc 2 1, 3) := by decide +kernel
theorem dX0_lossOfRow_49 : decode cX0_lossOfRow 49 = .ok (.goto (-45), 3) := by decide +kernel
theorem dX0_lossOfRow_52 : decode cX0_lossOfRow 52 = .ok (.iload_n 1, 1) := by decide +kernel
theorem dX0_lossOfRow_53 : decode cX0_lossOfRow 53 = .ok (.ireturn, 1) := by decide +kernel
theorem dX0_firstGoodOfRow_0 : decode cX0_firstGoodOfRow 0 = .ok (.iconst 0, 1) := by decide +kernel
theorem dX0_firstGoodOfRow_1 : decode cX0_firstGoodOfRow 1 = .ok (.istore_n 1, 1) := by decide +kernel
theorem dX0_firstGoodOfRow_2 : decode cX0_firstGoodOfRow 2 = .ok (.iload_n 1, 1) := by decide +kernel
theorem dX0_firstGoodOfRow_3 : decode cX0_firstGoodOfRow 3 = .ok (.aload_n 0, 1) := by decide +kernel
theorem dX0_firstGoodOfRow_4 : decode cX0_firstGoodOfRow 4 = .ok (.getfield 23, 3) := by decide +kernel
theorem dX0_firstGoodOfRow_7 : decode cX0_firstGoodOfRow 7 = .ok (.getfield 94, 3) := by decide +kernel
theorem dX0_firstGoodOfRow_10 : decode cX0_firstGoodOfRow 10 = .ok (.invokevirtual 54, 3) := by decide +kernel
theorem dX0_firstGoodOfRow_13 : decode cX0_firstGoodOfRow 13 = .ok (.if_icmp .ge 39, 3) := by decide +kernel
theorem dX0_firstGoodOfRow_16 : decode cX0_firstGoodOfRow 16 = .ok (.aload_n 0, 1) := by decide +kernel
theorem dX0_firstGoodOfRow_17 : decode cX0_firstGoodOfRow 17 = .ok (.getfield 23, 3) := by decide +kernel
theorem dX0_firstGoodOfRow_20 : decode cX0_firstGoodOfRow 20 = .ok (.getfield 94, 3) := by decide +kernel
theorem dX0_firstGoodOfRow_23 : decode cX0_firstGoodOfRow 23 = .ok (.iload_n 1, 1) := by decide +kernel
theorem dX0_firstGoodOfRow_24 : decode cX0_firstGoodOfRow 24 = .ok (.invokevirtual 58, 3) := by decide +kernel
theorem dX0_firstGoodOfRow_27 : decode cX0_firstGoodOfRow 27 = .ok (.istore_n 2, 1) := by decide +kernel
theorem dX0_firstGoodOfRow_28 : decode cX0_firstGoodOfRow 28 = .ok (.aload_n 0, 1) := by decide +kernel
theorem dX0_firstGoodOfRow_29 : decode cX0_firstGoodOfRow 29 = .ok (.getfield 23, 3) := by decide +kernel
theorem dX0_firstGoodOfRow_32 : decode cX0_firstGoodOfRow 32 = .ok (.iload_n 2, 1) := by decide +kernel
theorem dX0_firstGoodOfRow_33 : decode cX0_firstGoodOfRow 33 = .ok (.aload_n 0, 1) := by decide +kernel
theorem dX0_firstGoodOfRow_34 : decode cX0_firstGoodOfRow 34 = .ok (.iload_n 2, 1) := by decide +kernel
theorem dX0_firstGoodOfRow_35 : decode cX0_firstGoodOfRow 35 = .ok (.invokevirtual 97, 3) := by decide +kernel
theorem dX0_firstGoodOfRow_38 : decode cX0_firstGoodOfRow 38 = .ok (.invokevirtual 88, 3) := by decide +kernel
theorem dX0_firstGoodOfRow_41 : decode cX0_firstGoodOfRow 41 = .ok (.ifCond .ne 5, 3) := by decide +kernel
theorem dX0_firstGoodOfRow_44 : decode cX0_firstGoodOfRow 44 = .ok (.iload_n 1, 1) := by decide +kernel
theorem dX0_firstGoodOfRow_45 : decode cX0_firstGoodOfRow 45 = .ok (.ireturn, 1) := by decide +kernel
theorem dX0_firstGoodOfRow_46 : decode cX0_firstGoodOfRow 46 = .ok (.iinc 1 1, 3) := by decide +kernel
theorem dX0_firstGoodOfRow_49 : decode cX0_firstGoodOfRow 49 = .ok (.goto (-47), 3) := by decide +kernel
theorem dX0_firstGoodOfRow_52 : decode cX0_firstGoodOfRow 52 = .ok (.bipush (-4), 2) := by decide +kernel
theorem dX0_firstGoodOfRow_54 : decode cX0_firstGoodOfRow 54 = .ok (.ireturn, 1) := by decide +kernel
theorem dX0_doingsOfRow_0 : decode cX0_doingsOfRow 0 = .ok (.iconst 0, 1) := by decide +kernel
theorem dX0_doingsOfRow_1 : decode cX0_doingsOfRow 1 = .ok (.istore_n 1, 1) := by decide +kernel
theorem dX0_doingsOfRow_2 : decode cX0_doingsOfRow 2 = .ok (.iconst 0, 1) := by decide +kernel
theorem dX0_doingsOfRow_3 : decode cX0_doingsOfRow 3 = .ok (.istore_n 2, 1) := by decide +kernel
theorem dX0_doingsOfRow_4 : decode cX0_doingsOfRow 4 = .ok (.iload_n 2, 1) := by decide +kernel
theorem dX0_doingsOfRow_5 : decode cX0_doingsOfRow 5 = .ok (.aload_n 0, 1) := by decide +kernel
theorem dX0_doingsOfRow_6 : decode cX0_doingsOfRow 6 = .ok (.getfield 23, 3) := by decide +kernel
theorem dX0_doingsOfRow_9 : decode cX0_doingsOfRow 9 = .ok (.getfield 94, 3) := by decide +kernel
theorem dX0_doingsOfRow_12 : decode cX0_doingsOfRow 12 = .ok (.invokevirtual 54, 3) := by decide +kernel
theorem dX0_doingsOfRow_15 : decode cX0_doingsOfRow 15 = .ok (.if_icmp .ge 30, 3) := by decide +kernel
theorem dX0_doingsOfRow_18 : decode cX0_doingsOfRow 18 = .ok (.bipush 6, 2) := by decide +kernel
theorem dX0_doingsOfRow_20 : decode cX0_doingsOfRow 20 = .ok (.iload_n 1, 1) := by decide +kernel
theorem dX0_doingsOfRow_21 : decode cX0_doingsOfRow 21 = .ok (.imul, 1) := by decide +kernel
theorem dX0_doingsOfRow_22 : decode cX0_doingsOfRow 22 = .ok (.aload_n 0, 1) := by decide +kernel
theorem dX0_doingsOfRow_23 : decode cX0_doingsOfRow 23 = .ok (.aload_n 0, 1) := by decide +kernel
theorem dX0_doingsOfRow_24 : decode cX0_doingsOfRow 24 = .ok (.getfield 23, 3) := by decide +kernel
theorem dX0_doingsOfRow_27 : decode cX0_doingsOfRow 27 = .ok (.getfield 94, 3) := by decide +kernel
theorem dX0_doingsOfRow_30 : decode cX0_doingsOfRow 30 = .ok (.iload_n 2, 1) := by decide +kernel
theorem dX0_doingsOfRow_31 : decode cX0_doingsOfRow 31 = .ok (.invokevirtual 58, 3) := by decide +kernel
theorem dX0_doingsOfRow_34 : decode cX0_doingsOfRow 34 = .ok (.invokevirtual 97, 3) := by decide +kernel
theorem dX0_doingsOfRow_37 : decode cX0_doingsOfRow 37 = .ok (.iadd, 1) := by decide +kernel
theorem dX0_doingsOfRow_38 : decode cX0_doingsOfRow 38 = .ok (.istore_n 1, 1) := by decide +kernel
theorem dX0_doingsOfRow_39 : decode cX0_doingsOfRow 39 = .ok (.iinc 2 1, 3) := by decide +kernel
theorem dX0_doingsOfRow_42 : decode cX0_doingsOfRow 42 = .ok (.goto (-38), 3) := by decide +kernel
theorem dX0_doingsOfRow_45 : decode cX0_doingsOfRow 45 = .ok (.iload_n 1, 1) := by decide +kernel
theorem dX0_doingsOfRow_46 : decode cX0_doingsOfRow 46 = .ok (.ireturn, 1) := by decide +kernel
theorem dX0_stepDown_0 : decode cX0_stepDown 0 = .ok (.aload_n 0, 1) := by decide +kernel
theorem dX0_stepDown_1 : decode cX0_stepDown 1 = .ok (.getfield 27, 3) := by decide +kernel
theorem dX0_stepDown_4 : decode cX0_stepDown 4 = .ok (.ifnull 11, 3) := by decide +kernel
theorem dX0_stepDown_7 : decode cX0_stepDown 7 = .ok (.aload_n 0, 1) := by decide +kernel
theorem dX0_stepDown_8 : decode cX0_stepDown 8 = .ok (.getfield 27, 3) := by decide +kernel
theorem dX0_stepDown_11 : decode cX0_stepDown 11 = .ok (.aload_n 0, 1) := by decide +kernel
theorem dX0_stepDown_12 : decode cX0_stepDown 12 = .ok (.invokevirtual 103, 3) := by decide +kernel
theorem dX0_stepDown_15 : decode cX0_stepDown 15 = .ok (.aload_n 0, 1) := by decide +kernel
theorem dX0_stepDown_16 : decode cX0_stepDown 16 = .ok (.getfield 27, 3) := by decide +kernel
theorem dX0_stepDown_19 : decode cX0_stepDown 19 = .ok (.areturn, 1) := by decide +kernel
theorem dX0_copyFrom_0 : decode cX0_copyFrom 0 = .ok (.aload_n 0, 1) := by decide +kernel
theorem dX0_copyFrom_1 : decode cX0_copyFrom 1 = .ok (.aload_n 1, 1) := by decide +kernel
theorem dX0_copyFrom_2 : decode cX0_copyFrom 2 = .ok (.getfield 31, 3) := by decide +kernel
theorem dX0_copyFrom_5 : decode cX0_copyFrom 5 = .ok (.putfield 31, 3) := by decide +kernel
theorem dX0_copyFrom_8 : decode cX0_copyFrom 8 = .ok (.aload_n 0, 1) := by decide +kernel
theorem dX0_copyFrom_9 : decode cX0_copyFrom 9 = .ok (.aload_n 1, 1) := by decide +kernel
theorem dX0_copyFrom_10 : decode cX0_copyFrom 10 = .ok (.getfield 35, 3) := by decide +kernel
theorem dX0_copyFrom_13 : decode cX0_copyFrom 13 = .ok (.putfield 35, 3) := by decide +kernel
theorem dX0_copyFrom_16 : decode cX0_copyFrom 16 = .ok (.aload_n 0, 1) := by decide +kernel
theorem dX0_copyFrom_17 : decode cX0_copyFrom 17 = .ok (.aload_n 1, 1) := by decide +kernel
theorem dX0_copyFrom_18 : decode cX0_copyFrom 18 = .ok (.getfield 38, 3) := by decide +kernel
theorem dX0_copyFrom_21 : decode cX0_copyFrom 21 = .ok (.putfield 38, 3) := by decide +kernel
theorem dX0_copyFrom_24 : decode cX0_copyFrom 24 = .ok (.aload_n 0, 1) := by decide +kernel
theorem dX0_copyFrom_25 : decode cX0_copyFrom 25 = .ok (.aload_n 1, 1) := by decide +kernel
theorem dX0_copyFrom_26 : decode cX0_copyFrom 26 = .ok (.getfield 41, 3) := by decide +kernel
theorem dX0_copyFrom_29 : decode cX0_copyFrom 29 = .ok (.putfield 41, 3) := by decide +kernel
theorem dX0_copyFrom_32 : decode cX0_copyFrom 32 = .ok (.aload_n 0, 1) := by decide +kernel
theorem dX0_copyFrom_33 : decode cX0_copyFrom 33 = .ok (.aload_n 1, 1) := by decide +kernel
theorem dX0_copyFrom_34 : decode cX0_copyFrom 34 = .ok (.getfield 44, 3) := by decide +kernel
theorem dX0_copyFrom_37 : decode cX0_copyFrom 37 = .ok (.putfield 44, 3) := by decide +kernel
theorem dX0_copyFrom_40 : decode cX0_copyFrom 40 = .ok (.aload_n 0, 1) := by decide +kernel
theorem dX0_copyFrom_41 : decode cX0_copyFrom 41 = .ok (.getfield 14, 3) := by decide +kernel
theorem dX0_copyFrom_44 : decode cX0_copyFrom 44 = .ok (.aload_n 1, 1) := by decide +kernel
theorem dX0_copyFrom_45 : decode cX0_copyFrom 45 = .ok (.getfield 14, 3) := by decide +kernel
theorem dX0_copyFrom_48 : decode cX0_copyFrom 48 = .ok (.invokevirtual 107, 3) := by decide +kernel
theorem dX0_copyFrom_51 : decode cX0_copyFrom 51 = .ok (.aload_n 0, 1) := by decide +kernel
theorem dX0_copyFrom_52 : decode cX0_copyFrom 52 = .ok (.getfield 20, 3) := by decide +kernel
theorem dX0_copyFrom_55 : decode cX0_copyFrom 55 = .ok (.aload_n 1, 1) := by decide +kernel
theorem dX0_copyFrom_56 : decode cX0_copyFrom 56 = .ok (.getfield 20, 3) := by decide +kernel
theorem dX0_copyFrom_59 : decode cX0_copyFrom 59 = .ok (.invokevirtual 107, 3) := by decide +kernel
theorem dX0_copyFrom_62 : decode cX0_copyFrom 62 = .ok (.return_, 1) := by decide +kernel
theorem dX1_init_0 : decode cX1_init 0 = .ok (.aload_n 0, 1) := by decide +kernel
theorem dX1_init_1 : decode cX1_init 1 = .ok (.invokespecial 3, 3) := by decide +kernel
theorem dX1_init_4 : decode cX1_init 4 = .ok (.aload_n 0, 1) := by decide +kernel
theorem dX1_init_5 : decode cX1_init 5 = .ok (.new 9, 3) := by decide +kernel
theorem dX1_init_8 : decode cX1_init 8 = .ok (.dup, 1) := by decide +kernel
theorem dX1_init_9 : decode cX1_init 9 = .ok (.bipush 6, 2) := by decide +kernel
theorem dX1_init_11 : decode cX1_init 11 = .ok (.invokespecial 11, 3) := by decide +kernel
theorem dX1_init_14 : decode cX1_init 14 = .ok (.putfield 14, 3) := by decide +kernel
theorem dX1_init_17 : decode cX1_init 17 = .ok (.aload_n 0, 1) := by decide +kernel
theorem dX1_init_18 : decode cX1_init 18 = .ok (.new 9, 3) := by decide +kernel
theorem dX1_init_21 : decode cX1_init 21 = .ok (.dup, 1) := by decide +kernel
theorem dX1_init_22 : decode cX1_init 22 = .ok (.bipush 6, 2) := by decide +kernel
theorem dX1_init_24 : decode cX1_init 24 = .ok (.invokespecial 11, 3) := by decide +kernel
theorem dX1_init_27 : decode cX1_init 27 = .ok (.putfield 20, 3) := by decide +kernel
theorem dX1_init_30 : decode cX1_init 30 = .ok (.aload_n 0, 1) := by decide +kernel
theorem dX1_init_31 : decode cX1_init 31 = .ok (.new 9, 3) := by decide +kernel
theorem dX1_init_34 : decode cX1_init 34 = .ok (.dup, 1) := by decide +kernel
theorem dX1_init_35 : decode cX1_init 35 = .ok (.bipush 6, 2) := by decide +kernel
theorem dX1_init_37 : decode cX1_init 37 = .ok (.invokespecial 11, 3) := by decide +kernel
theorem dX1_init_40 : decode cX1_init 40 = .ok (.putfield 23, 3) := by decide +kernel
theorem dX1_init_43 : decode cX1_init 43 = .ok (.aload_n 0, 1) := by decide +kernel
theorem dX1_init_44 : decode cX1_init 44 = .ok (.new 9, 3) := by decide +kernel
theorem dX1_init_47 : decode cX1_init 47 = .ok (.dup, 1) := by decide +kernel
theorem dX1_init_48 : decode cX1_init 48 = .ok (.bipush 6, 2) := by decide +kernel
theorem dX1_init_50 : decode cX1_init 50 = .ok (.invokespecial 11, 3) := by decide +kernel
theorem dX1_init_53 : decode cX1_init 53 = .ok (.putfield 26, 3) := by decide +kernel
theorem dX1_init_56 : decode cX1_init 56 = .ok (.aload_n 0, 1) := by decide +kernel
theorem dX1_init_57 : decode cX1_init 57 = .ok (.new 9, 3) := by decide +kernel
theorem dX1_init_60 : decode cX1_init 60 = .ok (.dup, 1) := by decide +kernel
theorem dX1_init_61 : decode cX1_init 61 = .ok (.bipush 6, 2) := by decide +kernel
theorem dX1_init_63 : decode cX1_init 63 = .ok (.invokespecial 11, 3) := by decide +kernel
theorem dX1_init_66 : decode cX1_init 66 = .ok (.putfield 29, 3) := by decide +kernel
theorem dX1_init_69 : decode cX1_init 69 = .ok (.aload_n 0, 1) := by decide +kernel
theorem dX1_init_70 : decode cX1_init 70 = .ok (.new 9, 3) := by decide +kernel
theorem dX1_init_73 : decode cX1_init 73 = .ok (.dup, 1) := by decide +kernel
theorem dX1_init_74 : decode cX1_init 74 = .ok (.bipush 10, 2) := by decide +kernel
theorem dX1_init_76 : decode cX1_init 76 = .ok (.invokespecial 11, 3) := by decide +kernel
theorem dX1_init_79 : decode cX1_init 79 = .ok (.putfield 32, 3) := by decide +kernel
theorem dX1_init_82 : decode cX1_init 82 = .ok (.return_, 1) := by decide +kernel
theorem dX1_kinds_0 : decode cX1_kinds 0 = .ok (.aload_n 0, 1) := by decide +kernel
theorem dX1_kinds_1 : decode cX1_kinds 1 = .ok (.getfield 14, 3) := by decide +kernel
theorem dX1_kinds_4 : decode cX1_kinds 4 = .ok (.invokevirtual 35, 3) := by decide +kernel
theorem dX1_kinds_7 : decode cX1_kinds 7 = .ok (.ireturn, 1) := by decide +kernel
theorem dX1_isKind_0 : decode cX1_isKind 0 = .ok (.iload_n 1, 1) := by decide +kernel
theorem dX1_isKind_1 : decode cX1_isKind 1 = .ok (.ifCond .lt 18, 3) := by decide +kernel
theorem dX1_isKind_4 : decode cX1_isKind 4 = .ok (.iload_n 1, 1) := by decide +kernel
theorem dX1_isKind_5 : decode cX1_isKind 5 = .ok (.aload_n 0, 1) := by decide +kernel
theorem dX1_isKind_6 : decode cX1_isKind 6 = .ok (.getfield 14, 3) := by decide +kernel
theorem dX1_isKind_9 : decode cX1_isKind 9 = .ok (.invokevirtual 35, 3) := by decide +kernel
theorem dX1_isKind_12 : decode cX1_isKind 12 = .ok (.if_icmp .ge 7, 3) := by decide +kernel
theorem dX1_isKind_15 : decode cX1_isKind 15 = .ok (.iconst 1, 1) := by decide +kernel
theorem dX1_isKind_16 : decode cX1_isKind 16 = .ok (.goto 4, 3) := by decide +kernel
theorem dX1_isKind_19 : decode cX1_isKind 19 = .ok (.iconst 0, 1) := by decide +kernel
theorem dX1_isKind_20 : decode cX1_isKind 20 = .ok (.ireturn, 1) := by decide +kernel
theorem dX1_allChances_0 : decode cX1_allChances 0 = .ok (.iconst 0, 1) := by decide +kernel
theorem dX1_allChances_1 : decode cX1_allChances 1 = .ok (.istore_n 1, 1) := by decide +kernel
theorem dX1_allChances_2 : decode cX1_allChances 2 = .ok (.iconst 0, 1) := by decide +kernel
theorem dX1_allChances_3 : decode cX1_allChances 3 = .ok (.istore_n 2, 1) := by decide +kernel
theorem dX1_allChances_4 : decode cX1_allChances 4 = .ok (.iload_n 2, 1) := by decide +kernel
theorem dX1_allChances_5 : decode cX1_allChances 5 = .ok (.aload_n 0, 1) := by decide +kernel
theorem dX1_allChances_6 : decode cX1_allChances 6 = .ok (.getfield 29, 3) := by decide +kernel
theorem dX1_allChances_9 : decode cX1_allChances 9 = .ok (.invokevirtual 35, 3) := by decide +kernel
theorem dX1_allChances_12 : decode cX1_allChances 12 = .ok (.if_icmp .ge 20, 3) := by decide +kernel
theorem dX1_allChances_15 : decode cX1_allChances 15 = .ok (.iload_n 1, 1) := by decide +kernel
theorem dX1_allChances_16 : decode cX1_allChances 16 = .ok (.aload_n 0, 1) := by decide +kernel
theorem dX1_allChances_17 : decode cX1_allChances 17 = .ok (.getfield 29, 3) := by decide +kernel
theorem dX1_allChances_20 : decode cX1_allChances 20 = .ok (.iload_n 2, 1) := by decide +kernel
theorem dX1_allChances_21 : decode cX1_allChances 21 = .ok (.invokevirtual 39, 3) := by decide +kernel
theorem dX1_allChances_24 : decode cX1_allChances 24 = .ok (.iadd, 1) := by decide +kernel
theorem dX1_allChances_25 : decode cX1_allChances 25 = .ok (.istore_n 1, 1) := by decide +kernel
theorem dX1_allChances_26 : decode cX1_allChances 26 = .ok (.iinc 2 1, 3) := by decide +kernel
theorem dX1_allChances_29 : decode cX1_allChances 29 = .ok (.goto (-25), 3) := by decide +kernel
theorem dX1_allChances_32 : decode cX1_allChances 32 = .ok (.iload_n 1, 1) := by decide +kernel
theorem dX1_allChances_33 : decode cX1_allChances 33 = .ok (.ireturn, 1) := by decide +kernel
theorem dX1_outcome_0 : decode cX1_outcome 0 = .ok (.iload_n 2, 1) := by decide +kernel
theorem dX1_outcome_1 : decode cX1_outcome 1 = .ok (.aload_n 0, 1) := by decide +kernel
theorem dX1_outcome_2 : decode cX1_outcome 2 = .ok (.getfield 20, 3) := by decide +kernel
theorem dX1_outcome_5 : decode cX1_outcome 5 = .ok (.iload_n 1, 1) := by decide +kernel
theorem dX1_outcome_6 : decode cX1_outcome 6 = .ok (.invokevirtual 39, 3) := by decide +kernel
theorem dX1_outcome_9 : decode cX1_outcome 9 = .ok (.if_icmp .ne 5, 3) := by decide +kernel
theorem dX1_outcome_12 : decode cX1_outcome 12 = .ok (.iconst 0, 1) := by decide +kernel
theorem dX1_outcome_13 : decode cX1_outcome 13 = .ok (.ireturn, 1) := by decide +kernel
theorem dX1_outcome_14 : decode cX1_outcome 14 = .ok (.aload_n 0, 1) := by decide +kernel
theorem dX1_outcome_15 : decode cX1_outcome 15 = .ok (.getfield 23, 3) := by decide +kernel
theorem dX1_outcome_18 : decode cX1_outcome 18 = .ok (.iload_n 1, 1) := by decide +kernel
theorem dX1_outcome_19 : decode cX1_outcome 19 = .ok (.invokevirtual 39, 3) := by decide +kernel
theorem dX1_outcome_22 : decode cX1_outcome 22 = .ok (.iload_n 2, 1) := by decide +kernel
theorem dX1_outcome_23 : decode cX1_outcome 23 = .ok (.ishr, 1) := by decide +kernel
theorem dX1_outcome_24 : decode cX1_outcome 24 = .ok (.iconst 1, 1) := by decide +kernel
theorem dX1_outcome_25 : decode cX1_outcome 25 = .ok (.iand, 1) := by decide +kernel
theorem dX1_outcome_26 : decode cX1_outcome 26 = .ok (.iconst 1, 1) := by decide +kernel
theorem dX1_outcome_27 : decode cX1_outcome 27 = .ok (.if_icmp .ne 7, 3) := by decide +kernel
theorem dX1_outcome_30 : decode cX1_outcome 30 = .ok (.iconst 1, 1) := by decide +kernel
theorem dX1_outcome_31 : decode cX1_outcome 31 = .ok (.goto 4, 3) := by decide +kernel
theorem dX1_outcome_34 : decode cX1_outcome 34 = .ok (.iconst 2, 1) := by decide +kernel
theorem dX1_outcome_35 : decode cX1_outcome 35 = .ok (.ireturn, 1) := by decide +kernel
theorem dX1_lost_0 : decode cX1_lost 0 = .ok (.aload_n 0, 1) := by decide +kernel
theorem dX1_lost_1 : decode cX1_lost 1 = .ok (.iload_n 1, 1) := by decide +kernel
theorem dX1_lost_2 : decode cX1_lost 2 = .ok (.iload_n 2, 1) := by decide +kernel
theorem dX1_lost_3 : decode cX1_lost 3 = .ok (.invokevirtual 43, 3) := by decide +kernel
theorem dX1_lost_6 : decode cX1_lost 6 = .ok (.iconst 1, 1) := by decide +kernel
theorem dX1_lost_7 : decode cX1_lost 7 = .ok (.if_icmp .ne 14, 3) := by decide +kernel
theorem dX1_lost_10 : decode cX1_lost 10 = .ok (.aload_n 0, 1) := by decide +kernel
theorem dX1_lost_11 : decode cX1_lost 11 = .ok (.getfield 26, 3) := by decide +kernel
theorem dX1_lost_14 : decode cX1_lost 14 = .ok (.iload_n 1, 1) := by decide +kernel
theorem dX1_lost_15 : decode cX1_lost 15 = .ok (.invokevirtual 39, 3) := by decide +kernel
theorem dX1_lost_18 : decode cX1_lost 18 = .ok (.goto 4, 3) := by decide +kernel
theorem dX1_lost_21 : decode cX1_lost 21 = .ok (.iconst 0, 1) := by decide +kernel
theorem dX1_lost_22 : decode cX1_lost 22 = .ok (.ireturn, 1) := by decide +kernel
theorem dX1_clear_0 : decode cX1_clear 0 = .ok (.aload_n 0, 1) := by decide +kernel
theorem dX1_clear_1 : decode cX1_clear 1 = .ok (.getfield 14, 3) := by decide +kernel
theorem dX1_clear_4 : decode cX1_clear 4 = .ok (.invokevirtual 47, 3) := by decide +kernel
theorem dX1_clear_7 : decode cX1_clear 7 = .ok (.aload_n 0, 1) := by decide +kernel
theorem dX1_clear_8 : decode cX1_clear 8 = .ok (.getfield 20, 3) := by decide +kernel
theorem dX1_clear_11 : decode cX1_clear 11 = .ok (.invokevirtual 47, 3) := by decide +kernel
theorem dX1_clear_14 : decode cX1_clear 14 = .ok (.aload_n 0, 1) := by decide +kernel
theorem dX1_clear_15 : decode cX1_clear 15 = .ok (.getfield 23, 3) := by decide +kernel
theorem dX1_clear_18 : decode cX1_clear 18 = .ok (.invokevirtual 47, 3) := by decide +kernel
theorem dX1_clear_21 : decode cX1_clear 21 = .ok (.aload_n 0, 1) := by decide +kernel
theorem dX1_clear_22 : decode cX1_clear 22 = .ok (.getfield 26, 3) := by decide +kernel
theorem dX1_clear_25 : decode cX1_clear 25 = .ok (.invokevirtual 47, 3) := by decide +kernel
theorem dX1_clear_28 : decode cX1_clear 28 = .ok (.aload_n 0, 1) := by decide +kernel
theorem dX1_clear_29 : decode cX1_clear 29 = .ok (.getfield 29, 3) := by decide +kernel
theorem dX1_clear_32 : decode cX1_clear 32 = .ok (.invokevirtual 47, 3) := by decide +kernel
theorem dX1_clear_35 : decode cX1_clear 35 = .ok (.aload_n 0, 1) := by decide +kernel
theorem dX1_clear_36 : decode cX1_clear 36 = .ok (.getfield 32, 3) := by decide +kernel
theorem dX1_clear_39 : decode cX1_clear 39 = .ok (.invokevirtual 47, 3) := by decide +kernel
theorem dX1_clear_42 : decode cX1_clear 42 = .ok (.aload_n 0, 1) := by decide +kernel
theorem dX1_clear_43 : decode cX1_clear 43 = .ok (.iconst 0, 1) := by decide +kernel
theorem dX1_clear_44 : decode cX1_clear 44 = .ok (.putfield 50, 3) := by decide +kernel
theorem dX1_clear_47 : decode cX1_clear 47 = .ok (.aload_n 0, 1) := by decide +kernel
theorem dX1_clear_48 : decode cX1_clear 48 = .ok (.iconst 0, 1) := by decide +kernel
theorem dX1_clear_49 : decode cX1_clear 49 = .ok (.putfield 54, 3) := by decide +kernel
theorem dX1_clear_52 : decode cX1_clear 52 = .ok (.return_, 1) := by decide +kernel
theorem dX1_copyFrom_0 : decode cX1_copyFrom 0 = .ok (.aload_n 0, 1) := by decide +kernel
theorem dX1_copyFrom_1 : decode cX1_copyFrom 1 = .ok (.getfield 14, 3) := by decide +kernel
theorem dX1_copyFrom_4 : decode cX1_copyFrom 4 = .ok (.aload_n 1, 1) := by decide +kernel
theorem dX1_copyFrom_5 : decode cX1_copyFrom 5 = .ok (.getfield 14, 3) := by decide +kernel
theorem dX1_copyFrom_8 : decode cX1_copyFrom 8 = .ok (.invokevirtual 57, 3) := by decide +kernel
theorem dX1_copyFrom_11 : decode cX1_copyFrom 11 = .ok (.aload_n 0, 1) := by decide +kernel
theorem dX1_copyFrom_12 : decode cX1_copyFrom 12 = .ok (.getfield 20, 3) := by decide +kernel
theorem dX1_copyFrom_15 : decode cX1_copyFrom 15 = .ok (.aload_n 1, 1) := by decide +kernel
theorem dX1_copyFrom_16 : decode cX1_copyFrom 16 = .ok (.getfield 20, 3) := by decide +kernel
theorem dX1_copyFrom_19 : decode cX1_copyFrom 19 = .ok (.invokevirtual 57, 3) := by decide +kernel
theorem dX1_copyFrom_22 : decode cX1_copyFrom 22 = .ok (.aload_n 0, 1) := by decide +kernel
theorem dX1_copyFrom_23 : decode cX1_copyFrom 23 = .ok (.getfield 23, 3) := by decide +kernel
theorem dX1_copyFrom_26 : decode cX1_copyFrom 26 = .ok (.aload_n 1, 1) := by decide +kernel
theorem dX1_copyFrom_27 : decode cX1_copyFrom 27 = .ok (.getfield 23, 3) := by decide +kernel
theorem dX1_copyFrom_30 : decode cX1_copyFrom 30 = .ok (.invokevirtual 57, 3) := by decide +kernel
theorem dX1_copyFrom_33 : decode cX1_copyFrom 33 = .ok (.aload_n 0, 1) := by decide +kernel
theorem dX1_copyFrom_34 : decode cX1_copyFrom 34 = .ok (.getfield 26, 3) := by decide +kernel
theorem dX1_copyFrom_37 : decode cX1_copyFrom 37 = .ok (.aload_n 1, 1) := by decide +kernel
theorem dX1_copyFrom_38 : decode cX1_copyFrom 38 = .ok (.getfield 26, 3) := by decide +kernel
theorem dX1_copyFrom_41 : decode cX1_copyFrom 41 = .ok (.invokevirtual 57, 3) := by decide +kernel
theorem dX1_copyFrom_44 : decode cX1_copyFrom 44 = .ok (.aload_n 0, 1) := by decide +kernel
theorem dX1_copyFrom_45 : decode cX1_copyFrom 45 = .ok (.getfield 29, 3) := by decide +kernel
theorem dX1_copyFrom_48 : decode cX1_copyFrom 48 = .ok (.aload_n 1, 1) := by decide +kernel
theorem dX1_copyFrom_49 : decode cX1_copyFrom 49 = .ok (.getfield 29, 3) := by decide +kernel
theorem dX1_copyFrom_52 : decode cX1_copyFrom 52 = .ok (.invokevirtual 57, 3) := by decide +kernel
theorem dX1_copyFrom_55 : decode cX1_copyFrom 55 = .ok (.aload_n 0, 1) := by decide +kernel
theorem dX1_copyFrom_56 : decode cX1_copyFrom 56 = .ok (.getfield 32, 3) := by decide +kernel
theorem dX1_copyFrom_59 : decode cX1_copyFrom 59 = .ok (.aload_n 1, 1) := by decide +kernel
theorem dX1_copyFrom_60 : decode cX1_copyFrom 60 = .ok (.getfield 32, 3) := by decide +kernel
theorem dX1_copyFrom_63 : decode cX1_copyFrom 63 = .ok (.invokevirtual 57, 3) := by decide +kernel
theorem dX1_copyFrom_66 : decode cX1_copyFrom 66 = .ok (.aload_n 0, 1) := by decide +kernel
theorem dX1_copyFrom_67 : decode cX1_copyFrom 67 = .ok (.aload_n 1, 1) := by decide +kernel
theorem dX1_copyFrom_68 : decode cX1_copyFrom 68 = .ok (.getfield 50, 3) := by decide +kernel
theorem dX1_copyFrom_71 : decode cX1_copyFrom 71 = .ok (.putfield 50, 3) := by decide +kernel
theorem dX1_copyFrom_74 : decode cX1_copyFrom 74 = .ok (.aload_n 0, 1) := by decide +kernel
theorem dX1_copyFrom_75 : decode cX1_copyFrom 75 = .ok (.aload_n 1, 1) := by decide +kernel
theorem dX1_copyFrom_76 : decode cX1_copyFrom 76 = .ok (.getfield 54, 3) := by decide +kernel
theorem dX1_copyFrom_79 : decode cX1_copyFrom 79 = .ok (.putfield 54, 3) := by decide +kernel
theorem dX1_copyFrom_82 : decode cX1_copyFrom 82 = .ok (.return_, 1) := by decide +kernel
theorem dX2_init_0 : decode cX2_init 0 = .ok (.aload_n 0, 1) := by decide +kernel
theorem dX2_init_1 : decode cX2_init 1 = .ok (.invokespecial 3, 3) := by decide +kernel
theorem dX2_init_4 : decode cX2_init 4 = .ok (.aload_n 0, 1) := by decide +kernel
theorem dX2_init_5 : decode cX2_init 5 = .ok (.new 9, 3) := by decide +kernel
theorem dX2_init_8 : decode cX2_init 8 = .ok (.dup, 1) := by decide +kernel
theorem dX2_init_9 : decode cX2_init 9 = .ok (.bipush 40, 2) := by decide +kernel
theorem dX2_init_11 : decode cX2_init 11 = .ok (.invokespecial 11, 3) := by decide +kernel
theorem dX2_init_14 : decode cX2_init 14 = .ok (.putfield 14, 3) := by decide +kernel
theorem dX2_init_17 : decode cX2_init 17 = .ok (.aload_n 0, 1) := by decide +kernel
theorem dX2_init_18 : decode cX2_init 18 = .ok (.new 9, 3) := by decide +kernel
theorem dX2_init_21 : decode cX2_init 21 = .ok (.dup, 1) := by decide +kernel
theorem dX2_init_22 : decode cX2_init 22 = .ok (.bipush 6, 2) := by decide +kernel
theorem dX2_init_24 : decode cX2_init 24 = .ok (.invokespecial 11, 3) := by decide +kernel
theorem dX2_init_27 : decode cX2_init 27 = .ok (.putfield 20, 3) := by decide +kernel
theorem dX2_init_30 : decode cX2_init 30 = .ok (.aload_n 0, 1) := by decide +kernel
theorem dX2_init_31 : decode cX2_init 31 = .ok (.getfield 20, 3) := by decide +kernel
theorem dX2_init_34 : decode cX2_init 34 = .ok (.bipush 6, 2) := by decide +kernel
theorem dX2_init_36 : decode cX2_init 36 = .ok (.iconst 0, 1) := by decide +kernel
theorem dX2_init_37 : decode cX2_init 37 = .ok (.invokevirtual 23, 3) := by decide +kernel
theorem dX2_init_40 : decode cX2_init 40 = .ok (.return_, 1) := by decide +kernel
theorem dX2_clear_0 : decode cX2_clear 0 = .ok (.aload_n 0, 1) := by decide +kernel
theorem dX2_clear_1 : decode cX2_clear 1 = .ok (.getfield 14, 3) := by decide +kernel
theorem dX2_clear_4 : decode cX2_clear 4 = .ok (.invokevirtual 27, 3) := by decide +kernel
theorem dX2_clear_7 : decode cX2_clear 7 = .ok (.aload_n 0, 1) := by decide +kernel
theorem dX2_clear_8 : decode cX2_clear 8 = .ok (.getfield 20, 3) := by decide +kernel
theorem dX2_clear_11 : decode cX2_clear 11 = .ok (.bipush 6, 2) := by decide +kernel
theorem dX2_clear_13 : decode cX2_clear 13 = .ok (.iconst 0, 1) := by decide +kernel
theorem dX2_clear_14 : decode cX2_clear 14 = .ok (.invokevirtual 23, 3) := by decide +kernel
theorem dX2_clear_17 : decode cX2_clear 17 = .ok (.aload_n 0, 1) := by decide +kernel
theorem dX2_clear_18 : decode cX2_clear 18 = .ok (.iconst 0, 1) := by decide +kernel
theorem dX2_clear_19 : decode cX2_clear 19 = .ok (.putfield 30, 3) := by decide +kernel
theorem dX2_clear_22 : decode cX2_clear 22 = .ok (.aload_n 0, 1) := by decide +kernel
theorem dX2_clear_23 : decode cX2_clear 23 = .ok (.iconst 0, 1) := by decide +kernel
theorem dX2_clear_24 : decode cX2_clear 24 = .ok (.putfield 34, 3) := by decide +kernel
theorem dX2_clear_27 : decode cX2_clear 27 = .ok (.aload_n 0, 1) := by decide +kernel
theorem dX2_clear_28 : decode cX2_clear 28 = .ok (.iconst 0, 1) := by decide +kernel
theorem dX2_clear_29 : decode cX2_clear 29 = .ok (.putfield 37, 3) := by decide +kernel
theorem dX2_clear_32 : decode cX2_clear 32 = .ok (.return_, 1) := by decide +kernel
theorem dX2_addWord_0 : decode cX2_addWord 0 = .ok (.aload_n 0, 1) := by decide +kernel
theorem dX2_addWord_1 : decode cX2_addWord 1 = .ok (.getfield 14, 3) := by decide +kernel
theorem dX2_addWord_4 : decode cX2_addWord 4 = .ok (.invokevirtual 40, 3) := by decide +kernel
theorem dX2_addWord_7 : decode cX2_addWord 7 = .ok (.ifCond .eq 10, 3) := by decide +kernel
theorem dX2_addWord_10 : decode cX2_addWord 10 = .ok (.aload_n 0, 1) := by decide +kernel
theorem dX2_addWord_11 : decode cX2_addWord 11 = .ok (.getfield 14, 3) := by decide +kernel
theorem dX2_addWord_14 : decode cX2_addWord 14 = .ok (.invokevirtual 44, 3) := by decide +kernel
theorem dX2_addWord_17 : decode cX2_addWord 17 = .ok (.aload_n 0, 1) := by decide +kernel
theorem dX2_addWord_18 : decode cX2_addWord 18 = .ok (.getfield 14, 3) := by decide +kernel
theorem dX2_addWord_21 : decode cX2_addWord 21 = .ok (.iload_n 1, 1) := by decide +kernel
theorem dX2_addWord_22 : decode cX2_addWord 22 = .ok (.iload_n 2, 1) := by decide +kernel
theorem dX2_addWord_23 : decode cX2_addWord 23 = .ok (.invokestatic 47, 3) := by decide +kernel
theorem dX2_addWord_26 : decode cX2_addWord 26 = .ok (.invokevirtual 51, 3) := by decide +kernel
theorem dX2_addWord_29 : decode cX2_addWord 29 = .ok (.return_, 1) := by decide +kernel
theorem dX2_addDay_0 : decode cX2_addDay 0 = .ok (.aload_n 0, 1) := by decide +kernel
theorem dX2_addDay_1 : decode cX2_addDay 1 = .ok (.dup, 1) := by decide +kernel
theorem dX2_addDay_2 : decode cX2_addDay 2 = .ok (.getfield 30, 3) := by decide +kernel
theorem dX2_addDay_5 : decode cX2_addDay 5 = .ok (.iconst 1, 1) := by decide +kernel
theorem dX2_addDay_6 : decode cX2_addDay 6 = .ok (.iadd, 1) := by decide +kernel
theorem dX2_addDay_7 : decode cX2_addDay 7 = .ok (.putfield 30, 3) := by decide +kernel
theorem dX2_addDay_10 : decode cX2_addDay 10 = .ok (.aload_n 0, 1) := by decide +kernel
theorem dX2_addDay_11 : decode cX2_addDay 11 = .ok (.getfield 20, 3) := by decide +kernel
theorem dX2_addDay_14 : decode cX2_addDay 14 = .ok (.iload_n 2, 1) := by decide +kernel
theorem dX2_addDay_15 : decode cX2_addDay 15 = .ok (.aload_n 0, 1) := by decide +kernel
theorem dX2_addDay_16 : decode cX2_addDay 16 = .ok (.getfield 20, 3) := by decide +kernel
theorem dX2_addDay_19 : decode cX2_addDay 19 = .ok (.iload_n 2, 1) := by decide +kernel
theorem dX2_addDay_20 : decode cX2_addDay 20 = .ok (.invokevirtual 54, 3) := by decide +kernel
theorem dX2_addDay_23 : decode cX2_addDay 23 = .ok (.iconst 1, 1) := by decide +kernel
theorem dX2_addDay_24 : decode cX2_addDay 24 = .ok (.iadd, 1) := by decide +kernel
theorem dX2_addDay_25 : decode cX2_addDay 25 = .ok (.invokevirtual 58, 3) := by decide +kernel
theorem dX2_addDay_28 : decode cX2_addDay 28 = .ok (.aload_n 0, 1) := by decide +kernel
theorem dX2_addDay_29 : decode cX2_addDay 29 = .ok (.dup, 1) := by decide +kernel
theorem dX2_addDay_30 : decode cX2_addDay 30 = .ok (.getfield 34, 3) := by decide +kernel
theorem dX2_addDay_33 : decode cX2_addDay 33 = .ok (.aload_n 1, 1) := by decide +kernel
theorem dX2_addDay_34 : decode cX2_addDay 34 = .ok (.iload_n 2, 1) := by decide +kernel
theorem dX2_addDay_35 : decode cX2_addDay 35 = .ok (.iload_n 3, 1) := by decide +kernel
theorem dX2_addDay_36 : decode cX2_addDay 36 = .ok (.invokevirtual 61, 3) := by decide +kernel
theorem dX2_addDay_39 : decode cX2_addDay 39 = .ok (.iadd, 1) := by decide +kernel
theorem dX2_addDay_40 : decode cX2_addDay 40 = .ok (.putfield 34, 3) := by decide +kernel
theorem dX2_addDay_43 : decode cX2_addDay 43 = .ok (.aload_n 1, 1) := by decide +kernel
theorem dX2_addDay_44 : decode cX2_addDay 44 = .ok (.iload_n 2, 1) := by decide +kernel
theorem dX2_addDay_45 : decode cX2_addDay 45 = .ok (.iload_n 3, 1) := by decide +kernel
theorem dX2_addDay_46 : decode cX2_addDay 46 = .ok (.invokevirtual 65, 3) := by decide +kernel
theorem dX2_addDay_49 : decode cX2_addDay 49 = .ok (.ifCond .ne 16, 3) := by decide +kernel
theorem dX2_addDay_52 : decode cX2_addDay 52 = .ok (.aload_n 0, 1) := by decide +kernel
theorem dX2_addDay_53 : decode cX2_addDay 53 = .ok (.dup, 1) := by decide +kernel
theorem dX2_addDay_54 : decode cX2_addDay 54 = .ok (.getfield 37, 3) := by decide +kernel
theorem dX2_addDay_57 : decode cX2_addDay 57 = .ok (.iconst 1, 1) := by decide +kernel
theorem dX2_addDay_58 : decode cX2_addDay 58 = .ok (.iadd, 1) := by decide +kernel
theorem dX2_addDay_59 : decode cX2_addDay 59 = .ok (.putfield 37, 3) := by decide +kernel
theorem dX2_addDay_62 : decode cX2_addDay 62 = .ok (.goto 16, 3) := by decide +kernel
theorem dX2_addDay_65 : decode cX2_addDay 65 = .ok (.aload_n 0, 1) := by decide +kernel
theorem dX2_addDay_66 : decode cX2_addDay 66 = .ok (.iload_n 2, 1) := by decide +kernel
theorem dX2_addDay_67 : decode cX2_addDay 67 = .ok (.aload_n 1, 1) := by decide +kernel
theorem dX2_addDay_68 : decode cX2_addDay 68 = .ok (.getfield 68, 3) := by decide +kernel
theorem dX2_addDay_71 : decode cX2_addDay 71 = .ok (.iload_n 2, 1) := by decide +kernel
theorem dX2_addDay_72 : decode cX2_addDay 72 = .ok (.invokevirtual 54, 3) := by decide +kernel
theorem dX2_addDay_75 : decode cX2_addDay 75 = .ok (.invokevirtual 71, 3) := by decide +kernel
theorem dX2_addDay_78 : decode cX2_addDay 78 = .ok (.return_, 1) := by decide +kernel
theorem dX2_copyFrom_0 : decode cX2_copyFrom 0 = .ok (.aload_n 0, 1) := by decide +kernel
theorem dX2_copyFrom_1 : decode cX2_copyFrom 1 = .ok (.getfield 14, 3) := by decide +kernel
theorem dX2_copyFrom_4 : decode cX2_copyFrom 4 = .ok (.aload_n 1, 1) := by decide +kernel
theorem dX2_copyFrom_5 : decode cX2_copyFrom 5 = .ok (.getfield 14, 3) := by decide +kernel
theorem dX2_copyFrom_8 : decode cX2_copyFrom 8 = .ok (.invokevirtual 74, 3) := by decide +kernel
theorem dX2_copyFrom_11 : decode cX2_copyFrom 11 = .ok (.aload_n 0, 1) := by decide +kernel
theorem dX2_copyFrom_12 : decode cX2_copyFrom 12 = .ok (.getfield 20, 3) := by decide +kernel
theorem dX2_copyFrom_15 : decode cX2_copyFrom 15 = .ok (.aload_n 1, 1) := by decide +kernel
theorem dX2_copyFrom_16 : decode cX2_copyFrom 16 = .ok (.getfield 20, 3) := by decide +kernel
theorem dX2_copyFrom_19 : decode cX2_copyFrom 19 = .ok (.invokevirtual 74, 3) := by decide +kernel
theorem dX2_copyFrom_22 : decode cX2_copyFrom 22 = .ok (.aload_n 0, 1) := by decide +kernel
theorem dX2_copyFrom_23 : decode cX2_copyFrom 23 = .ok (.aload_n 1, 1) := by decide +kernel
theorem dX2_copyFrom_24 : decode cX2_copyFrom 24 = .ok (.getfield 30, 3) := by decide +kernel
theorem dX2_copyFrom_27 : decode cX2_copyFrom 27 = .ok (.putfield 30, 3) := by decide +kernel
theorem dX2_copyFrom_30 : decode cX2_copyFrom 30 = .ok (.aload_n 0, 1) := by decide +kernel
theorem dX2_copyFrom_31 : decode cX2_copyFrom 31 = .ok (.aload_n 1, 1) := by decide +kernel
theorem dX2_copyFrom_32 : decode cX2_copyFrom 32 = .ok (.getfield 34, 3) := by decide +kernel
theorem dX2_copyFrom_35 : decode cX2_copyFrom 35 = .ok (.putfield 34, 3) := by decide +kernel
theorem dX2_copyFrom_38 : decode cX2_copyFrom 38 = .ok (.aload_n 0, 1) := by decide +kernel
theorem dX2_copyFrom_39 : decode cX2_copyFrom 39 = .ok (.aload_n 1, 1) := by decide +kernel
theorem dX2_copyFrom_40 : decode cX2_copyFrom 40 = .ok (.getfield 37, 3) := by decide +kernel
theorem dX2_copyFrom_43 : decode cX2_copyFrom 43 = .ok (.putfield 37, 3) := by decide +kernel
theorem dX2_copyFrom_46 : decode cX2_copyFrom 46 = .ok (.return_, 1) := by decide +kernel
theorem dX3_init_0 : decode cX3_init 0 = .ok (.aload_n 0, 1) := by decide +kernel
theorem dX3_init_1 : decode cX3_init 1 = .ok (.invokespecial 1, 3) := by decide +kernel
theorem dX3_init_4 : decode cX3_init 4 = .ok (.aload_n 0, 1) := by decide +kernel
theorem dX3_init_5 : decode cX3_init 5 = .ok (.iconst 0, 1) := by decide +kernel
theorem dX3_init_6 : decode cX3_init 6 = .ok (.iload_n 1, 1) := by decide +kernel
theorem dX3_init_7 : decode cX3_init 7 = .ok (.invokestatic 7, 3) := by decide +kernel
theorem dX3_init_10 : decode cX3_init 10 = .ok (.newarray .int, 2) := by decide +kernel
theorem dX3_init_12 : decode cX3_init 12 = .ok (.putfield 13, 3) := by decide +kernel
theorem dX3_init_15 : decode cX3_init 15 = .ok (.return_, 1) := by decide +kernel
theorem dX3_size_0 : decode cX3_size 0 = .ok (.aload_n 0, 1) := by decide +kernel
theorem dX3_size_1 : decode cX3_size 1 = .ok (.getfield 19, 3) := by decide +kernel
theorem dX3_size_4 : decode cX3_size 4 = .ok (.ireturn, 1) := by decide +kernel
theorem dX3_isFull_0 : decode cX3_isFull 0 = .ok (.aload_n 0, 1) := by decide +kernel
theorem dX3_isFull_1 : decode cX3_isFull 1 = .ok (.getfield 19, 3) := by decide +kernel
theorem dX3_isFull_4 : decode cX3_isFull 4 = .ok (.aload_n 0, 1) := by decide +kernel
theorem dX3_isFull_5 : decode cX3_isFull 5 = .ok (.getfield 13, 3) := by decide +kernel
theorem dX3_isFull_8 : decode cX3_isFull 8 = .ok (.arraylength, 1) := by decide +kernel
theorem dX3_isFull_9 : decode cX3_isFull 9 = .ok (.if_icmp .lt 7, 3) := by decide +kernel
theorem dX3_isFull_12 : decode cX3_isFull 12 = .ok (.iconst 1, 1) := by decide +kernel
theorem dX3_isFull_13 : decode cX3_isFull 13 = .ok (.goto 4, 3) := by decide +kernel
theorem dX3_isFull_16 : decode cX3_isFull 16 = .ok (.iconst 0, 1) := by decide +kernel
theorem dX3_isFull_17 : decode cX3_isFull 17 = .ok (.ireturn, 1) := by decide +kernel
theorem dX3_at_0 : decode cX3_at 0 = .ok (.iload_n 1, 1) := by decide +kernel
theorem dX3_at_1 : decode cX3_at 1 = .ok (.ifCond .lt 29, 3) := by decide +kernel
theorem dX3_at_4 : decode cX3_at 4 = .ok (.iload_n 1, 1) := by decide +kernel
theorem dX3_at_5 : decode cX3_at 5 = .ok (.aload_n 0, 1) := by decide +kernel
theorem dX3_at_6 : decode cX3_at 6 = .ok (.getfield 19, 3) := by decide +kernel
theorem dX3_at_9 : decode cX3_at 9 = .ok (.if_icmp .ge 21, 3) := by decide +kernel
theorem dX3_at_12 : decode cX3_at 12 = .ok (.iload_n 1, 1) := by decide +kernel
theorem dX3_at_13 : decode cX3_at 13 = .ok (.aload_n 0, 1) := by decide +kernel
theorem dX3_at_14 : decode cX3_at 14 = .ok (.getfield 13, 3) := by decide +kernel
theorem dX3_at_17 : decode cX3_at 17 = .ok (.arraylength, 1) := by decide +kernel
theorem dX3_at_18 : decode cX3_at 18 = .ok (.if_icmp .ge 12, 3) := by decide +kernel
theorem dX3_at_21 : decode cX3_at 21 = .ok (.aload_n 0, 1) := by decide +kernel
theorem dX3_at_22 : decode cX3_at 22 = .ok (.getfield 13, 3) := by decide +kernel
theorem dX3_at_25 : decode cX3_at 25 = .ok (.iload_n 1, 1) := by decide +kernel
theorem dX3_at_26 : decode cX3_at 26 = .ok (.iaload, 1) := by decide +kernel
theorem dX3_at_27 : decode cX3_at 27 = .ok (.goto 4, 3) := by decide +kernel
theorem dX3_at_30 : decode cX3_at 30 = .ok (.iconst 0, 1) := by decide +kernel
theorem dX3_at_31 : decode cX3_at 31 = .ok (.ireturn, 1) := by decide +kernel
theorem dX3_put_0 : decode cX3_put 0 = .ok (.iload_n 1, 1) := by decide +kernel
theorem dX3_put_1 : decode cX3_put 1 = .ok (.ifCond .lt 27, 3) := by decide +kernel
theorem dX3_put_4 : decode cX3_put 4 = .ok (.iload_n 1, 1) := by decide +kernel
theorem dX3_put_5 : decode cX3_put 5 = .ok (.aload_n 0, 1) := by decide +kernel
theorem dX3_put_6 : decode cX3_put 6 = .ok (.getfield 19, 3) := by decide +kernel
theorem dX3_put_9 : decode cX3_put 9 = .ok (.if_icmp .ge 19, 3) := by decide +kernel
theorem dX3_put_12 : decode cX3_put 12 = .ok (.iload_n 1, 1) := by decide +kernel
theorem dX3_put_13 : decode cX3_put 13 = .ok (.aload_n 0, 1) := by decide +kernel
theorem dX3_put_14 : decode cX3_put 14 = .ok (.getfield 13, 3) := by decide +kernel
theorem dX3_put_17 : decode cX3_put 17 = .ok (.arraylength, 1) := by decide +kernel
theorem dX3_put_18 : decode cX3_put 18 = .ok (.if_icmp .ge 10, 3) := by decide +kernel
theorem dX3_put_21 : decode cX3_put 21 = .ok (.aload_n 0, 1) := by decide +kernel
theorem dX3_put_22 : decode cX3_put 22 = .ok (.getfield 13, 3) := by decide +kernel
theorem dX3_put_25 : decode cX3_put 25 = .ok (.iload_n 1, 1) := by decide +kernel
theorem dX3_put_26 : decode cX3_put 26 = .ok (.iload_n 2, 1) := by decide +kernel
theorem dX3_put_27 : decode cX3_put 27 = .ok (.iastore, 1) := by decide +kernel
theorem dX3_put_28 : decode cX3_put 28 = .ok (.return_, 1) := by decide +kernel
theorem dX3_add_0 : decode cX3_add 0 = .ok (.aload_n 0, 1) := by decide +kernel
theorem dX3_add_1 : decode cX3_add 1 = .ok (.getfield 19, 3) := by decide +kernel
theorem dX3_add_4 : decode cX3_add 4 = .ok (.ifCond .lt 35, 3) := by decide +kernel
theorem dX3_add_7 : decode cX3_add 7 = .ok (.aload_n 0, 1) := by decide +kernel
theorem dX3_add_8 : decode cX3_add 8 = .ok (.getfield 19, 3) := by decide +kernel
theorem dX3_add_11 : decode cX3_add 11 = .ok (.aload_n 0, 1) := by decide +kernel
theorem dX3_add_12 : decode cX3_add 12 = .ok (.getfield 13, 3) := by decide +kernel
theorem dX3_add_15 : decode cX3_add 15 = .ok (.arraylength, 1) := by decide +kernel
theorem dX3_add_16 : decode cX3_add 16 = .ok (.if_icmp .ge 23, 3) := by decide +kernel
theorem dX3_add_19 : decode cX3_add 19 = .ok (.aload_n 0, 1) := by decide +kernel
theorem dX3_add_20 : decode cX3_add 20 = .ok (.getfield 13, 3) := by decide +kernel
theorem dX3_add_23 : decode cX3_add 23 = .ok (.aload_n 0, 1) := by decide +kernel
theorem dX3_add_24 : decode cX3_add 24 = .ok (.getfield 19, 3) := by decide +kernel
theorem dX3_add_27 : decode cX3_add 27 = .ok (.iload_n 1, 1) := by decide +kernel
theorem dX3_add_28 : decode cX3_add 28 = .ok (.iastore, 1) := by decide +kernel
theorem dX3_add_29 : decode cX3_add 29 = .ok (.aload_n 0, 1) := by decide +kernel
theorem dX3_add_30 : decode cX3_add 30 = .ok (.dup, 1) := by decide +kernel
theorem dX3_add_31 : decode cX3_add 31 = .ok (.getfield 19, 3) := by decide +kernel
theorem dX3_add_34 : decode cX3_add 34 = .ok (.iconst 1, 1) := by decide +kernel
theorem dX3_add_35 : decode cX3_add 35 = .ok (.iadd, 1) := by decide +kernel
theorem dX3_add_36 : decode cX3_add 36 = .ok (.putfield 19, 3) := by decide +kernel
theorem dX3_add_39 : decode cX3_add 39 = .ok (.return_, 1) := by decide +kernel
theorem dX3_clear_0 : decode cX3_clear 0 = .ok (.aload_n 0, 1) := by decide +kernel
theorem dX3_clear_1 : decode cX3_clear 1 = .ok (.iconst 0, 1) := by decide +kernel
theorem dX3_clear_2 : decode cX3_clear 2 = .ok (.putfield 19, 3) := by decide +kernel
theorem dX3_clear_5 : decode cX3_clear 5 = .ok (.return_, 1) := by decide +kernel
theorem dX3_fill_0 : decode cX3_fill 0 = .ok (.aload_n 0, 1) := by decide +kernel
theorem dX3_fill_1 : decode cX3_fill 1 = .ok (.iconst 0, 1) := by decide +kernel
theorem dX3_fill_2 : decode cX3_fill 2 = .ok (.putfield 19, 3) := by decide +kernel
theorem dX3_fill_5 : decode cX3_fill 5 = .ok (.iconst 0, 1) := by decide +kernel
theorem dX3_fill_6 : decode cX3_fill 6 = .ok (.istore_n 3, 1) := by decide +kernel
theorem dX3_fill_7 : decode cX3_fill 7 = .ok (.iload_n 3, 1) := by decide +kernel
theorem dX3_fill_8 : decode cX3_fill 8 = .ok (.iload_n 1, 1) := by decide +kernel
theorem dX3_fill_9 : decode cX3_fill 9 = .ok (.if_icmp .ge 14, 3) := by decide +kernel
theorem dX3_fill_12 : decode cX3_fill 12 = .ok (.aload_n 0, 1) := by decide +kernel
theorem dX3_fill_13 : decode cX3_fill 13 = .ok (.iload_n 2, 1) := by decide +kernel
theorem dX3_fill_14 : decode cX3_fill 14 = .ok (.invokevirtual 23, 3) := by decide +kernel
theorem dX3_fill_17 : decode cX3_fill 17 = .ok (.iinc 3 1, 3) := by decide +kernel
theorem dX3_fill_20 : decode cX3_fill 20 = .ok (.goto (-13), 3) := by decide +kernel
theorem dX3_fill_23 : decode cX3_fill 23 = .ok (.return_, 1) := by decide +kernel
theorem dX3_dropFirst_0 : decode cX3_dropFirst 0 = .ok (.iconst 1, 1) := by decide +kernel
theorem dX3_dropFirst_1 : decode cX3_dropFirst 1 = .ok (.istore_n 1, 1) := by decide +kernel
theorem dX3_dropFirst_2 : decode cX3_dropFirst 2 = .ok (.iload_n 1, 1) := by decide +kernel
theorem dX3_dropFirst_3 : decode cX3_dropFirst 3 = .ok (.aload_n 0, 1) := by decide +kernel
theorem dX3_dropFirst_4 : decode cX3_dropFirst 4 = .ok (.getfield 19, 3) := by decide +kernel
theorem dX3_dropFirst_7 : decode cX3_dropFirst 7 = .ok (.if_icmp .ge 21, 3) := by decide +kernel
theorem dX3_dropFirst_10 : decode cX3_dropFirst 10 = .ok (.aload_n 0, 1) := by decide +kernel
theorem dX3_dropFirst_11 : decode cX3_dropFirst 11 = .ok (.iload_n 1, 1) := by decide +kernel
theorem dX3_dropFirst_12 : decode cX3_dropFirst 12 = .ok (.iconst 1, 1) := by decide +kernel
theorem dX3_dropFirst_13 : decode cX3_dropFirst 13 = .ok (.isub, 1) := by decide +kernel
theorem dX3_dropFirst_14 : decode cX3_dropFirst 14 = .ok (.aload_n 0, 1) := by decide +kernel
theorem dX3_dropFirst_15 : decode cX3_dropFirst 15 = .ok (.iload_n 1, 1) := by decide +kernel
theorem dX3_dropFirst_16 : decode cX3_dropFirst 16 = .ok (.invokevirtual 27, 3) := by decide +kernel
theorem dX3_dropFirst_19 : decode cX3_dropFirst 19 = .ok (.invokevirtual 31, 3) := by decide +kernel
theorem dX3_dropFirst_22 : decode cX3_dropFirst 22 = .ok (.iinc 1 1, 3) := by decide +kernel
theorem dX3_dropFirst_25 : decode cX3_dropFirst 25 = .ok (.goto (-23), 3) := by decide +kernel
theorem dX3_dropFirst_28 : decode cX3_dropFirst 28 = .ok (.aload_n 0, 1) := by decide +kernel
theorem dX3_dropFirst_29 : decode cX3_dropFirst 29 = .ok (.iconst 0, 1) := by decide +kernel
theorem dX3_dropFirst_30 : decode cX3_dropFirst 30 = .ok (.aload_n 0, 1) := by decide +kernel
theorem dX3_dropFirst_31 : decode cX3_dropFirst 31 = .ok (.getfield 19, 3) := by decide +kernel
theorem dX3_dropFirst_34 : decode cX3_dropFirst 34 = .ok (.iconst 1, 1) := by decide +kernel
theorem dX3_dropFirst_35 : decode cX3_dropFirst 35 = .ok (.isub, 1) := by decide +kernel
theorem dX3_dropFirst_36 : decode cX3_dropFirst 36 = .ok (.invokestatic 7, 3) := by decide +kernel
theorem dX3_dropFirst_39 : decode cX3_dropFirst 39 = .ok (.putfield 19, 3) := by decide +kernel
theorem dX3_dropFirst_42 : decode cX3_dropFirst 42 = .ok (.return_, 1) := by decide +kernel
theorem dX3_copyFrom_0 : decode cX3_copyFrom 0 = .ok (.aload_n 0, 1) := by decide +kernel
theorem dX3_copyFrom_1 : decode cX3_copyFrom 1 = .ok (.iconst 0, 1) := by decide +kernel
theorem dX3_copyFrom_2 : decode cX3_copyFrom 2 = .ok (.aload_n 1, 1) := by decide +kernel
theorem dX3_copyFrom_3 : decode cX3_copyFrom 3 = .ok (.getfield 19, 3) := by decide +kernel
theorem dX3_copyFrom_6 : decode cX3_copyFrom 6 = .ok (.aload_n 0, 1) := by decide +kernel
theorem dX3_copyFrom_7 : decode cX3_copyFrom 7 = .ok (.getfield 13, 3) := by decide +kernel
theorem dX3_copyFrom_10 : decode cX3_copyFrom 10 = .ok (.arraylength, 1) := by decide +kernel
theorem dX3_copyFrom_11 : decode cX3_copyFrom 11 = .ok (.aload_n 1, 1) := by decide +kernel
theorem dX3_copyFrom_12 : decode cX3_copyFrom 12 = .ok (.getfield 13, 3) := by decide +kernel
theorem dX3_copyFrom_15 : decode cX3_copyFrom 15 = .ok (.arraylength, 1) := by decide +kernel
theorem dX3_copyFrom_16 : decode cX3_copyFrom 16 = .ok (.invokestatic 35, 3) := by decide +kernel
theorem dX3_copyFrom_19 : decode cX3_copyFrom 19 = .ok (.invokestatic 35, 3) := by decide +kernel
theorem dX3_copyFrom_22 : decode cX3_copyFrom 22 = .ok (.invokestatic 7, 3) := by decide +kernel
theorem dX3_copyFrom_25 : decode cX3_copyFrom 25 = .ok (.putfield 19, 3) := by decide +kernel
theorem dX3_copyFrom_28 : decode cX3_copyFrom 28 = .ok (.aload_n 1, 1) := by decide +kernel
theorem dX3_copyFrom_29 : decode cX3_copyFrom 29 = .ok (.getfield 13, 3) := by decide +kernel
theorem dX3_copyFrom_32 : decode cX3_copyFrom 32 = .ok (.iconst 0, 1) := by decide +kernel
theorem dX3_copyFrom_33 : decode cX3_copyFrom 33 = .ok (.aload_n 0, 1) := by decide +kernel
theorem dX3_copyFrom_34 : decode cX3_copyFrom 34 = .ok (.getfield 13, 3) := by decide +kernel
theorem dX3_copyFrom_37 : decode cX3_copyFrom 37 = .ok (.iconst 0, 1) := by decide +kernel
theorem dX3_copyFrom_38 : decode cX3_copyFrom 38 = .ok (.aload_n 0, 1) := by decide +kernel
theorem dX3_copyFrom_39 : decode cX3_copyFrom 39 = .ok (.getfield 19, 3) := by decide +kernel
theorem dX3_copyFrom_42 : decode cX3_copyFrom 42 = .ok (.invokestatic 38, 3) := by decide +kernel
theorem dX3_copyFrom_45 : decode cX3_copyFrom 45 = .ok (.return_, 1) := by decide +kernel
theorem dX4_init_0 : decode cX4_init 0 = .ok (.aload_n 0, 1) := by decide +kernel
theorem dX4_init_1 : decode cX4_init 1 = .ok (.invokespecial 3, 3) := by decide +kernel
theorem dX4_init_4 : decode cX4_init 4 = .ok (.aload_n 0, 1) := by decide +kernel
theorem dX4_init_5 : decode cX4_init 5 = .ok (.new 9, 3) := by decide +kernel
theorem dX4_init_8 : decode cX4_init 8 = .ok (.dup, 1) := by decide +kernel
theorem dX4_init_9 : decode cX4_init 9 = .ok (.bipush 6, 2) := by decide +kernel
theorem dX4_init_11 : decode cX4_init 11 = .ok (.invokespecial 11, 3) := by decide +kernel
theorem dX4_init_14 : decode cX4_init 14 = .ok (.putfield 14, 3) := by decide +kernel
theorem dX4_init_17 : decode cX4_init 17 = .ok (.aload_n 0, 1) := by decide +kernel
theorem dX4_init_18 : decode cX4_init 18 = .ok (.new 9, 3) := by decide +kernel
theorem dX4_init_21 : decode cX4_init 21 = .ok (.dup, 1) := by decide +kernel
theorem dX4_init_22 : decode cX4_init 22 = .ok (.bipush 7, 2) := by decide +kernel
theorem dX4_init_24 : decode cX4_init 24 = .ok (.invokespecial 11, 3) := by decide +kernel
theorem dX4_init_27 : decode cX4_init 27 = .ok (.putfield 20, 3) := by decide +kernel
theorem dX4_init_30 : decode cX4_init 30 = .ok (.aload_n 0, 1) := by decide +kernel
theorem dX4_init_31 : decode cX4_init 31 = .ok (.new 9, 3) := by decide +kernel
theorem dX4_init_34 : decode cX4_init 34 = .ok (.dup, 1) := by decide +kernel
theorem dX4_init_35 : decode cX4_init 35 = .ok (.bipush 7, 2) := by decide +kernel
theorem dX4_init_37 : decode cX4_init 37 = .ok (.invokespecial 11, 3) := by decide +kernel
theorem dX4_init_40 : decode cX4_init 40 = .ok (.putfield 23, 3) := by decide +kernel
theorem dX4_init_43 : decode cX4_init 43 = .ok (.aload_n 0, 1) := by decide +kernel
theorem dX4_init_44 : decode cX4_init 44 = .ok (.aload_n 1, 1) := by decide +kernel
theorem dX4_init_45 : decode cX4_init 45 = .ok (.putfield 26, 3) := by decide +kernel
theorem dX4_init_48 : decode cX4_init 48 = .ok (.return_, 1) := by decide +kernel
theorem dX4_seek_0 : decode cX4_seek 0 = .ok (.aload_n 0, 1) := by decide +kernel
theorem dX4_seek_1 : decode cX4_seek 1 = .ok (.getfield 14, 3) := by decide +kernel
theorem dX4_seek_4 : decode cX4_seek 4 = .ok (.bipush 6, 2) := by decide +kernel
theorem dX4_seek_6 : decode cX4_seek 6 = .ok (.iconst 0, 1) := by decide +kernel
theorem dX4_seek_7 : decode cX4_seek 7 = .ok (.invokevirtual 30, 3) := by decide +kernel
theorem dX4_seek_10 : decode cX4_seek 10 = .ok (.iconst 0, 1) := by decide +kernel
theorem dX4_seek_11 : decode cX4_seek 11 = .ok (.istore_n 2, 1) := by decide +kernel
theorem dX4_seek_12 : decode cX4_seek 12 = .ok (.iload_n 2, 1) := by decide +kernel
theorem dX4_seek_13 : decode cX4_seek 13 = .ok (.aload_n 0, 1) := by decide +kernel
theorem dX4_seek_14 : decode cX4_seek 14 = .ok (.getfield 26, 3) := by decide +kernel
theorem dX4_seek_17 : decode cX4_seek 17 = .ok (.getfield 34, 3) := by decide +kernel
theorem dX4_seek_20 : decode cX4_seek 20 = .ok (.invokevirtual 39, 3) := by decide +kernel
theorem dX4_seek_23 : decode cX4_seek 23 = .ok (.if_icmp .ge 25, 3) := by decide +kernel
theorem dX4_seek_26 : decode cX4_seek 26 = .ok (.aload_n 0, 1) := by decide +kernel
theorem dX4_seek_27 : decode cX4_seek 27 = .ok (.aload_n 0, 1) := by decide +kernel
theorem dX4_seek_28 : decode cX4_seek 28 = .ok (.getfield 26, 3) := by decide +kernel
theorem dX4_seek_31 : decode cX4_seek 31 = .ok (.getfield 34, 3) := by decide +kernel
theorem dX4_seek_34 : decode cX4_seek 34 = .ok (.iload_n 2, 1) := by decide +kernel
theorem dX4_seek_35 : decode cX4_seek 35 = .ok (.invokevirtual 43, 3) := by decide +kernel
theorem dX4_seek_38 : decode cX4_seek 38 = .ok (.iconst 1, 1) := by decide +kernel
theorem dX4_seek_39 : decode cX4_seek 39 = .ok (.invokevirtual 47, 3) := by decide +kernel
theorem dX4_seek_42 : decode cX4_seek 42 = .ok (.iinc 2 1, 3) := by decide +kernel
theorem dX4_seek_45 : decode cX4_seek 45 = .ok (.goto (-33), 3) := by decide +kernel
theorem dX4_seek_48 : decode cX4_seek 48 = .ok (.aload_n 0, 1) := by decide +kernel
theorem dX4_seek_49 : decode cX4_seek 49 = .ok (.getfield 20, 3) := by decide +kernel
theorem dX4_seek_52 : decode cX4_seek 52 = .ok (.aload_n 0, 1) := by decide +kernel
theorem dX4_seek_53 : decode cX4_seek 53 = .ok (.getfield 26, 3) := by decide +kernel
theorem dX4_seek_56 : decode cX4_seek 56 = .ok (.getfield 34, 3) := by decide +kernel
theorem dX4_seek_59 : decode cX4_seek 59 = .ok (.invokevirtual 39, 3) := by decide +kernel
theorem dX4_seek_62 : decode cX4_seek 62 = .ok (.iconst 0, 1) := by decide +kernel
theorem dX4_seek_63 : decode cX4_seek 63 = .ok (.invokevirtual 30, 3) := by decide +kernel
theorem dX4_seek_66 : decode cX4_seek 66 = .ok (.aload_n 0, 1) := by decide +kernel
theorem dX4_seek_67 : decode cX4_seek 67 = .ok (.ldc 50, 2) := by decide +kernel
theorem dX4_seek_69 : decode cX4_seek 69 = .ok (.putfield 51, 3) := by decide +kernel
theorem dX4_seek_72 : decode cX4_seek 72 = .ok (.aload_n 0, 1) := by decide +kernel
theorem dX4_seek_73 : decode cX4_seek 73 = .ok (.aload_n 1, 1) := by decide +kernel
theorem dX4_seek_74 : decode cX4_seek 74 = .ok (.iconst 0, 1) := by decide +kernel
theorem dX4_seek_75 : decode cX4_seek 75 = .ok (.iconst 0, 1) := by decide +kernel
theorem dX4_seek_76 : decode cX4_seek 76 = .ok (.invokestatic 55, 3) := by decide +kernel
theorem dX4_seek_79 : decode cX4_seek 79 = .ok (.return_, 1) := by decide +kernel
theorem dX4_addLeft_0 : decode cX4_addLeft 0 = .ok (.aload_n 0, 1) := by decide +kernel
theorem dX4_addLeft_1 : decode cX4_addLeft 1 = .ok (.getfield 14, 3) := by decide +kernel
theorem dX4_addLeft_4 : decode cX4_addLeft 4 = .ok (.iload_n 1, 1) := by decide +kernel
theorem dX4_addLeft_5 : decode cX4_addLeft 5 = .ok (.aload_n 0, 1) := by decide +kernel
theorem dX4_addLeft_6 : decode cX4_addLeft 6 = .ok (.getfield 14, 3) := by decide +kernel
theorem dX4_addLeft_9 : decode cX4_addLeft 9 = .ok (.iload_n 1, 1) := by decide +kernel
theorem dX4_addLeft_10 : decode cX4_addLeft 10 = .ok (.invokevirtual 43, 3) := by decide +kernel
theorem dX4_addLeft_13 : decode cX4_addLeft 13 = .ok (.iload_n 2, 1) := by decide +kernel
theorem dX4_addLeft_14 : decode cX4_addLeft 14 = .ok (.iadd, 1) := by decide +kernel
theorem dX4_addLeft_15 : decode cX4_addLeft 15 = .ok (.invokevirtual 59, 3) := by decide +kernel
theorem dX4_addLeft_18 : decode cX4_addLeft 18 = .ok (.return_, 1) := by decide +kernel
theorem dX4_tryFrom_0 : decode cX4_tryFrom 0 = .ok (.iload_n 3, 1) := by decide +kernel
theorem dX4_tryFrom_1 : decode cX4_tryFrom 1 = .ok (.aload_n 0, 1) := by decide +kernel
theorem dX4_tryFrom_2 : decode cX4_tryFrom 2 = .ok (.getfield 51, 3) := by decide +kernel
theorem dX4_tryFrom_5 : decode cX4_tryFrom 5 = .ok (.if_icmp .lt 4, 3) := by decide +kernel
theorem dX4_tryFrom_8 : decode cX4_tryFrom 8 = .ok (.return_, 1) := by decide +kernel
theorem dX4_tryFrom_9 : decode cX4_tryFrom 9 = .ok (.iload_n 2, 1) := by decide +kernel
theorem dX4_tryFrom_10 : decode cX4_tryFrom 10 = .ok (.aload_n 0, 1) := by decide +kernel
theorem dX4_tryFrom_11 : decode cX4_tryFrom 11 = .ok (.getfield 20, 3) := by decide +kernel
theorem dX4_tryFrom_14 : decode cX4_tryFrom 14 = .ok (.invokevirtual 39, 3) := by decide +kernel
theorem dX4_tryFrom_17 : decode cX4_tryFrom 17 = .ok (.if_icmp .lt 20, 3) := by decide +kernel
theorem dX4_tryFrom_20 : decode cX4_tryFrom 20 = .ok (.aload_n 0, 1) := by decide +kernel
theorem dX4_tryFrom_21 : decode cX4_tryFrom 21 = .ok (.iload_n 3, 1) := by decide +kernel
theorem dX4_tryFrom_22 : decode cX4_tryFrom 22 = .ok (.putfield 51, 3) := by decide +kernel
theorem dX4_tryFrom_25 : decode cX4_tryFrom 25 = .ok (.aload_n 0, 1) := by decide +kernel
theorem dX4_tryFrom_26 : decode cX4_tryFrom 26 = .ok (.getfield 23, 3) := by decide +kernel
theorem dX4_tryFrom_29 : decode cX4_tryFrom 29 = .ok (.aload_n 0, 1) := by decide +kernel
theorem dX4_tryFrom_30 : decode cX4_tryFrom 30 = .ok (.getfield 20, 3) := by decide +kernel
theorem dX4_tryFrom_33 : decode cX4_tryFrom 33 = .ok (.invokevirtual 62, 3) := by decide +kernel
theorem dX4_tryFrom_36 : decode cX4_tryFrom 36 = .ok (.return_, 1) := by decide +kernel
theorem dX4_tryFrom_37 : decode cX4_tryFrom 37 = .ok (.iconst 0, 1) := by decide +kernel
theorem dX4_tryFrom_38 : decode cX4_tryFrom 38 = .ok (.istore 4, 2) := by decide +kernel
theorem dX4_tryFrom_40 : decode cX4_tryFrom 40 = .ok (.iload 4, 2) := by decide +kernel
theorem dX4_tryFrom_42 : decode cX4_tryFrom 42 = .ok (.aload_n 0, 1) := by decide +kernel
theorem dX4_tryFrom_43 : decode cX4_tryFrom 43 = .ok (.getfield 26, 3) := by decide +kernel
theorem dX4_tryFrom_46 : decode cX4_tryFrom 46 = .ok (.invokevirtual 66, 3) := by decide +kernel
theorem dX4_tryFrom_49 : decode cX4_tryFrom 49 = .ok (.if_icmp .ge 87, 3) := by decide +kernel
theorem dX4_tryFrom_52 : decode cX4_tryFrom 52 = .ok (.aload_n 0, 1) := by decide +kernel
theorem dX4_tryFrom_53 : decode cX4_tryFrom 53 = .ok (.getfield 14, 3) := by decide +kernel
theorem dX4_tryFrom_56 : decode cX4_tryFrom 56 = .ok (.iload 4, 2) := by decide +kernel
theorem dX4_tryFrom_58 : decode cX4_tryFrom 58 = .ok (.invokevirtual 43, 3) := by decide +kernel
theorem dX4_tryFrom_61 : decode cX4_tryFrom 61 = .ok (.ifCond .le 10, 3) := by decide +kernel
theorem dX4_tryFrom_64 : decode cX4_tryFrom 64 = .ok (.aload_n 1, 1) := by decide +kernel
theorem dX4_tryFrom_65 : decode cX4_tryFrom 65 = .ok (.invokevirtual 69, 3) := by decide +kernel
theorem dX4_tryFrom_68 : decode cX4_tryFrom 68 = .ok (.goto 4, 3) := by decide +kernel
theorem dX4_tryFrom_71 : decode cX4_tryFrom 71 = .ok (.aconst_null, 1) := by decide +kernel
theorem dX4_tryFrom_72 : decode cX4_tryFrom 72 = .ok (.astore 5, 2) := by decide +kernel
theorem dX4_tryFrom_74 : decode cX4_tryFrom 74 = .ok (.aload 5, 2) := by decide +kernel
theorem dX4_tryFrom_76 : decode cX4_tryFrom 76 = .ok (.ifnull 54, 3) := by decide +kernel
theorem dX4_tryFrom_79 : decode cX4_tryFrom 79 = .ok (.aload_n 0, 1) := by decide +kernel
theorem dX4_tryFrom_80 : decode cX4_tryFrom 80 = .ok (.iload 4, 2) := by decide +kernel
theorem dX4_tryFrom_82 : decode cX4_tryFrom 82 = .ok (.iconst (-1), 1) := by decide +kernel
theorem dX4_tryFrom_83 : decode cX4_tryFrom 83 = .ok (.invokevirtual 47, 3) := by decide +kernel
theorem dX4_tryFrom_86 : decode cX4_tryFrom 86 = .ok (.aload_n 0, 1) := by decide +kernel
theorem dX4_tryFrom_87 : decode cX4_tryFrom 87 = .ok (.getfield 20, 3) := by decide +kernel
theorem dX4_tryFrom_90 : decode cX4_tryFrom 90 = .ok (.iload_n 2, 1) := by decide +kernel
theorem dX4_tryFrom_91 : decode cX4_tryFrom 91 = .ok (.iload 4, 2) := by decide +kernel
theorem dX4_tryFrom_93 : decode cX4_tryFrom 93 = .ok (.invokevirtual 59, 3) := by decide +kernel
theorem dX4_tryFrom_96 : decode cX4_tryFrom 96 = .ok (.aload_n 0, 1) := by decide +kernel
theorem dX4_tryFrom_97 : decode cX4_tryFrom 97 = .ok (.aload 5, 2) := by decide +kernel
theorem dX4_tryFrom_99 : decode cX4_tryFrom 99 = .ok (.iload_n 2, 1) := by decide +kernel
theorem dX4_tryFrom_100 : decode cX4_tryFrom 100 = .ok (.iconst 1, 1) := by decide +kernel
theorem dX4_tryFrom_101 : decode cX4_tryFrom 101 = .ok (.iadd, 1) := by decide +kernel
theorem dX4_tryFrom_102 : decode cX4_tryFrom 102 = .ok (.iload_n 3, 1) := by decide +kernel
theorem dX4_tryFrom_103 : decode cX4_tryFrom 103 = .ok (.aload_n 0, 1) := by decide +kernel
theorem dX4_tryFrom_104 : decode cX4_tryFrom 104 = .ok (.getfield 26, 3) := by decide +kernel
theorem dX4_tryFrom_107 : decode cX4_tryFrom 107 = .ok (.iload 4, 2) := by decide +kernel
theorem dX4_tryFrom_109 : decode cX4_tryFrom 109 = .ok (.aload 5, 2) := by decide +kernel
theorem dX4_tryFrom_111 : decode cX4_tryFrom 111 = .ok (.iload 4, 2) := by decide +kernel
theorem dX4_tryFrom_113 : decode cX4_tryFrom 113 = .ok (.invokevirtual 75, 3) := by decide +kernel
theorem dX4_tryFrom_116 : decode cX4_tryFrom 116 = .ok (.invokevirtual 78, 3) := by decide +kernel
theorem dX4_tryFrom_119 : decode cX4_tryFrom 119 = .ok (.iadd, 1) := by decide +kernel
theorem dX4_tryFrom_120 : decode cX4_tryFrom 120 = .ok (.invokestatic 55, 3) := by decide +kernel
theorem dX4_tryFrom_123 : decode cX4_tryFrom 123 = .ok (.aload_n 0, 1) := by decide +kernel
theorem dX4_tryFrom_124 : decode cX4_tryFrom 124 = .ok (.iload 4, 2) := by decide +kernel
theorem dX4_tryFrom_126 : decode cX4_tryFrom 126 = .ok (.iconst 1, 1) := by decide +kernel
theorem dX4_tryFrom_127 : decode cX4_tryFrom 127 = .ok (.invokevirtual 47, 3) := by decide +kernel
theorem dX4_tryFrom_130 : decode cX4_tryFrom 130 = .ok (.iinc 4 1, 3) := by decide +kernel
theorem dX4_tryFrom_133 : decode cX4_tryFrom 133 = .ok (.goto (-93), 3) := by decide +kernel
theorem dX4_tryFrom_136 : decode cX4_tryFrom 136 = .ok (.return_, 1) := by decide +kernel
theorem dX5_init_0 : decode cX5_init 0 = .ok (.aload_n 0, 1) := by decide +kernel
theorem dX5_init_1 : decode cX5_init 1 = .ok (.invokespecial 3, 3) := by decide +kernel
theorem dX5_init_4 : decode cX5_init 4 = .ok (.aload_n 0, 1) := by decide +kernel
theorem dX5_init_5 : decode cX5_init 5 = .ok (.new 9, 3) := by decide +kernel
theorem dX5_init_8 : decode cX5_init 8 = .ok (.dup, 1) := by decide +kernel
theorem dX5_init_9 : decode cX5_init 9 = .ok (.iconst 5, 1) := by decide +kernel
theorem dX5_init_10 : decode cX5_init 10 = .ok (.invokespecial 11, 3) := by decide +kernel
theorem dX5_init_13 : decode cX5_init 13 = .ok (.putfield 14, 3) := by decide +kernel
theorem dX5_init_16 : decode cX5_init 16 = .ok (.aload_n 0, 1) := by decide +kernel
theorem dX5_init_17 : decode cX5_init 17 = .ok (.aload_n 1, 1) := by decide +kernel
theorem dX5_init_18 : decode cX5_init 18 = .ok (.putfield 20, 3) := by decide +kernel
theorem dX5_init_21 : decode cX5_init 21 = .ok (.aload_n 0, 1) := by decide +kernel
theorem dX5_init_22 : decode cX5_init 22 = .ok (.aload_n 2, 1) := by decide +kernel
theorem dX5_init_23 : decode cX5_init 23 = .ok (.putfield 23, 3) := by decide +kernel
theorem dX5_init_26 : decode cX5_init 26 = .ok (.return_, 1) := by decide +kernel
theorem dX5_readAll_0 : decode cX5_readAll 0 = .ok (.aload_n 0, 1) := by decide +kernel
theorem dX5_readAll_1 : decode cX5_readAll 1 = .ok (.getfield 23, 3) := by decide +kernel
theorem dX5_readAll_4 : decode cX5_readAll 4 = .ok (.invokevirtual 27, 3) := by decide +kernel
theorem dX5_readAll_7 : decode cX5_readAll 7 = .ok (.iconst 0, 1) := by decide +kernel
theorem dX5_readAll_8 : decode cX5_readAll 8 = .ok (.istore_n 1, 1) := by decide +kernel
theorem dX5_readAll_9 : decode cX5_readAll 9 = .ok (.iconst 0, 1) := by decide +kernel
theorem dX5_readAll_10 : decode cX5_readAll 10 = .ok (.istore_n 2, 1) := by decide +kernel
theorem dX5_readAll_11 : decode cX5_readAll 11 = .ok (.iload_n 2, 1) := by decide +kernel
theorem dX5_readAll_12 : decode cX5_readAll 12 = .ok (.sipush 200, 3) := by decide +kernel
theorem dX5_readAll_15 : decode cX5_readAll 15 = .ok (.if_icmp .ge 36, 3) := by decide +kernel
theorem dX5_readAll_18 : decode cX5_readAll 18 = .ok (.iload_n 1, 1) := by decide +kernel
theorem dX5_readAll_19 : decode cX5_readAll 19 = .ok (.aload_n 0, 1) := by decide +kernel
theorem dX5_readAll_20 : decode cX5_readAll 20 = .ok (.getfield 20, 3) := by decide +kernel
theorem dX5_readAll_23 : decode cX5_readAll 23 = .ok (.invokevirtual 32, 3) := by decide +kernel
theorem dX5_readAll_26 : decode cX5_readAll 26 = .ok (.if_icmp .ge 25, 3) := by decide +kernel
theorem dX5_readAll_29 : decode cX5_readAll 29 = .ok (.aload_n 0, 1) := by decide +kernel
theorem dX5_readAll_30 : decode cX5_readAll 30 = .ok (.iload_n 1, 1) := by decide +kernel
theorem dX5_readAll_31 : decode cX5_readAll 31 = .ok (.invokevirtual 36, 3) := by decide +kernel
theorem dX5_readAll_34 : decode cX5_readAll 34 = .ok (.istore_n 3, 1) := by decide +kernel
theorem dX5_readAll_35 : decode cX5_readAll 35 = .ok (.iload_n 3, 1) := by decide +kernel
theorem dX5_readAll_36 : decode cX5_readAll 36 = .ok (.bipush (-4), 2) := by decide +kernel
theorem dX5_readAll_38 : decode cX5_readAll 38 = .ok (.if_icmp .ne 5, 3) := by decide +kernel
theorem dX5_readAll_41 : decode cX5_readAll 41 = .ok (.iload_n 1, 1) := by decide +kernel
theorem dX5_readAll_42 : decode cX5_readAll 42 = .ok (.ireturn, 1) := by decide +kernel
theorem dX5_readAll_43 : decode cX5_readAll 43 = .ok (.iload_n 3, 1) := by decide +kernel
theorem dX5_readAll_44 : decode cX5_readAll 44 = .ok (.istore_n 1, 1) := by decide +kernel
theorem dX5_readAll_45 : decode cX5_readAll 45 = .ok (.iinc 2 1, 3) := by decide +kernel
theorem dX5_readAll_48 : decode cX5_readAll 48 = .ok (.goto (-37), 3) := by decide +kernel
theorem dX5_readAll_51 : decode cX5_readAll 51 = .ok (.bipush (-4), 2) := by decide +kernel
theorem dX5_readAll_53 : decode cX5_readAll 53 = .ok (.ireturn, 1) := by decide +kernel
theorem dX5_readItem_0 : decode cX5_readItem 0 = .ok (.aload_n 0, 1) := by decide +kernel
theorem dX5_readItem_1 : decode cX5_readItem 1 = .ok (.getfield 20, 3) := by decide +kernel
theorem dX5_readItem_4 : decode cX5_readItem 4 = .ok (.iload_n 1, 1) := by decide +kernel
theorem dX5_readItem_5 : decode cX5_readItem 5 = .ok (.invokevirtual 40, 3) := by decide +kernel
theorem dX5_readItem_8 : decode cX5_readItem 8 = .ok (.istore_n 2, 1) := by decide +kernel
theorem dX5_readItem_9 : decode cX5_readItem 9 = .ok (.iload_n 2, 1) := by decide +kernel
theorem dX5_readItem_10 : decode cX5_readItem 10 = .ok (.invokestatic 43, 3) := by decide +kernel
theorem dX5_readItem_13 : decode cX5_readItem 13 = .ok (.istore_n 3, 1) := by decide +kernel
theorem dX5_readItem_14 : decode cX5_readItem 14 = .ok (.iload_n 1, 1) := by decide +kernel
theorem dX5_readItem_15 : decode cX5_readItem 15 = .ok (.iconst 1, 1) := by decide +kernel
theorem dX5_readItem_16 : decode cX5_readItem 16 = .ok (.iadd, 1) := by decide +kernel
theorem dX5_readItem_17 : decode cX5_readItem 17 = .ok (.istore 4, 2) := by decide +kernel
theorem dX5_readItem_19 : decode cX5_readItem 19 = .ok (.aload_n 0, 1) := by decide +kernel
theorem dX5_readItem_20 : decode cX5_readItem 20 = .ok (.getfield 14, 3) := by decide +kernel
theorem dX5_readItem_23 : decode cX5_readItem 23 = .ok (.invokevirtual 46, 3) := by decide +kernel
theorem dX5_readItem_26 : decode cX5_readItem 26 = .ok (.iconst 0, 1) := by decide +kernel
theorem dX5_readItem_27 : decode cX5_readItem 27 = .ok (.istore 5, 2) := by decide +kernel
theorem dX5_readItem_29 : decode cX5_readItem 29 = .ok (.iload 5, 2) := by decide +kernel
theorem dX5_readItem_31 : decode cX5_readItem 31 = .ok (.iload_n 3, 1) := by decide +kernel
theorem dX5_readItem_32 : decode cX5_readItem 32 = .ok (.if_icmp .ge 57, 3) := by decide +kernel
theorem dX5_readItem_35 : decode cX5_readItem 35 = .ok (.aload_n 0, 1) := by decide +kernel
theorem dX5_readItem_36 : decode cX5_readItem 36 = .ok (.iload 4, 2) := by decide +kernel
theorem dX5_readItem_38 : decode cX5_readItem 38 = .ok (.invokevirtual 47, 3) := by decide +kernel
theorem dX5_readItem_41 : decode cX5_readItem 41 = .ok (.istore 4, 2) := by decide +kernel
theorem dX5_readItem_43 : decode cX5_readItem 43 = .ok (.iload 4, 2) := by decide +kernel
theorem dX5_readItem_45 : decode cX5_readItem 45 = .ok (.bipush (-4), 2) := by decide +kernel
theorem dX5_readItem_47 : decode cX5_readItem 47 = .ok (.if_icmp .eq 30, 3) := by decide +kernel
theorem dX5_readItem_50 : decode cX5_readItem 50 = .ok (.aload_n 0, 1) := by decide +kernel
theorem dX5_readItem_51 : decode cX5_readItem 51 = .ok (.getfield 20, 3) := by decide +kernel
theorem dX5_readItem_54 : decode cX5_readItem 54 = .ok (.iload 4, 2) := by decide +kernel
theorem dX5_readItem_56 : decode cX5_readItem 56 = .ok (.invokevirtual 40, 3) := by decide +kernel
theorem dX5_readItem_59 : decode cX5_readItem 59 = .ok (.iload 5, 2) := by decide +kernel
theorem dX5_readItem_61 : decode cX5_readItem 61 = .ok (.iload_n 3, 1) := by decide +kernel
theorem dX5_readItem_62 : decode cX5_readItem 62 = .ok (.iconst 1, 1) := by decide +kernel
theorem dX5_readItem_63 : decode cX5_readItem 63 = .ok (.isub, 1) := by decide +kernel
theorem dX5_readItem_64 : decode cX5_readItem 64 = .ok (.if_icmp .ne 8, 3) := by decide +kernel
theorem dX5_readItem_67 : decode cX5_readItem 67 = .ok (.bipush 59, 2) := by decide +kernel
theorem dX5_readItem_69 : decode cX5_readItem 69 = .ok (.goto 5, 3) := by decide +kernel
theorem dX5_readItem_72 : decode cX5_readItem 72 = .ok (.bipush 44, 2) := by decide +kernel
theorem dX5_readItem_74 : decode cX5_readItem 74 = .ok (.if_icmp .eq 6, 3) := by decide +kernel
theorem dX5_readItem_77 : decode cX5_readItem 77 = .ok (.bipush (-4), 2) := by decide +kernel
theorem dX5_readItem_79 : decode cX5_readItem 79 = .ok (.ireturn, 1) := by decide +kernel
theorem dX5_readItem_80 : decode cX5_readItem 80 = .ok (.iinc 4 1, 3) := by decide +kernel
theorem dX5_readItem_83 : decode cX5_readItem 83 = .ok (.iinc 5 1, 3) := by decide +kernel
theorem dX5_readItem_86 : decode cX5_readItem 86 = .ok (.goto (-57), 3) := by decide +kernel
theorem dX5_readItem_89 : decode cX5_readItem 89 = .ok (.aload_n 0, 1) := by decide +kernel
theorem dX5_readItem_90 : decode cX5_readItem 90 = .ok (.iload_n 2, 1) := by decide +kernel
theorem dX5_readItem_91 : decode cX5_readItem 91 = .ok (.invokevirtual 50, 3) := by decide +kernel
theorem dX5_readItem_94 : decode cX5_readItem 94 = .ok (.ifCond .eq 8, 3) := by decide +kernel
theorem dX5_readItem_97 : decode cX5_readItem 97 = .ok (.iload 4, 2) := by decide +kernel
theorem dX5_readItem_99 : decode cX5_readItem 99 = .ok (.goto 5, 3) := by decide +kernel
theorem dX5_readItem_102 : decode cX5_readItem 102 = .ok (.bipush (-4), 2) := by decide +kernel
theorem dX5_readItem_104 : decode cX5_readItem 104 = .ok (.ireturn, 1) := by decide +kernel
theorem dX5_numbersBehind_0 : decode cX5_numbersBehind 0 = .ok (.iload_n 0, 1) := by decide +kernel
theorem dX5_numbersBehind_1 : decode cX5_numbersBehind 1 = .ok (.tableswitch 51 101 108 #[49, 49, 51, 51, 51, 51, 47, 49], 47) := by decide +kernel
theorem dX5_numbersBehind_48 : decode cX5_numbersBehind 48 = .ok (.iconst 5, 1) := by decide +kernel
theorem dX5_numbersBehind_49 : decode cX5_numbersBehind 49 = .ok (.ireturn, 1) := by decide +kernel
theorem dX5_numbersBehind_50 : decode cX5_numbersBehind 50 = .ok (.iconst 1, 1) := by decide +kernel
theorem dX5_numbersBehind_51 : decode cX5_numbersBehind 51 = .ok (.ireturn, 1) := by decide +kernel
theorem dX5_numbersBehind_52 : decode cX5_numbersBehind 52 = .ok (.iconst 0, 1) := by decide +kernel
theorem dX5_numbersBehind_53 : decode cX5_numbersBehind 53 = .ok (.ireturn, 1) := by decide +kernel
theorem dX5_readNumber_0 : decode cX5_readNumber 0 = .ok (.aload_n 0, 1) := by decide +kernel
theorem dX5_readNumber_1 : decode cX5_readNumber 1 = .ok (.getfield 20, 3) := by decide +kernel
theorem dX5_readNumber_4 : decode cX5_readNumber 4 = .ok (.iload_n 1, 1) := by decide +kernel
theorem dX5_readNumber_5 : decode cX5_readNumber 5 = .ok (.invokevirtual 40, 3) := by decide +kernel
theorem dX5_readNumber_8 : decode cX5_readNumber 8 = .ok (.invokestatic 54, 3) := by decide +kernel
theorem dX5_readNumber_11 : decode cX5_readNumber 11 = .ok (.ifCond .ne 6, 3) := by decide +kernel
theorem dX5_readNumber_14 : decode cX5_readNumber 14 = .ok (.bipush (-4), 2) := by decide +kernel
theorem dX5_readNumber_16 : decode cX5_readNumber 16 = .ok (.ireturn, 1) := by decide +kernel
theorem dX5_readNumber_17 : decode cX5_readNumber 17 = .ok (.aload_n 0, 1) := by decide +kernel
theorem dX5_readNumber_18 : decode cX5_readNumber 18 = .ok (.getfield 20, 3) := by decide +kernel
theorem dX5_readNumber_21 : decode cX5_readNumber 21 = .ok (.iload_n 1, 1) := by decide +kernel
theorem dX5_readNumber_22 : decode cX5_readNumber 22 = .ok (.invokevirtual 40, 3) := by decide +kernel
theorem dX5_readNumber_25 : decode cX5_readNumber 25 = .ok (.bipush 48, 2) := by decide +kernel
theorem dX5_readNumber_27 : decode cX5_readNumber 27 = .ok (.isub, 1) := by decide +kernel
theorem dX5_readNumber_28 : decode cX5_readNumber 28 = .ok (.istore_n 2, 1) := by decide +kernel
theorem dX5_readNumber_29 : decode cX5_readNumber 29 = .ok (.aload_n 0, 1) := by decide +kernel
theorem dX5_readNumber_30 : decode cX5_readNumber 30 = .ok (.getfield 20, 3) := by decide +kernel
theorem dX5_readNumber_33 : decode cX5_readNumber 33 = .ok (.iload_n 1, 1) := by decide +kernel
theorem dX5_readNumber_34 : decode cX5_readNumber 34 = .ok (.iconst 1, 1) := by decide +kernel
theorem dX5_readNumber_35 : decode cX5_readNumber 35 = .ok (.iadd, 1) := by decide +kernel
theorem dX5_readNumber_36 : decode cX5_readNumber 36 = .ok (.invokevirtual 40, 3) := by decide +kernel
theorem dX5_readNumber_39 : decode cX5_readNumber 39 = .ok (.istore_n 3, 1) := by decide +kernel
theorem dX5_readNumber_40 : decode cX5_readNumber 40 = .ok (.iload_n 3, 1) := by decide +kernel
theorem dX5_readNumber_41 : decode cX5_readNumber 41 = .ok (.invokestatic 54, 3) := by decide +kernel
theorem dX5_readNumber_44 : decode cX5_readNumber 44 = .ok (.istore 4, 2) := by decide +kernel
theorem dX5_readNumber_46 : decode cX5_readNumber 46 = .ok (.aload_n 0, 1) := by decide +kernel
theorem dX5_readNumber_47 : decode cX5_readNumber 47 = .ok (.getfield 14, 3) := by decide +kernel
theorem dX5_readNumber_50 : decode cX5_readNumber 50 = .ok (.iload 4, 2) := by decide +kernel
theorem dX5_readNumber_52 : decode cX5_readNumber 52 = .ok (.ifCond .eq 15, 3) := by decide +kernel
theorem dX5_readNumber_55 : decode cX5_readNumber 55 = .ok (.bipush 10, 2) := by decide +kernel
theorem dX5_readNumber_57 : decode cX5_readNumber 57 = .ok (.iload_n 2, 1) := by decide +kernel
theorem dX5_readNumber_58 : decode cX5_readNumber 58 = .ok (.imul, 1) := by decide +kernel
theorem dX5_readNumber_59 : decode cX5_readNumber 59 = .ok (.iload_n 3, 1) := by decide +kernel
theorem dX5_readNumber_60 : decode cX5_readNumber 60 = .ok (.iadd, 1) := by decide +kernel
theorem dX5_readNumber_61 : decode cX5_readNumber 61 = .ok (.bipush 48, 2) := by decide +kernel
theorem dX5_readNumber_63 : decode cX5_readNumber 63 = .ok (.isub, 1) := by decide +kernel
theorem dX5_readNumber_64 : decode cX5_readNumber 64 = .ok (.goto 4, 3) := by decide +kernel
theorem dX5_readNumber_67 : decode cX5_readNumber 67 = .ok (.iload_n 2, 1) := by decide +kernel
theorem dX5_readNumber_68 : decode cX5_readNumber 68 = .ok (.invokevirtual 57, 3) := by decide +kernel
theorem dX5_readNumber_71 : decode cX5_readNumber 71 = .ok (.iload 4, 2) := by decide +kernel
theorem dX5_readNumber_73 : decode cX5_readNumber 73 = .ok (.ifCond .eq 9, 3) := by decide +kernel
theorem dX5_readNumber_76 : decode cX5_readNumber 76 = .ok (.iload_n 1, 1) := by decide +kernel
theorem dX5_readNumber_77 : decode cX5_readNumber 77 = .ok (.iconst 2, 1) := by decide +kernel
theorem dX5_readNumber_78 : decode cX5_readNumber 78 = .ok (.iadd, 1) := by decide +kernel
theorem dX5_readNumber_79 : decode cX5_readNumber 79 = .ok (.goto 6, 3) := by decide +kernel
theorem dX5_readNumber_82 : decode cX5_readNumber 82 = .ok (.iload_n 1, 1) := by decide +kernel
theorem dX5_readNumber_83 : decode cX5_readNumber 83 = .ok (.iconst 1, 1) := by decide +kernel
theorem dX5_readNumber_84 : decode cX5_readNumber 84 = .ok (.iadd, 1) := by decide +kernel
theorem dX5_readNumber_85 : decode cX5_readNumber 85 = .ok (.ireturn, 1) := by decide +kernel
theorem dX5_isFigure_0 : decode cX5_isFigure 0 = .ok (.iload_n 0, 1) := by decide +kernel
theorem dX5_isFigure_1 : decode cX5_isFigure 1 = .ok (.bipush 48, 2) := by decide +kernel
theorem dX5_isFigure_3 : decode cX5_isFigure 3 = .ok (.if_icmp .lt 13, 3) := by decide +kernel
theorem dX5_isFigure_6 : decode cX5_isFigure 6 = .ok (.iload_n 0, 1) := by decide +kernel
theorem dX5_isFigure_7 : decode cX5_isFigure 7 = .ok (.bipush 57, 2) := by decide +kernel
theorem dX5_isFigure_9 : decode cX5_isFigure 9 = .ok (.if_icmp .gt 7, 3) := by decide +kernel
theorem dX5_isFigure_12 : decode cX5_isFigure 12 = .ok (.iconst 1, 1) := by decide +kernel
theorem dX5_isFigure_13 : decode cX5_isFigure 13 = .ok (.goto 4, 3) := by decide +kernel
theorem dX5_isFigure_16 : decode cX5_isFigure 16 = .ok (.iconst 0, 1) := by decide +kernel
theorem dX5_isFigure_17 : decode cX5_isFigure 17 = .ok (.ireturn, 1) := by decide +kernel
theorem dX5_takeItem_0 : decode cX5_takeItem 0 = .ok (.aload_n 0, 1) := by decide +kernel
theorem dX5_takeItem_1 : decode cX5_takeItem 1 = .ok (.getfield 14, 3) := by decide +kernel
theorem dX5_takeItem_4 : decode cX5_takeItem 4 = .ok (.iconst 0, 1) := by decide +kernel
theorem dX5_takeItem_5 : decode cX5_takeItem 5 = .ok (.invokevirtual 40, 3) := by decide +kernel
theorem dX5_takeItem_8 : decode cX5_takeItem 8 = .ok (.istore_n 2, 1) := by decide +kernel
theorem dX5_takeItem_9 : decode cX5_takeItem 9 = .ok (.iload_n 1, 1) := by decide +kernel
theorem dX5_takeItem_10 : decode cX5_takeItem 10 = .ok (.tableswitch 83 101 108 #[77, 64, 83, 83, 83, 83, 46, 51], 46) := by decide +kernel
theorem dX5_takeItem_56 : decode cX5_takeItem 56 = .ok (.aload_n 0, 1) := by decide +kernel
theorem dX5_takeItem_57 : decode cX5_takeItem 57 = .ok (.invokevirtual 60, 3) := by decide +kernel
theorem dX5_takeItem_60 : decode cX5_takeItem 60 = .ok (.ireturn, 1) := by decide +kernel
theorem dX5_takeItem_61 : decode cX5_takeItem 61 = .ok (.aload_n 0, 1) := by decide +kernel
theorem dX5_takeItem_62 : decode cX5_takeItem 62 = .ok (.getfield 23, 3) := by decide +kernel
theorem dX5_takeItem_65 : decode cX5_takeItem 65 = .ok (.iload_n 2, 1) := by decide +kernel
theorem dX5_takeItem_66 : decode cX5_takeItem 66 = .ok (.putfield 64, 3) := by decide +kernel
theorem dX5_takeItem_69 : decode cX5_takeItem 69 = .ok (.iload_n 2, 1) := by decide +kernel
theorem dX5_takeItem_70 : decode cX5_takeItem 70 = .ok (.invokestatic 68, 3) := by decide +kernel
theorem dX5_takeItem_73 : decode cX5_takeItem 73 = .ok (.ireturn, 1) := by decide +kernel
theorem dX5_takeItem_74 : decode cX5_takeItem 74 = .ok (.aload_n 0, 1) := by decide +kernel
theorem dX5_takeItem_75 : decode cX5_takeItem 75 = .ok (.getfield 23, 3) := by decide +kernel
theorem dX5_takeItem_78 : decode cX5_takeItem 78 = .ok (.iload_n 2, 1) := by decide +kernel
theorem dX5_takeItem_79 : decode cX5_takeItem 79 = .ok (.putfield 71, 3) := by decide +kernel
theorem dX5_takeItem_82 : decode cX5_takeItem 82 = .ok (.iload_n 2, 1) := by decide +kernel
theorem dX5_takeItem_83 : decode cX5_takeItem 83 = .ok (.invokestatic 74, 3) := by decide +kernel
theorem dX5_takeItem_86 : decode cX5_takeItem 86 = .ok (.ireturn, 1) := by decide +kernel
theorem dX5_takeItem_87 : decode cX5_takeItem 87 = .ok (.aload_n 0, 1) := by decide +kernel
theorem dX5_takeItem_88 : decode cX5_takeItem 88 = .ok (.iload_n 2, 1) := by decide +kernel
theorem dX5_takeItem_89 : decode cX5_takeItem 89 = .ok (.invokevirtual 77, 3) := by decide +kernel
theorem dX5_takeItem_92 : decode cX5_takeItem 92 = .ok (.ireturn, 1) := by decide +kernel
theorem dX5_takeItem_93 : decode cX5_takeItem 93 = .ok (.iconst 0, 1) := by decide +kernel
theorem dX5_takeItem_94 : decode cX5_takeItem 94 = .ok (.ireturn, 1) := by decide +kernel
theorem dX5_takeKind_0 : decode cX5_takeKind 0 = .ok (.aload_n 0, 1) := by decide +kernel
theorem dX5_takeKind_1 : decode cX5_takeKind 1 = .ok (.getfield 23, 3) := by decide +kernel
theorem dX5_takeKind_4 : decode cX5_takeKind 4 = .ok (.getfield 80, 3) := by decide +kernel
theorem dX5_takeKind_7 : decode cX5_takeKind 7 = .ok (.invokevirtual 83, 3) := by decide +kernel
theorem dX5_takeKind_10 : decode cX5_takeKind 10 = .ok (.ifCond .ne 85, 3) := by decide +kernel
theorem dX5_takeKind_13 : decode cX5_takeKind 13 = .ok (.aload_n 0, 1) := by decide +kernel
theorem dX5_takeKind_14 : decode cX5_takeKind 14 = .ok (.getfield 14, 3) := by decide +kernel
theorem dX5_takeKind_17 : decode cX5_takeKind 17 = .ok (.iconst 0, 1) := by decide +kernel
theorem dX5_takeKind_18 : decode cX5_takeKind 18 = .ok (.invokevirtual 40, 3) := by decide +kernel
theorem dX5_takeKind_21 : decode cX5_takeKind 21 = .ok (.iconst 0, 1) := by decide +kernel
theorem dX5_takeKind_22 : decode cX5_takeKind 22 = .ok (.bipush 31, 2) := by decide +kernel
theorem dX5_takeKind_24 : decode cX5_takeKind 24 = .ok (.invokestatic 86, 3) := by decide +kernel
theorem dX5_takeKind_27 : decode cX5_takeKind 27 = .ok (.ifCond .eq 68, 3) := by decide +kernel
theorem dX5_takeKind_30 : decode cX5_takeKind 30 = .ok (.aload_n 0, 1) := by decide +kernel
theorem dX5_takeKind_31 : decode cX5_takeKind 31 = .ok (.getfield 14, 3) := by decide +kernel
theorem dX5_takeKind_34 : decode cX5_takeKind 34 = .ok (.iconst 1, 1) := by decide +kernel
theorem dX5_takeKind_35 : decode cX5_takeKind 35 = .ok (.invokevirtual 40, 3) := by decide +kernel
theorem dX5_takeKind_38 : decode cX5_takeKind 38 = .ok (.invokestatic 74, 3) := by decide +kernel
theorem dX5_takeKind_41 : decode cX5_takeKind 41 = .ok (.ifCond .eq 54, 3) := by decide +kernel
theorem dX5_takeKind_44 : decode cX5_takeKind 44 = .ok (.aload_n 0, 1) := by decide +kernel
theorem dX5_takeKind_45 : decode cX5_takeKind 45 = .ok (.getfield 14, 3) := by decide +kernel
theorem dX5_takeKind_48 : decode cX5_takeKind 48 = .ok (.iconst 2, 1) := by decide +kernel
theorem dX5_takeKind_49 : decode cX5_takeKind 49 = .ok (.invokevirtual 40, 3) := by decide +kernel
theorem dX5_takeKind_52 : decode cX5_takeKind 52 = .ok (.iconst 0, 1) := by decide +kernel
theorem dX5_takeKind_53 : decode cX5_takeKind 53 = .ok (.bipush 63, 2) := by decide +kernel
theorem dX5_takeKind_55 : decode cX5_takeKind 55 = .ok (.invokestatic 86, 3) := by decide +kernel
theorem dX5_takeKind_58 : decode cX5_takeKind 58 = .ok (.ifCond .eq 37, 3) := by decide +kernel
theorem dX5_takeKind_61 : decode cX5_takeKind 61 = .ok (.aload_n 0, 1) := by decide +kernel
theorem dX5_takeKind_62 : decode cX5_takeKind 62 = .ok (.getfield 14, 3) := by decide +kernel
theorem dX5_takeKind_65 : decode cX5_takeKind 65 = .ok (.iconst 3, 1) := by decide +kernel
theorem dX5_takeKind_66 : decode cX5_takeKind 66 = .ok (.invokevirtual 40, 3) := by decide +kernel
theorem dX5_takeKind_69 : decode cX5_takeKind 69 = .ok (.iconst 0, 1) := by decide +kernel
theorem dX5_takeKind_70 : decode cX5_takeKind 70 = .ok (.bipush 20, 2) := by decide +kernel
theorem dX5_takeKind_72 : decode cX5_takeKind 72 = .ok (.invokestatic 86, 3) := by decide +kernel
theorem dX5_takeKind_75 : decode cX5_takeKind 75 = .ok (.ifCond .eq 20, 3) := by decide +kernel
theorem dX5_takeKind_78 : decode cX5_takeKind 78 = .ok (.aload_n 0, 1) := by decide +kernel
theorem dX5_takeKind_79 : decode cX5_takeKind 79 = .ok (.getfield 14, 3) := by decide +kernel
theorem dX5_takeKind_82 : decode cX5_takeKind 82 = .ok (.iconst 4, 1) := by decide +kernel
theorem dX5_takeKind_83 : decode cX5_takeKind 83 = .ok (.invokevirtual 40, 3) := by decide +kernel
theorem dX5_takeKind_86 : decode cX5_takeKind 86 = .ok (.iconst 1, 1) := by decide +kernel
theorem dX5_takeKind_87 : decode cX5_takeKind 87 = .ok (.bipush 9, 2) := by decide +kernel
theorem dX5_takeKind_89 : decode cX5_takeKind 89 = .ok (.invokestatic 86, 3) := by decide +kernel
theorem dX5_takeKind_92 : decode cX5_takeKind 92 = .ok (.ifCond .ne 5, 3) := by decide +kernel
theorem dX5_takeKind_95 : decode cX5_takeKind 95 = .ok (.iconst 0, 1) := by decide +kernel
theorem dX5_takeKind_96 : decode cX5_takeKind 96 = .ok (.ireturn, 1) := by decide +kernel
theorem dX5_takeKind_97 : decode cX5_takeKind 97 = .ok (.aload_n 0, 1) := by decide +kernel
theorem dX5_takeKind_98 : decode cX5_takeKind 98 = .ok (.getfield 23, 3) := by decide +kernel
theorem dX5_takeKind_101 : decode cX5_takeKind 101 = .ok (.getfield 80, 3) := by decide +kernel
theorem dX5_takeKind_104 : decode cX5_takeKind 104 = .ok (.aload_n 0, 1) := by decide +kernel
theorem dX5_takeKind_105 : decode cX5_takeKind 105 = .ok (.getfield 14, 3) := by decide +kernel
theorem dX5_takeKind_108 : decode cX5_takeKind 108 = .ok (.iconst 0, 1) := by decide +kernel
theorem dX5_takeKind_109 : decode cX5_takeKind 109 = .ok (.invokevirtual 40, 3) := by decide +kernel
theorem dX5_takeKind_112 : decode cX5_takeKind 112 = .ok (.invokevirtual 57, 3) := by decide +kernel
theorem dX5_takeKind_115 : decode cX5_takeKind 115 = .ok (.aload_n 0, 1) := by decide +kernel
theorem dX5_takeKind_116 : decode cX5_takeKind 116 = .ok (.getfield 23, 3) := by decide +kernel
theorem dX5_takeKind_119 : decode cX5_takeKind 119 = .ok (.getfield 90, 3) := by decide +kernel
theorem dX5_takeKind_122 : decode cX5_takeKind 122 = .ok (.aload_n 0, 1) := by decide +kernel
theorem dX5_takeKind_123 : decode cX5_takeKind 123 = .ok (.getfield 14, 3) := by decide +kernel
theorem dX5_takeKind_126 : decode cX5_takeKind 126 = .ok (.iconst 1, 1) := by decide +kernel
theorem dX5_takeKind_127 : decode cX5_takeKind 127 = .ok (.invokevirtual 40, 3) := by decide +kernel
theorem dX5_takeKind_130 : decode cX5_takeKind 130 = .ok (.invokevirtual 57, 3) := by decide +kernel
theorem dX5_takeKind_133 : decode cX5_takeKind 133 = .ok (.aload_n 0, 1) := by decide +kernel
theorem dX5_takeKind_134 : decode cX5_takeKind 134 = .ok (.getfield 23, 3) := by decide +kernel
theorem dX5_takeKind_137 : decode cX5_takeKind 137 = .ok (.getfield 93, 3) := by decide +kernel
theorem dX5_takeKind_140 : decode cX5_takeKind 140 = .ok (.aload_n 0, 1) := by decide +kernel
theorem dX5_takeKind_141 : decode cX5_takeKind 141 = .ok (.getfield 14, 3) := by decide +kernel
theorem dX5_takeKind_144 : decode cX5_takeKind 144 = .ok (.iconst 2, 1) := by decide +kernel
theorem dX5_takeKind_145 : decode cX5_takeKind 145 = .ok (.invokevirtual 40, 3) := by decide +kernel
theorem dX5_takeKind_148 : decode cX5_takeKind 148 = .ok (.invokevirtual 57, 3) := by decide +kernel
theorem dX5_takeKind_151 : decode cX5_takeKind 151 = .ok (.aload_n 0, 1) := by decide +kernel
theorem dX5_takeKind_152 : decode cX5_takeKind 152 = .ok (.getfield 23, 3) := by decide +kernel
theorem dX5_takeKind_155 : decode cX5_takeKind 155 = .ok (.getfield 96, 3) := by decide +kernel
theorem dX5_takeKind_158 : decode cX5_takeKind 158 = .ok (.aload_n 0, 1) := by decide +kernel
theorem dX5_takeKind_159 : decode cX5_takeKind 159 = .ok (.getfield 14, 3) := by decide +kernel
theorem dX5_takeKind_162 : decode cX5_takeKind 162 = .ok (.iconst 3, 1) := by decide +kernel
theorem dX5_takeKind_163 : decode cX5_takeKind 163 = .ok (.invokevirtual 40, 3) := by decide +kernel
theorem dX5_takeKind_166 : decode cX5_takeKind 166 = .ok (.invokevirtual 57, 3) := by decide +kernel
theorem dX5_takeKind_169 : decode cX5_takeKind 169 = .ok (.aload_n 0, 1) := by decide +kernel
theorem dX5_takeKind_170 : decode cX5_takeKind 170 = .ok (.getfield 23, 3) := by decide +kernel
theorem dX5_takeKind_173 : decode cX5_takeKind 173 = .ok (.getfield 99, 3) := by decide +kernel
theorem dX5_takeKind_176 : decode cX5_takeKind 176 = .ok (.aload_n 0, 1) := by decide +kernel
theorem dX5_takeKind_177 : decode cX5_takeKind 177 = .ok (.getfield 14, 3) := by decide +kernel
theorem dX5_takeKind_180 : decode cX5_takeKind 180 = .ok (.iconst 4, 1) := by decide +kernel
theorem dX5_takeKind_181 : decode cX5_takeKind 181 = .ok (.invokevirtual 40, 3) := by decide +kernel
theorem dX5_takeKind_184 : decode cX5_takeKind 184 = .ok (.invokevirtual 57, 3) := by decide +kernel
theorem dX5_takeKind_187 : decode cX5_takeKind 187 = .ok (.iconst 1, 1) := by decide +kernel
theorem dX5_takeKind_188 : decode cX5_takeKind 188 = .ok (.ireturn, 1) := by decide +kernel
theorem dX5_takeErrand_0 : decode cX5_takeErrand 0 = .ok (.aload_n 0, 1) := by decide +kernel
theorem dX5_takeErrand_1 : decode cX5_takeErrand 1 = .ok (.getfield 23, 3) := by decide +kernel
theorem dX5_takeErrand_4 : decode cX5_takeErrand 4 = .ok (.iload_n 1, 1) := by decide +kernel
theorem dX5_takeErrand_5 : decode cX5_takeErrand 5 = .ok (.invokevirtual 102, 3) := by decide +kernel
theorem dX5_takeErrand_8 : decode cX5_takeErrand 8 = .ok (.ifCond .eq 16, 3) := by decide +kernel
theorem dX5_takeErrand_11 : decode cX5_takeErrand 11 = .ok (.aload_n 0, 1) := by decide +kernel
theorem dX5_takeErrand_12 : decode cX5_takeErrand 12 = .ok (.getfield 23, 3) := by decide +kernel
theorem dX5_takeErrand_15 : decode cX5_takeErrand 15 = .ok (.getfield 105, 3) := by decide +kernel
theorem dX5_takeErrand_18 : decode cX5_takeErrand 18 = .ok (.invokevirtual 83, 3) := by decide +kernel
theorem dX5_takeErrand_21 : decode cX5_takeErrand 21 = .ok (.ifCond .eq 5, 3) := by decide +kernel
theorem dX5_takeErrand_24 : decode cX5_takeErrand 24 = .ok (.iconst 0, 1) := by decide +kernel
theorem dX5_takeErrand_25 : decode cX5_takeErrand 25 = .ok (.ireturn, 1) := by decide +kernel
theorem dX5_takeErrand_26 : decode cX5_takeErrand 26 = .ok (.aload_n 0, 1) := by decide +kernel
theorem dX5_takeErrand_27 : decode cX5_takeErrand 27 = .ok (.getfield 23, 3) := by decide +kernel
theorem dX5_takeErrand_30 : decode cX5_takeErrand 30 = .ok (.getfield 105, 3) := by decide +kernel
theorem dX5_takeErrand_33 : decode cX5_takeErrand 33 = .ok (.iload_n 1, 1) := by decide +kernel
theorem dX5_takeErrand_34 : decode cX5_takeErrand 34 = .ok (.invokevirtual 57, 3) := by decide +kernel
theorem dX5_takeErrand_37 : decode cX5_takeErrand 37 = .ok (.iconst 1, 1) := by decide +kernel
theorem dX5_takeErrand_38 : decode cX5_takeErrand 38 = .ok (.ireturn, 1) := by decide +kernel
theorem dX6_init_0 : decode cX6_init 0 = .ok (.aload_n 0, 1) := by decide +kernel
theorem dX6_init_1 : decode cX6_init 1 = .ok (.invokespecial 1, 3) := by decide +kernel
theorem dX6_init_4 : decode cX6_init 4 = .ok (.aload_n 0, 1) := by decide +kernel
theorem dX6_init_5 : decode cX6_init 5 = .ok (.iconst 0, 1) := by decide +kernel
theorem dX6_init_6 : decode cX6_init 6 = .ok (.iload_n 1, 1) := by decide +kernel
theorem dX6_init_7 : decode cX6_init 7 = .ok (.invokestatic 7, 3) := by decide +kernel
theorem dX6_init_10 : decode cX6_init 10 = .ok (.anewarray 13, 3) := by decide +kernel
theorem dX6_init_13 : decode cX6_init 13 = .ok (.putfield 15, 3) := by decide +kernel
theorem dX6_init_16 : decode cX6_init 16 = .ok (.iconst 0, 1) := by decide +kernel
theorem dX6_init_17 : decode cX6_init 17 = .ok (.istore_n 2, 1) := by decide +kernel
theorem dX6_init_18 : decode cX6_init 18 = .ok (.iload_n 2, 1) := by decide +kernel
theorem dX6_init_19 : decode cX6_init 19 = .ok (.aload_n 0, 1) := by decide +kernel
theorem dX6_init_20 : decode cX6_init 20 = .ok (.getfield 15, 3) := by decide +kernel
theorem dX6_init_23 : decode cX6_init 23 = .ok (.arraylength, 1) := by decide +kernel
theorem dX6_init_24 : decode cX6_init 24 = .ok (.if_icmp .ge 22, 3) := by decide +kernel
theorem dX6_init_27 : decode cX6_init 27 = .ok (.aload_n 0, 1) := by decide +kernel
theorem dX6_init_28 : decode cX6_init 28 = .ok (.getfield 15, 3) := by decide +kernel
theorem dX6_init_31 : decode cX6_init 31 = .ok (.iload_n 2, 1) := by decide +kernel
theorem dX6_init_32 : decode cX6_init 32 = .ok (.new 13, 3) := by decide +kernel
theorem dX6_init_35 : decode cX6_init 35 = .ok (.dup, 1) := by decide +kernel
theorem dX6_init_36 : decode cX6_init 36 = .ok (.invokespecial 21, 3) := by decide +kernel
theorem dX6_init_39 : decode cX6_init 39 = .ok (.aastore, 1) := by decide +kernel
theorem dX6_init_40 : decode cX6_init 40 = .ok (.iinc 2 1, 3) := by decide +kernel
theorem dX6_init_43 : decode cX6_init 43 = .ok (.goto (-25), 3) := by decide +kernel
theorem dX6_init_46 : decode cX6_init 46 = .ok (.return_, 1) := by decide +kernel
theorem dX6_size_0 : decode cX6_size 0 = .ok (.aload_n 0, 1) := by decide +kernel
theorem dX6_size_1 : decode cX6_size 1 = .ok (.getfield 22, 3) := by decide +kernel
theorem dX6_size_4 : decode cX6_size 4 = .ok (.ireturn, 1) := by decide +kernel
theorem dX6_isFull_0 : decode cX6_isFull 0 = .ok (.aload_n 0, 1) := by decide +kernel
theorem dX6_isFull_1 : decode cX6_isFull 1 = .ok (.getfield 22, 3) := by decide +kernel
theorem dX6_isFull_4 : decode cX6_isFull 4 = .ok (.aload_n 0, 1) := by decide +kernel
theorem dX6_isFull_5 : decode cX6_isFull 5 = .ok (.getfield 15, 3) := by decide +kernel
theorem dX6_isFull_8 : decode cX6_isFull 8 = .ok (.arraylength, 1) := by decide +kernel
theorem dX6_isFull_9 : decode cX6_isFull 9 = .ok (.if_icmp .lt 7, 3) := by decide +kernel
theorem dX6_isFull_12 : decode cX6_isFull 12 = .ok (.iconst 1, 1) := by decide +kernel
theorem dX6_isFull_13 : decode cX6_isFull 13 = .ok (.goto 4, 3) := by decide +kernel
theorem dX6_isFull_16 : decode cX6_isFull 16 = .ok (.iconst 0, 1) := by decide +kernel
theorem dX6_isFull_17 : decode cX6_isFull 17 = .ok (.ireturn, 1) := by decide +kernel
theorem dX6_clear_0 : decode cX6_clear 0 = .ok (.aload_n 0, 1) := by decide +kernel
theorem dX6_clear_1 : decode cX6_clear 1 = .ok (.iconst 0, 1) := by decide +kernel
theorem dX6_clear_2 : decode cX6_clear 2 = .ok (.putfield 22, 3) := by decide +kernel
theorem dX6_clear_5 : decode cX6_clear 5 = .ok (.return_, 1) := by decide +kernel
theorem dX6_add_0 : decode cX6_add 0 = .ok (.aload_n 0, 1) := by decide +kernel
theorem dX6_add_1 : decode cX6_add 1 = .ok (.invokevirtual 26, 3) := by decide +kernel
theorem dX6_add_4 : decode cX6_add 4 = .ok (.ifCond .eq 7, 3) := by decide +kernel
theorem dX6_add_7 : decode cX6_add 7 = .ok (.aload_n 0, 1) := by decide +kernel
theorem dX6_add_8 : decode cX6_add 8 = .ok (.invokevirtual 30, 3) := by decide +kernel
theorem dX6_add_11 : decode cX6_add 11 = .ok (.aload_n 0, 1) := by decide +kernel
theorem dX6_add_12 : decode cX6_add 12 = .ok (.aload_n 0, 1) := by decide +kernel
theorem dX6_add_13 : decode cX6_add 13 = .ok (.getfield 22, 3) := by decide +kernel
theorem dX6_add_16 : decode cX6_add 16 = .ok (.invokevirtual 33, 3) := by decide +kernel
theorem dX6_add_19 : decode cX6_add 19 = .ok (.astore_n 2, 1) := by decide +kernel
theorem dX6_add_20 : decode cX6_add 20 = .ok (.aload_n 2, 1) := by decide +kernel
theorem dX6_add_21 : decode cX6_add 21 = .ok (.ifnull 18, 3) := by decide +kernel
theorem dX6_add_24 : decode cX6_add 24 = .ok (.aload_n 2, 1) := by decide +kernel
theorem dX6_add_25 : decode cX6_add 25 = .ok (.aload_n 1, 1) := by decide +kernel
theorem dX6_add_26 : decode cX6_add 26 = .ok (.invokevirtual 37, 3) := by decide +kernel
theorem dX6_add_29 : decode cX6_add 29 = .ok (.aload_n 0, 1) := by decide +kernel
theorem dX6_add_30 : decode cX6_add 30 = .ok (.dup, 1) := by decide +kernel
theorem dX6_add_31 : decode cX6_add 31 = .ok (.getfield 22, 3) := by decide +kernel
theorem dX6_add_34 : decode cX6_add 34 = .ok (.iconst 1, 1) := by decide +kernel
theorem dX6_add_35 : decode cX6_add 35 = .ok (.iadd, 1) := by decide +kernel
theorem dX6_add_36 : decode cX6_add 36 = .ok (.putfield 22, 3) := by decide +kernel
theorem dX6_add_39 : decode cX6_add 39 = .ok (.return_, 1) := by decide +kernel
theorem dX6_takeLast_0 : decode cX6_takeLast 0 = .ok (.aload_n 0, 1) := by decide +kernel
theorem dX6_takeLast_1 : decode cX6_takeLast 1 = .ok (.aload_n 0, 1) := by decide +kernel
theorem dX6_takeLast_2 : decode cX6_takeLast 2 = .ok (.getfield 22, 3) := by decide +kernel
theorem dX6_takeLast_5 : decode cX6_takeLast 5 = .ok (.iconst 1, 1) := by decide +kernel
theorem dX6_takeLast_6 : decode cX6_takeLast 6 = .ok (.isub, 1) := by decide +kernel
theorem dX6_takeLast_7 : decode cX6_takeLast 7 = .ok (.invokevirtual 33, 3) := by decide +kernel
theorem dX6_takeLast_10 : decode cX6_takeLast 10 = .ok (.astore_n 2, 1) := by decide +kernel
theorem dX6_takeLast_11 : decode cX6_takeLast 11 = .ok (.aload_n 2, 1) := by decide +kernel
theorem dX6_takeLast_12 : decode cX6_takeLast 12 = .ok (.ifnull 18, 3) := by decide +kernel
theorem dX6_takeLast_15 : decode cX6_takeLast 15 = .ok (.aload_n 1, 1) := by decide +kernel
theorem dX6_takeLast_16 : decode cX6_takeLast 16 = .ok (.aload_n 2, 1) := by decide +kernel
theorem dX6_takeLast_17 : decode cX6_takeLast 17 = .ok (.invokevirtual 37, 3) := by decide +kernel
theorem dX6_takeLast_20 : decode cX6_takeLast 20 = .ok (.aload_n 0, 1) := by decide +kernel
theorem dX6_takeLast_21 : decode cX6_takeLast 21 = .ok (.dup, 1) := by decide +kernel
theorem dX6_takeLast_22 : decode cX6_takeLast 22 = .ok (.getfield 22, 3) := by decide +kernel
theorem dX6_takeLast_25 : decode cX6_takeLast 25 = .ok (.iconst 1, 1) := by decide +kernel
theorem dX6_takeLast_26 : decode cX6_takeLast 26 = .ok (.isub, 1) := by decide +kernel
theorem dX6_takeLast_27 : decode cX6_takeLast 27 = .ok (.putfield 22, 3) := by decide +kernel
theorem dX6_takeLast_30 : decode cX6_takeLast 30 = .ok (.return_, 1) := by decide +kernel
theorem dX6_placeAt_0 : decode cX6_placeAt 0 = .ok (.iload_n 1, 1) := by decide +kernel
theorem dX6_placeAt_1 : decode cX6_placeAt 1 = .ok (.ifCond .lt 21, 3) := by decide +kernel
theorem dX6_placeAt_4 : decode cX6_placeAt 4 = .ok (.iload_n 1, 1) := by decide +kernel
theorem dX6_placeAt_5 : decode cX6_placeAt 5 = .ok (.aload_n 0, 1) := by decide +kernel
theorem dX6_placeAt_6 : decode cX6_placeAt 6 = .ok (.getfield 15, 3) := by decide +kernel
theorem dX6_placeAt_9 : decode cX6_placeAt 9 = .ok (.arraylength, 1) := by decide +kernel
theorem dX6_placeAt_10 : decode cX6_placeAt 10 = .ok (.if_icmp .ge 12, 3) := by decide +kernel
theorem dX6_placeAt_13 : decode cX6_placeAt 13 = .ok (.aload_n 0, 1) := by decide +kernel
theorem dX6_placeAt_14 : decode cX6_placeAt 14 = .ok (.getfield 15, 3) := by decide +kernel
theorem dX6_placeAt_17 : decode cX6_placeAt 17 = .ok (.iload_n 1, 1) := by decide +kernel
theorem dX6_placeAt_18 : decode cX6_placeAt 18 = .ok (.aaload, 1) := by decide +kernel
theorem dX6_placeAt_19 : decode cX6_placeAt 19 = .ok (.goto 4, 3) := by decide +kernel
theorem dX6_placeAt_22 : decode cX6_placeAt 22 = .ok (.aconst_null, 1) := by decide +kernel
theorem dX6_placeAt_23 : decode cX6_placeAt 23 = .ok (.areturn, 1) := by decide +kernel
theorem dX6_dropOldest_0 : decode cX6_dropOldest 0 = .ok (.aload_n 0, 1) := by decide +kernel
theorem dX6_dropOldest_1 : decode cX6_dropOldest 1 = .ok (.getfield 15, 3) := by decide +kernel
theorem dX6_dropOldest_4 : decode cX6_dropOldest 4 = .ok (.arraylength, 1) := by decide +kernel
theorem dX6_dropOldest_5 : decode cX6_dropOldest 5 = .ok (.ifCond .ne 4, 3) := by decide +kernel
theorem dX6_dropOldest_8 : decode cX6_dropOldest 8 = .ok (.return_, 1) := by decide +kernel
theorem dX6_dropOldest_9 : decode cX6_dropOldest 9 = .ok (.aload_n 0, 1) := by decide +kernel
theorem dX6_dropOldest_10 : decode cX6_dropOldest 10 = .ok (.getfield 15, 3) := by decide +kernel
theorem dX6_dropOldest_13 : decode cX6_dropOldest 13 = .ok (.iconst 0, 1) := by decide +kernel
theorem dX6_dropOldest_14 : decode cX6_dropOldest 14 = .ok (.aaload, 1) := by decide +kernel
theorem dX6_dropOldest_15 : decode cX6_dropOldest 15 = .ok (.astore_n 1, 1) := by decide +kernel
theorem dX6_dropOldest_16 : decode cX6_dropOldest 16 = .ok (.iconst 1, 1) := by decide +kernel
theorem dX6_dropOldest_17 : decode cX6_dropOldest 17 = .ok (.istore_n 2, 1) := by decide +kernel
theorem dX6_dropOldest_18 : decode cX6_dropOldest 18 = .ok (.iload_n 2, 1) := by decide +kernel
theorem dX6_dropOldest_19 : decode cX6_dropOldest 19 = .ok (.aload_n 0, 1) := by decide +kernel
theorem dX6_dropOldest_20 : decode cX6_dropOldest 20 = .ok (.getfield 15, 3) := by decide +kernel
theorem dX6_dropOldest_23 : decode cX6_dropOldest 23 = .ok (.arraylength, 1) := by decide +kernel
theorem dX6_dropOldest_24 : decode cX6_dropOldest 24 = .ok (.if_icmp .ge 23, 3) := by decide +kernel
theorem dX6_dropOldest_27 : decode cX6_dropOldest 27 = .ok (.aload_n 0, 1) := by decide +kernel
theorem dX6_dropOldest_28 : decode cX6_dropOldest 28 = .ok (.getfield 15, 3) := by decide +kernel
theorem dX6_dropOldest_31 : decode cX6_dropOldest 31 = .ok (.iload_n 2, 1) := by decide +kernel
theorem dX6_dropOldest_32 : decode cX6_dropOldest 32 = .ok (.iconst 1, 1) := by decide +kernel
theorem dX6_dropOldest_33 : decode cX6_dropOldest 33 = .ok (.isub, 1) := by decide +kernel
theorem dX6_dropOldest_34 : decode cX6_dropOldest 34 = .ok (.aload_n 0, 1) := by decide +kernel
theorem dX6_dropOldest_35 : decode cX6_dropOldest 35 = .ok (.getfield 15, 3) := by decide +kernel
theorem dX6_dropOldest_38 : decode cX6_dropOldest 38 = .ok (.iload_n 2, 1) := by decide +kernel
theorem dX6_dropOldest_39 : decode cX6_dropOldest 39 = .ok (.aaload, 1) := by decide +kernel
theorem dX6_dropOldest_40 : decode cX6_dropOldest 40 = .ok (.aastore, 1) := by decide +kernel
theorem dX6_dropOldest_41 : decode cX6_dropOldest 41 = .ok (.iinc 2 1, 3) := by decide +kernel
theorem dX6_dropOldest_44 : decode cX6_dropOldest 44 = .ok (.goto (-26), 3) := by decide +kernel
theorem dX6_dropOldest_47 : decode cX6_dropOldest 47 = .ok (.aload_n 0, 1) := by decide +kernel
theorem dX6_dropOldest_48 : decode cX6_dropOldest 48 = .ok (.getfield 15, 3) := by decide +kernel
theorem dX6_dropOldest_51 : decode cX6_dropOldest 51 = .ok (.aload_n 0, 1) := by decide +kernel
theorem dX6_dropOldest_52 : decode cX6_dropOldest 52 = .ok (.getfield 15, 3) := by decide +kernel
theorem dX6_dropOldest_55 : decode cX6_dropOldest 55 = .ok (.arraylength, 1) := by decide +kernel
theorem dX6_dropOldest_56 : decode cX6_dropOldest 56 = .ok (.iconst 1, 1) := by decide +kernel
theorem dX6_dropOldest_57 : decode cX6_dropOldest 57 = .ok (.isub, 1) := by decide +kernel
theorem dX6_dropOldest_58 : decode cX6_dropOldest 58 = .ok (.aload_n 1, 1) := by decide +kernel
theorem dX6_dropOldest_59 : decode cX6_dropOldest 59 = .ok (.aastore, 1) := by decide +kernel
theorem dX6_dropOldest_60 : decode cX6_dropOldest 60 = .ok (.aload_n 0, 1) := by decide +kernel
theorem dX6_dropOldest_61 : decode cX6_dropOldest 61 = .ok (.iconst 0, 1) := by decide +kernel
theorem dX6_dropOldest_62 : decode cX6_dropOldest 62 = .ok (.aload_n 0, 1) := by decide +kernel
theorem dX6_dropOldest_63 : decode cX6_dropOldest 63 = .ok (.getfield 22, 3) := by decide +kernel
theorem dX6_dropOldest_66 : decode cX6_dropOldest 66 = .ok (.iconst 1, 1) := by decide +kernel
theorem dX6_dropOldest_67 : decode cX6_dropOldest 67 = .ok (.isub, 1) := by decide +kernel
theorem dX6_dropOldest_68 : decode cX6_dropOldest 68 = .ok (.invokestatic 7, 3) := by decide +kernel
theorem dX6_dropOldest_71 : decode cX6_dropOldest 71 = .ok (.putfield 22, 3) := by decide +kernel
theorem dX6_dropOldest_74 : decode cX6_dropOldest 74 = .ok (.return_, 1) := by decide +kernel
theorem dX7_init_0 : decode cX7_init 0 = .ok (.aload_n 0, 1) := by decide +kernel
theorem dX7_init_1 : decode cX7_init 1 = .ok (.invokespecial 1, 3) := by decide +kernel
theorem dX7_init_4 : decode cX7_init 4 = .ok (.aload_n 0, 1) := by decide +kernel
theorem dX7_init_5 : decode cX7_init 5 = .ok (.new 7, 3) := by decide +kernel
theorem dX7_init_8 : decode cX7_init 8 = .ok (.dup, 1) := by decide +kernel
theorem dX7_init_9 : decode cX7_init 9 = .ok (.sipush 200, 3) := by decide +kernel
theorem dX7_init_12 : decode cX7_init 12 = .ok (.invokespecial 11, 3) := by decide +kernel
theorem dX7_init_15 : decode cX7_init 15 = .ok (.putfield 14, 3) := by decide +kernel
theorem dX7_init_18 : decode cX7_init 18 = .ok (.aload_n 0, 1) := by decide +kernel
theorem dX7_init_19 : decode cX7_init 19 = .ok (.new 18, 3) := by decide +kernel
theorem dX7_init_22 : decode cX7_init 22 = .ok (.dup, 1) := by decide +kernel
theorem dX7_init_23 : decode cX7_init 23 = .ok (.invokespecial 20, 3) := by decide +kernel
theorem dX7_init_26 : decode cX7_init 26 = .ok (.putfield 21, 3) := by decide +kernel
theorem dX7_init_29 : decode cX7_init 29 = .ok (.aload_n 0, 1) := by decide +kernel
theorem dX7_init_30 : decode cX7_init 30 = .ok (.new 25, 3) := by decide +kernel
theorem dX7_init_33 : decode cX7_init 33 = .ok (.dup, 1) := by decide +kernel
theorem dX7_init_34 : decode cX7_init 34 = .ok (.aload_n 0, 1) := by decide +kernel
theorem dX7_init_35 : decode cX7_init 35 = .ok (.getfield 14, 3) := by decide +kernel
theorem dX7_init_38 : decode cX7_init 38 = .ok (.aload_n 0, 1) := by decide +kernel
theorem dX7_init_39 : decode cX7_init 39 = .ok (.getfield 21, 3) := by decide +kernel
theorem dX7_init_42 : decode cX7_init 42 = .ok (.invokespecial 27, 3) := by decide +kernel
theorem dX7_init_45 : decode cX7_init 45 = .ok (.putfield 30, 3) := by decide +kernel
theorem dX7_init_48 : decode cX7_init 48 = .ok (.aload_n 0, 1) := by decide +kernel
theorem dX7_init_49 : decode cX7_init 49 = .ok (.new 18, 3) := by decide +kernel
theorem dX7_init_52 : decode cX7_init 52 = .ok (.dup, 1) := by decide +kernel
theorem dX7_init_53 : decode cX7_init 53 = .ok (.invokespecial 20, 3) := by decide +kernel
theorem dX7_init_56 : decode cX7_init 56 = .ok (.putfield 34, 3) := by decide +kernel
theorem dX7_init_59 : decode cX7_init 59 = .ok (.aload_n 0, 1) := by decide +kernel
theorem dX7_init_60 : decode cX7_init 60 = .ok (.new 37, 3) := by decide +kernel
theorem dX7_init_63 : decode cX7_init 63 = .ok (.dup, 1) := by decide +kernel
theorem dX7_init_64 : decode cX7_init 64 = .ok (.invokespecial 39, 3) := by decide +kernel
theorem dX7_init_67 : decode cX7_init 67 = .ok (.putfield 40, 3) := by decide +kernel
theorem dX7_init_70 : decode cX7_init 70 = .ok (.aload_n 0, 1) := by decide +kernel
theorem dX7_init_71 : decode cX7_init 71 = .ok (.new 44, 3) := by decide +kernel
theorem dX7_init_74 : decode cX7_init 74 = .ok (.dup, 1) := by decide +kernel
theorem dX7_init_75 : decode cX7_init 75 = .ok (.bipush 8, 2) := by decide +kernel
theorem dX7_init_77 : decode cX7_init 77 = .ok (.invokespecial 46, 3) := by decide +kernel
theorem dX7_init_80 : decode cX7_init 80 = .ok (.putfield 47, 3) := by decide +kernel
theorem dX7_init_83 : decode cX7_init 83 = .ok (.aload_n 0, 1) := by decide +kernel
theorem dX7_init_84 : decode cX7_init 84 = .ok (.new 44, 3) := by decide +kernel
theorem dX7_init_87 : decode cX7_init 87 = .ok (.dup, 1) := by decide +kernel
theorem dX7_init_88 : decode cX7_init 88 = .ok (.iconst 2, 1) := by decide +kernel
theorem dX7_init_89 : decode cX7_init 89 = .ok (.invokespecial 46, 3) := by decide +kernel
theorem dX7_init_92 : decode cX7_init 92 = .ok (.putfield 51, 3) := by decide +kernel
theorem dX7_init_95 : decode cX7_init 95 = .ok (.aload_n 0, 1) := by decide +kernel
theorem dX7_init_96 : decode cX7_init 96 = .ok (.new 7, 3) := by decide +kernel
theorem dX7_init_99 : decode cX7_init 99 = .ok (.dup, 1) := by decide +kernel
theorem dX7_init_100 : decode cX7_init 100 = .ok (.bipush 8, 2) := by decide +kernel
theorem dX7_init_102 : decode cX7_init 102 = .ok (.invokespecial 11, 3) := by decide +kernel
theorem dX7_init_105 : decode cX7_init 105 = .ok (.putfield 54, 3) := by decide +kernel
theorem dX7_init_108 : decode cX7_init 108 = .ok (.aload_n 0, 1) := by decide +kernel
theorem dX7_init_109 : decode cX7_init 109 = .ok (.new 7, 3) := by decide +kernel
theorem dX7_init_112 : decode cX7_init 112 = .ok (.dup, 1) := by decide +kernel
theorem dX7_init_113 : decode cX7_init 113 = .ok (.bipush 60, 2) := by decide +kernel
theorem dX7_init_115 : decode cX7_init 115 = .ok (.invokespecial 11, 3) := by decide +kernel
theorem dX7_init_118 : decode cX7_init 118 = .ok (.putfield 57, 3) := by decide +kernel
theorem dX7_init_121 : decode cX7_init 121 = .ok (.aload_n 0, 1) := by decide +kernel
theorem dX7_init_122 : decode cX7_init 122 = .ok (.new 7, 3) := by decide +kernel
theorem dX7_init_125 : decode cX7_init 125 = .ok (.dup, 1) := by decide +kernel
theorem dX7_init_126 : decode cX7_init 126 = .ok (.bipush 6, 2) := by decide +kernel
theorem dX7_init_128 : decode cX7_init 128 = .ok (.invokespecial 11, 3) := by decide +kernel
theorem dX7_init_131 : decode cX7_init 131 = .ok (.putfield 60, 3) := by decide +kernel
theorem dX7_init_134 : decode cX7_init 134 = .ok (.aconst_null, 1) := by decide +kernel
theorem dX7_init_135 : decode cX7_init 135 = .ok (.astore_n 1, 1) := by decide +kernel
theorem dX7_init_136 : decode cX7_init 136 = .ok (.iconst 0, 1) := by decide +kernel
theorem dX7_init_137 : decode cX7_init 137 = .ok (.istore_n 2, 1) := by decide +kernel
theorem dX7_init_138 : decode cX7_init 138 = .ok (.iload_n 2, 1) := by decide +kernel
theorem dX7_init_139 : decode cX7_init 139 = .ok (.bipush 7, 2) := by decide +kernel
theorem dX7_init_141 : decode cX7_init 141 = .ok (.if_icmp .gt 22, 3) := by decide +kernel
theorem dX7_init_144 : decode cX7_init 144 = .ok (.new 63, 3) := by decide +kernel
theorem dX7_init_147 : decode cX7_init 147 = .ok (.dup, 1) := by decide +kernel
theorem dX7_init_148 : decode cX7_init 148 = .ok (.aload_n 0, 1) := by decide +kernel
theorem dX7_init_149 : decode cX7_init 149 = .ok (.getfield 34, 3) := by decide +kernel
theorem dX7_init_152 : decode cX7_init 152 = .ok (.aload_n 1, 1) := by decide +kernel
theorem dX7_init_153 : decode cX7_init 153 = .ok (.invokespecial 65, 3) := by decide +kernel
theorem dX7_init_156 : decode cX7_init 156 = .ok (.astore_n 1, 1) := by decide +kernel
theorem dX7_init_157 : decode cX7_init 157 = .ok (.iinc 2 1, 3) := by decide +kernel
theorem dX7_init_160 : decode cX7_init 160 = .ok (.goto (-22), 3) := by decide +kernel
theorem dX7_init_163 : decode cX7_init 163 = .ok (.aload_n 0, 1) := by decide +kernel
theorem dX7_init_164 : decode cX7_init 164 = .ok (.aload_n 1, 1) := by decide +kernel
theorem dX7_init_165 : decode cX7_init 165 = .ok (.putfield 68, 3) := by decide +kernel
theorem dX7_init_168 : decode cX7_init 168 = .ok (.aload_n 0, 1) := by decide +kernel
theorem dX7_init_169 : decode cX7_init 169 = .ok (.new 72, 3) := by decide +kernel
theorem dX7_init_172 : decode cX7_init 172 = .ok (.dup, 1) := by decide +kernel
theorem dX7_init_173 : decode cX7_init 173 = .ok (.aload_n 0, 1) := by decide +kernel
theorem dX7_init_174 : decode cX7_init 174 = .ok (.getfield 34, 3) := by decide +kernel
theorem dX7_init_177 : decode cX7_init 177 = .ok (.invokespecial 74, 3) := by decide +kernel
theorem dX7_init_180 : decode cX7_init 180 = .ok (.putfield 77, 3) := by decide +kernel
theorem dX7_init_183 : decode cX7_init 183 = .ok (.iconst 0, 1) := by decide +kernel
theorem dX7_init_184 : decode cX7_init 184 = .ok (.istore_n 2, 1) := by decide +kernel
theorem dX7_init_185 : decode cX7_init 185 = .ok (.iload_n 2, 1) := by decide +kernel
theorem dX7_init_186 : decode cX7_init 186 = .ok (.ldc 81, 2) := by decide +kernel
theorem dX7_init_188 : decode cX7_init 188 = .ok (.invokevirtual 83, 3) := by decide +kernel
theorem dX7_init_191 : decode cX7_init 191 = .ok (.if_icmp .ge 22, 3) := by decide +kernel
theorem dX7_init_194 : decode cX7_init 194 = .ok (.aload_n 0, 1) := by decide +kernel
theorem dX7_init_195 : decode cX7_init 195 = .ok (.getfield 14, 3) := by decide +kernel
theorem dX7_init_198 : decode cX7_init 198 = .ok (.ldc 81, 2) := by decide +kernel
theorem dX7_init_200 : decode cX7_init 200 = .ok (.iload_n 2, 1) := by decide +kernel
theorem dX7_init_201 : decode cX7_init 201 = .ok (.invokevirtual 89, 3) := by decide +kernel
theorem dX7_init_204 : decode cX7_init 204 = .ok (.invokevirtual 93, 3) := by decide +kernel
theorem dX7_init_207 : decode cX7_init 207 = .ok (.iinc 2 1, 3) := by decide +kernel
theorem dX7_init_210 : decode cX7_init 210 = .ok (.goto (-25), 3) := by decide +kernel
theorem dX7_init_213 : decode cX7_init 213 = .ok (.aload_n 0, 1) := by decide +kernel
theorem dX7_init_214 : decode cX7_init 214 = .ok (.getfield 30, 3) := by decide +kernel
theorem dX7_init_217 : decode cX7_init 217 = .ok (.invokevirtual 96, 3) := by decide +kernel
theorem dX7_init_220 : decode cX7_init 220 = .ok (.pop, 1) := by decide +kernel
theorem dX7_init_221 : decode cX7_init 221 = .ok (.aload_n 0, 1) := by decide +kernel
theorem dX7_init_222 : decode cX7_init 222 = .ok (.getfield 34, 3) := by decide +kernel
theorem dX7_init_225 : decode cX7_init 225 = .ok (.aload_n 0, 1) := by decide +kernel
theorem dX7_init_226 : decode cX7_init 226 = .ok (.getfield 21, 3) := by decide +kernel
theorem dX7_init_229 : decode cX7_init 229 = .ok (.invokevirtual 99, 3) := by decide +kernel
theorem dX7_init_232 : decode cX7_init 232 = .ok (.aload_n 0, 1) := by decide +kernel
theorem dX7_init_233 : decode cX7_init 233 = .ok (.getfield 14, 3) := by decide +kernel
theorem dX7_init_236 : decode cX7_init 236 = .ok (.invokevirtual 102, 3) := by decide +kernel
theorem dX7_init_239 : decode cX7_init 239 = .ok (.return_, 1) := by decide +kernel
theorem dX7_write_0 : decode cX7_write 0 = .ok (.iload_n 1, 1) := by decide +kernel
theorem dX7_write_1 : decode cX7_write 1 = .ok (.bipush 32, 2) := by decide +kernel
theorem dX7_write_3 : decode cX7_write 3 = .ok (.bipush 126, 2) := by decide +kernel
theorem dX7_write_5 : decode cX7_write 5 = .ok (.invokestatic 105, 3) := by decide +kernel
theorem dX7_write_8 : decode cX7_write 8 = .ok (.ifCond .ne 5, 3) := by decide +kernel
theorem dX7_write_11 : decode cX7_write 11 = .ok (.iconst (-1), 1) := by decide +kernel
theorem dX7_write_12 : decode cX7_write 12 = .ok (.ireturn, 1) := by decide +kernel
theorem dX7_write_13 : decode cX7_write 13 = .ok (.aload_n 0, 1) := by decide +kernel
theorem dX7_write_14 : decode cX7_write 14 = .ok (.getfield 14, 3) := by decide +kernel
theorem dX7_write_17 : decode cX7_write 17 = .ok (.invokevirtual 109, 3) := by decide +kernel
theorem dX7_write_20 : decode cX7_write 20 = .ok (.ifCond .eq 6, 3) := by decide +kernel
theorem dX7_write_23 : decode cX7_write 23 = .ok (.bipush (-3), 2) := by decide +kernel
theorem dX7_write_25 : decode cX7_write 25 = .ok (.ireturn, 1) := by decide +kernel
theorem dX7_write_26 : decode cX7_write 26 = .ok (.aload_n 0, 1) := by decide +kernel
theorem dX7_write_27 : decode cX7_write 27 = .ok (.getfield 14, 3) := by decide +kernel
theorem dX7_write_30 : decode cX7_write 30 = .ok (.iload_n 1, 1) := by decide +kernel
theorem dX7_write_31 : decode cX7_write 31 = .ok (.invokevirtual 93, 3) := by decide +kernel
theorem dX7_write_34 : decode cX7_write 34 = .ok (.aload_n 0, 1) := by decide +kernel
theorem dX7_write_35 : decode cX7_write 35 = .ok (.getfield 14, 3) := by decide +kernel
theorem dX7_write_38 : decode cX7_write 38 = .ok (.invokevirtual 113, 3) := by decide +kernel
theorem dX7_write_41 : decode cX7_write 41 = .ok (.ireturn, 1) := by decide +kernel
theorem dX7_wipe_0 : decode cX7_wipe 0 = .ok (.aload_n 0, 1) := by decide +kernel
theorem dX7_wipe_1 : decode cX7_wipe 1 = .ok (.getfield 14, 3) := by decide +kernel
theorem dX7_wipe_4 : decode cX7_wipe 4 = .ok (.invokevirtual 113, 3) := by decide +kernel
theorem dX7_wipe_7 : decode cX7_wipe 7 = .ok (.istore_n 1, 1) := by decide +kernel
theorem dX7_wipe_8 : decode cX7_wipe 8 = .ok (.aload_n 0, 1) := by decide +kernel
theorem dX7_wipe_9 : decode cX7_wipe 9 = .ok (.getfield 14, 3) := by decide +kernel
theorem dX7_wipe_12 : decode cX7_wipe 12 = .ok (.invokevirtual 102, 3) := by decide +kernel
theorem dX7_wipe_15 : decode cX7_wipe 15 = .ok (.iload_n 1, 1) := by decide +kernel
theorem dX7_wipe_16 : decode cX7_wipe 16 = .ok (.ireturn, 1) := by decide +kernel
theorem dX7_fault_0 : decode cX7_fault 0 = .ok (.aload_n 0, 1) := by decide +kernel
theorem dX7_fault_1 : decode cX7_fault 1 = .ok (.getfield 30, 3) := by decide +kernel
theorem dX7_fault_4 : decode cX7_fault 4 = .ok (.invokevirtual 96, 3) := by decide +kernel
theorem dX7_fault_7 : decode cX7_fault 7 = .ok (.ireturn, 1) := by decide +kernel
theorem dX7_lay_0 : decode cX7_lay 0 = .ok (.aload_n 0, 1) := by decide +kernel
theorem dX7_lay_1 : decode cX7_lay 1 = .ok (.getfield 30, 3) := by decide +kernel
theorem dX7_lay_4 : decode cX7_lay 4 = .ok (.invokevirtual 96, 3) := by decide +kernel
theorem dX7_lay_7 : decode cX7_lay 7 = .ok (.bipush (-4), 2) := by decide +kernel
theorem dX7_lay_9 : decode cX7_lay 9 = .ok (.if_icmp .ne 13, 3) := by decide +kernel
theorem dX7_lay_12 : decode cX7_lay 12 = .ok (.aload_n 0, 1) := by decide +kernel
theorem dX7_lay_13 : decode cX7_lay 13 = .ok (.getfield 21, 3) := by decide +kernel
theorem dX7_lay_16 : decode cX7_lay 16 = .ok (.invokevirtual 116, 3) := by decide +kernel
theorem dX7_lay_19 : decode cX7_lay 19 = .ok (.ifCond .ne 6, 3) := by decide +kernel
theorem dX7_lay_22 : decode cX7_lay 22 = .ok (.bipush (-2), 2) := by decide +kernel
theorem dX7_lay_24 : decode cX7_lay 24 = .ok (.ireturn, 1) := by decide +kernel
theorem dX7_lay_25 : decode cX7_lay 25 = .ok (.aload_n 0, 1) := by decide +kernel
theorem dX7_lay_26 : decode cX7_lay 26 = .ok (.getfield 34, 3) := by decide +kernel
theorem dX7_lay_29 : decode cX7_lay 29 = .ok (.aload_n 0, 1) := by decide +kernel
theorem dX7_lay_30 : decode cX7_lay 30 = .ok (.getfield 21, 3) := by decide +kernel
theorem dX7_lay_33 : decode cX7_lay 33 = .ok (.invokevirtual 99, 3) := by decide +kernel
theorem dX7_lay_36 : decode cX7_lay 36 = .ok (.aload_n 0, 1) := by decide +kernel
theorem dX7_lay_37 : decode cX7_lay 37 = .ok (.getfield 40, 3) := by decide +kernel
theorem dX7_lay_40 : decode cX7_lay 40 = .ok (.invokevirtual 119, 3) := by decide +kernel
theorem dX7_lay_43 : decode cX7_lay 43 = .ok (.aload_n 0, 1) := by decide +kernel
theorem dX7_lay_44 : decode cX7_lay 44 = .ok (.getfield 47, 3) := by decide +kernel
theorem dX7_lay_47 : decode cX7_lay 47 = .ok (.invokevirtual 120, 3) := by decide +kernel
theorem dX7_lay_50 : decode cX7_lay 50 = .ok (.aload_n 0, 1) := by decide +kernel
theorem dX7_lay_51 : decode cX7_lay 51 = .ok (.getfield 51, 3) := by decide +kernel
theorem dX7_lay_54 : decode cX7_lay 54 = .ok (.invokevirtual 120, 3) := by decide +kernel
theorem dX7_lay_57 : decode cX7_lay 57 = .ok (.aload_n 0, 1) := by decide +kernel
theorem dX7_lay_58 : decode cX7_lay 58 = .ok (.getfield 54, 3) := by decide +kernel
theorem dX7_lay_61 : decode cX7_lay 61 = .ok (.invokevirtual 102, 3) := by decide +kernel
theorem dX7_lay_64 : decode cX7_lay 64 = .ok (.aload_n 0, 1) := by decide +kernel
theorem dX7_lay_65 : decode cX7_lay 65 = .ok (.getfield 34, 3) := by decide +kernel
theorem dX7_lay_68 : decode cX7_lay 68 = .ok (.invokevirtual 116, 3) := by decide +kernel
theorem dX7_lay_71 : decode cX7_lay 71 = .ok (.ireturn, 1) := by decide +kernel
theorem dX7_kind_0 : decode cX7_kind 0 = .ok (.aload_n 0, 1) := by decide +kernel
theorem dX7_kind_1 : decode cX7_kind 1 = .ok (.getfield 34, 3) := by decide +kernel
theorem dX7_kind_4 : decode cX7_kind 4 = .ok (.iload_n 1, 1) := by decide +kernel
theorem dX7_kind_5 : decode cX7_kind 5 = .ok (.invokevirtual 121, 3) := by decide +kernel
theorem dX7_kind_8 : decode cX7_kind 8 = .ok (.ifCond .ne 5, 3) := by decide +kernel
theorem dX7_kind_11 : decode cX7_kind 11 = .ok (.iconst (-1), 1) := by decide +kernel
theorem dX7_kind_12 : decode cX7_kind 12 = .ok (.ireturn, 1) := by decide +kernel
theorem dX7_kind_13 : decode cX7_kind 13 = .ok (.iload_n 2, 1) := by decide +kernel
theorem dX7_kind_14 : decode cX7_kind 14 = .ok (.tableswitch 110 0 5 #[38, 50, 62, 74, 86, 98], 38) := by decide +kernel
theorem dX7_kind_52 : decode cX7_kind 52 = .ok (.aload_n 0, 1) := by decide +kernel
theorem dX7_kind_53 : decode cX7_kind 53 = .ok (.getfield 34, 3) := by decide +kernel
theorem dX7_kind_56 : decode cX7_kind 56 = .ok (.getfield 125, 3) := by decide +kernel
theorem dX7_kind_59 : decode cX7_kind 59 = .ok (.iload_n 1, 1) := by decide +kernel
theorem dX7_kind_60 : decode cX7_kind 60 = .ok (.invokevirtual 128, 3) := by decide +kernel
theorem dX7_kind_63 : decode cX7_kind 63 = .ok (.ireturn, 1) := by decide +kernel
theorem dX7_kind_64 : decode cX7_kind 64 = .ok (.aload_n 0, 1) := by decide +kernel
theorem dX7_kind_65 : decode cX7_kind 65 = .ok (.getfield 34, 3) := by decide +kernel
theorem dX7_kind_68 : decode cX7_kind 68 = .ok (.getfield 132, 3) := by decide +kernel
theorem dX7_kind_71 : decode cX7_kind 71 = .ok (.iload_n 1, 1) := by decide +kernel
theorem dX7_kind_72 : decode cX7_kind 72 = .ok (.invokevirtual 128, 3) := by decide +kernel
theorem dX7_kind_75 : decode cX7_kind 75 = .ok (.ireturn, 1) := by decide +kernel
theorem dX7_kind_76 : decode cX7_kind 76 = .ok (.aload_n 0, 1) := by decide +kernel
theorem dX7_kind_77 : decode cX7_kind 77 = .ok (.getfield 34, 3) := by decide +kernel
theorem dX7_kind_80 : decode cX7_kind 80 = .ok (.getfield 135, 3) := by decide +kernel
theorem dX7_kind_83 : decode cX7_kind 83 = .ok (.iload_n 1, 1) := by decide +kernel
theorem dX7_kind_84 : decode cX7_kind 84 = .ok (.invokevirtual 128, 3) := by decide +kernel
theorem dX7_kind_87 : decode cX7_kind 87 = .ok (.ireturn, 1) := by decide +kernel
theorem dX7_kind_88 : decode cX7_kind 88 = .ok (.aload_n 0, 1) := by decide +kernel
theorem dX7_kind_89 : decode cX7_kind 89 = .ok (.getfield 34, 3) := by decide +kernel
theorem dX7_kind_92 : decode cX7_kind 92 = .ok (.getfield 138, 3) := by decide +kernel
theorem dX7_kind_95 : decode cX7_kind 95 = .ok (.iload_n 1, 1) := by decide +kernel
theorem dX7_kind_96 : decode cX7_kind 96 = .ok (.invokevirtual 128, 3) := by decide +kernel
theorem dX7_kind_99 : decode cX7_kind 99 = .ok (.ireturn, 1) := by decide +kernel
theorem dX7_kind_100 : decode cX7_kind 100 = .ok (.aload_n 0, 1) := by decide +kernel
theorem dX7_kind_101 : decode cX7_kind 101 = .ok (.getfield 34, 3) := by decide +kernel
theorem dX7_kind_104 : decode cX7_kind 104 = .ok (.getfield 141, 3) := by decide +kernel
theorem dX7_kind_107 : decode cX7_kind 107 = .ok (.iload_n 1, 1) := by decide +kernel
theorem dX7_kind_108 : decode cX7_kind 108 = .ok (.invokevirtual 128, 3) := by decide +kernel
theorem dX7_kind_111 : decode cX7_kind 111 = .ok (.ireturn, 1) := by decide +kernel
theorem dX7_kind_112 : decode cX7_kind 112 = .ok (.aload_n 0, 1) := by decide +kernel
theorem dX7_kind_113 : decode cX7_kind 113 = .ok (.getfield 40, 3) := by decide +kernel
theorem dX7_kind_116 : decode cX7_kind 116 = .ok (.getfield 144, 3) := by decide +kernel
theorem dX7_kind_119 : decode cX7_kind 119 = .ok (.iload_n 1, 1) := by decide +kernel
theorem dX7_kind_120 : decode cX7_kind 120 = .ok (.invokevirtual 128, 3) := by decide +kernel
theorem dX7_kind_123 : decode cX7_kind 123 = .ok (.ireturn, 1) := by decide +kernel
theorem dX7_kind_124 : decode cX7_kind 124 = .ok (.iconst (-1), 1) := by decide +kernel
theorem dX7_kind_125 : decode cX7_kind 125 = .ok (.ireturn, 1) := by decide +kernel
theorem dX7_errand_0 : decode cX7_errand 0 = .ok (.iload_n 1, 1) := by decide +kernel
theorem dX7_errand_1 : decode cX7_errand 1 = .ok (.ifCond .ge 5, 3) := by decide +kernel
theorem dX7_errand_4 : decode cX7_errand 4 = .ok (.iconst (-1), 1) := by decide +kernel
theorem dX7_errand_5 : decode cX7_errand 5 = .ok (.ireturn, 1) := by decide +kernel
theorem dX7_errand_6 : decode cX7_errand 6 = .ok (.iload_n 1, 1) := by decide +kernel
theorem dX7_errand_7 : decode cX7_errand 7 = .ok (.aload_n 0, 1) := by decide +kernel
theorem dX7_errand_8 : decode cX7_errand 8 = .ok (.getfield 34, 3) := by decide +kernel
theorem dX7_errand_11 : decode cX7_errand 11 = .ok (.getfield 147, 3) := by decide +kernel
theorem dX7_errand_14 : decode cX7_errand 14 = .ok (.invokevirtual 113, 3) := by decide +kernel
theorem dX7_errand_17 : decode cX7_errand 17 = .ok (.if_icmp .ge 17, 3) := by decide +kernel
theorem dX7_errand_20 : decode cX7_errand 20 = .ok (.aload_n 0, 1) := by decide +kernel
theorem dX7_errand_21 : decode cX7_errand 21 = .ok (.getfield 34, 3) := by decide +kernel
theorem dX7_errand_24 : decode cX7_errand 24 = .ok (.getfield 147, 3) := by decide +kernel
theorem dX7_errand_27 : decode cX7_errand 27 = .ok (.iload_n 1, 1) := by decide +kernel
theorem dX7_errand_28 : decode cX7_errand 28 = .ok (.invokevirtual 128, 3) := by decide +kernel
theorem dX7_errand_31 : decode cX7_errand 31 = .ok (.goto 5, 3) := by decide +kernel
theorem dX7_errand_34 : decode cX7_errand 34 = .ok (.bipush (-4), 2) := by decide +kernel
theorem dX7_errand_36 : decode cX7_errand 36 = .ok (.ireturn, 1) := by decide +kernel
theorem dX7_word_0 : decode cX7_word 0 = .ok (.iload_n 1, 1) := by decide +kernel
theorem dX7_word_1 : decode cX7_word 1 = .ok (.ifCond .ge 5, 3) := by decide +kernel
theorem dX7_word_4 : decode cX7_word 4 = .ok (.iconst (-1), 1) := by decide +kernel
theorem dX7_word_5 : decode cX7_word 5 = .ok (.ireturn, 1) := by decide +kernel
theorem dX7_word_6 : decode cX7_word 6 = .ok (.aload_n 0, 1) := by decide +kernel
theorem dX7_word_7 : decode cX7_word 7 = .ok (.getfield 40, 3) := by decide +kernel
theorem dX7_word_10 : decode cX7_word 10 = .ok (.getfield 150, 3) := by decide +kernel
theorem dX7_word_13 : decode cX7_word 13 = .ok (.invokevirtual 113, 3) := by decide +kernel
theorem dX7_word_16 : decode cX7_word 16 = .ok (.istore_n 2, 1) := by decide +kernel
theorem dX7_word_17 : decode cX7_word 17 = .ok (.iload_n 1, 1) := by decide +kernel
theorem dX7_word_18 : decode cX7_word 18 = .ok (.iload_n 2, 1) := by decide +kernel
theorem dX7_word_19 : decode cX7_word 19 = .ok (.if_icmp .ge 21, 3) := by decide +kernel
theorem dX7_word_22 : decode cX7_word 22 = .ok (.aload_n 0, 1) := by decide +kernel
theorem dX7_word_23 : decode cX7_word 23 = .ok (.getfield 40, 3) := by decide +kernel
theorem dX7_word_26 : decode cX7_word 26 = .ok (.getfield 150, 3) := by decide +kernel
theorem dX7_word_29 : decode cX7_word 29 = .ok (.iload_n 2, 1) := by decide +kernel
theorem dX7_word_30 : decode cX7_word 30 = .ok (.iconst 1, 1) := by decide +kernel
theorem dX7_word_31 : decode cX7_word 31 = .ok (.isub, 1) := by decide +kernel
theorem dX7_word_32 : decode cX7_word 32 = .ok (.iload_n 1, 1) := by decide +kernel
theorem dX7_word_33 : decode cX7_word 33 = .ok (.isub, 1) := by decide +kernel
theorem dX7_word_34 : decode cX7_word 34 = .ok (.invokevirtual 128, 3) := by decide +kernel
theorem dX7_word_37 : decode cX7_word 37 = .ok (.goto 5, 3) := by decide +kernel
theorem dX7_word_40 : decode cX7_word 40 = .ok (.bipush (-4), 2) := by decide +kernel
theorem dX7_word_42 : decode cX7_word 42 = .ok (.ireturn, 1) := by decide +kernel
theorem dX7_unlike_0 : decode cX7_unlike 0 = .ok (.aload_n 0, 1) := by decide +kernel
theorem dX7_unlike_1 : decode cX7_unlike 1 = .ok (.getfield 34, 3) := by decide +kernel
theorem dX7_unlike_4 : decode cX7_unlike 4 = .ok (.iload_n 1, 1) := by decide +kernel
theorem dX7_unlike_5 : decode cX7_unlike 5 = .ok (.invokevirtual 121, 3) := by decide +kernel
theorem dX7_unlike_8 : decode cX7_unlike 8 = .ok (.ifCond .eq 14, 3) := by decide +kernel
theorem dX7_unlike_11 : decode cX7_unlike 11 = .ok (.aload_n 0, 1) := by decide +kernel
theorem dX7_unlike_12 : decode cX7_unlike 12 = .ok (.getfield 34, 3) := by decide +kernel
theorem dX7_unlike_15 : decode cX7_unlike 15 = .ok (.iload_n 2, 1) := by decide +kernel
theorem dX7_unlike_16 : decode cX7_unlike 16 = .ok (.invokevirtual 121, 3) := by decide +kernel
theorem dX7_unlike_19 : decode cX7_unlike 19 = .ok (.ifCond .ne 5, 3) := by decide +kernel
theorem dX7_unlike_22 : decode cX7_unlike 22 = .ok (.iconst (-1), 1) := by decide +kernel
theorem dX7_unlike_23 : decode cX7_unlike 23 = .ok (.ireturn, 1) := by decide +kernel
theorem dX7_unlike_24 : decode cX7_unlike 24 = .ok (.aload_n 0, 1) := by decide +kernel
theorem dX7_unlike_25 : decode cX7_unlike 25 = .ok (.getfield 34, 3) := by decide +kernel
theorem dX7_unlike_28 : decode cX7_unlike 28 = .ok (.getfield 125, 3) := by decide +kernel
theorem dX7_unlike_31 : decode cX7_unlike 31 = .ok (.iload_n 1, 1) := by decide +kernel
theorem dX7_unlike_32 : decode cX7_unlike 32 = .ok (.invokevirtual 128, 3) := by decide +kernel
theorem dX7_unlike_35 : decode cX7_unlike 35 = .ok (.aload_n 0, 1) := by decide +kernel
theorem dX7_unlike_36 : decode cX7_unlike 36 = .ok (.getfield 34, 3) := by decide +kernel
theorem dX7_unlike_39 : decode cX7_unlike 39 = .ok (.getfield 125, 3) := by decide +kernel
theorem dX7_unlike_42 : decode cX7_unlike 42 = .ok (.iload_n 2, 1) := by decide +kernel
theorem dX7_unlike_43 : decode cX7_unlike 43 = .ok (.invokevirtual 128, 3) := by decide +kernel
theorem dX7_unlike_46 : decode cX7_unlike 46 = .ok (.invokestatic 153, 3) := by decide +kernel
theorem dX7_unlike_49 : decode cX7_unlike 49 = .ok (.ireturn, 1) := by decide +kernel
theorem dX7_does_0 : decode cX7_does 0 = .ok (.iload_n 1, 1) := by decide +kernel
theorem dX7_does_1 : decode cX7_does 1 = .ok (.invokestatic 157, 3) := by decide +kernel
theorem dX7_does_4 : decode cX7_does 4 = .ok (.ifCond .eq 26, 3) := by decide +kernel
theorem dX7_does_7 : decode cX7_does 7 = .ok (.aload_n 0, 1) := by decide +kernel
theorem dX7_does_8 : decode cX7_does 8 = .ok (.getfield 34, 3) := by decide +kernel
theorem dX7_does_11 : decode cX7_does 11 = .ok (.iload_n 2, 1) := by decide +kernel
theorem dX7_does_12 : decode cX7_does 12 = .ok (.invokevirtual 121, 3) := by decide +kernel
theorem dX7_does_15 : decode cX7_does 15 = .ok (.ifCond .eq 15, 3) := by decide +kernel
theorem dX7_does_18 : decode cX7_does 18 = .ok (.aload_n 0, 1) := by decide +kernel
theorem dX7_does_19 : decode cX7_does 19 = .ok (.iload_n 1, 1) := by decide +kernel
theorem dX7_does_20 : decode cX7_does 20 = .ok (.invokevirtual 160, 3) := by decide +kernel
theorem dX7_does_23 : decode cX7_does 23 = .ok (.iload_n 2, 1) := by decide +kernel
theorem dX7_does_24 : decode cX7_does 24 = .ok (.invokevirtual 164, 3) := by decide +kernel
theorem dX7_does_27 : decode cX7_does 27 = .ok (.goto 4, 3) := by decide +kernel
theorem dX7_does_30 : decode cX7_does 30 = .ok (.iconst (-1), 1) := by decide +kernel
theorem dX7_does_31 : decode cX7_does 31 = .ok (.ireturn, 1) := by decide +kernel
theorem dX7_hand_0 : decode cX7_hand 0 = .ok (.aload_n 0, 1) := by decide +kernel
theorem dX7_hand_1 : decode cX7_hand 1 = .ok (.getfield 34, 3) := by decide +kernel
theorem dX7_hand_4 : decode cX7_hand 4 = .ok (.iload_n 1, 1) := by decide +kernel
theorem dX7_hand_5 : decode cX7_hand 5 = .ok (.invokevirtual 121, 3) := by decide +kernel
theorem dX7_hand_8 : decode cX7_hand 8 = .ok (.ifCond .ne 5, 3) := by decide +kernel
theorem dX7_hand_11 : decode cX7_hand 11 = .ok (.iconst (-1), 1) := by decide +kernel
theorem dX7_hand_12 : decode cX7_hand 12 = .ok (.ireturn, 1) := by decide +kernel
theorem dX7_hand_13 : decode cX7_hand 13 = .ok (.aload_n 0, 1) := by decide +kernel
theorem dX7_hand_14 : decode cX7_hand 14 = .ok (.aload_n 0, 1) := by decide +kernel
theorem dX7_hand_15 : decode cX7_hand 15 = .ok (.getfield 34, 3) := by decide +kernel
theorem dX7_hand_18 : decode cX7_hand 18 = .ok (.getfield 167, 3) := by decide +kernel
theorem dX7_hand_21 : decode cX7_hand 21 = .ok (.invokevirtual 160, 3) := by decide +kernel
theorem dX7_hand_24 : decode cX7_hand 24 = .ok (.iload_n 1, 1) := by decide +kernel
theorem dX7_hand_25 : decode cX7_hand 25 = .ok (.invokevirtual 164, 3) := by decide +kernel
theorem dX7_hand_28 : decode cX7_hand 28 = .ok (.istore_n 2, 1) := by decide +kernel
theorem dX7_hand_29 : decode cX7_hand 29 = .ok (.aload_n 0, 1) := by decide +kernel
theorem dX7_hand_30 : decode cX7_hand 30 = .ok (.getfield 47, 3) := by decide +kernel
theorem dX7_hand_33 : decode cX7_hand 33 = .ok (.aload_n 0, 1) := by decide +kernel
theorem dX7_hand_34 : decode cX7_hand 34 = .ok (.getfield 40, 3) := by decide +kernel
theorem dX7_hand_37 : decode cX7_hand 37 = .ok (.invokevirtual 171, 3) := by decide +kernel
theorem dX7_hand_40 : decode cX7_hand 40 = .ok (.aload_n 0, 1) := by decide +kernel
theorem dX7_hand_41 : decode cX7_hand 41 = .ok (.getfield 40, 3) := by decide +kernel
theorem dX7_hand_44 : decode cX7_hand 44 = .ok (.aload_n 0, 1) := by decide +kernel
theorem dX7_hand_45 : decode cX7_hand 45 = .ok (.getfield 34, 3) := by decide +kernel
theorem dX7_hand_48 : decode cX7_hand 48 = .ok (.iload_n 1, 1) := by decide +kernel
theorem dX7_hand_49 : decode cX7_hand 49 = .ok (.iload_n 2, 1) := by decide +kernel
theorem dX7_hand_50 : decode cX7_hand 50 = .ok (.invokevirtual 174, 3) := by decide +kernel
theorem dX7_hand_53 : decode cX7_hand 53 = .ok (.aload_n 0, 1) := by decide +kernel
theorem dX7_hand_54 : decode cX7_hand 54 = .ok (.getfield 34, 3) := by decide +kernel
theorem dX7_hand_57 : decode cX7_hand 57 = .ok (.iload_n 1, 1) := by decide +kernel
theorem dX7_hand_58 : decode cX7_hand 58 = .ok (.iload_n 2, 1) := by decide +kernel
theorem dX7_hand_59 : decode cX7_hand 59 = .ok (.invokevirtual 178, 3) := by decide +kernel
theorem dX7_hand_62 : decode cX7_hand 62 = .ok (.ireturn, 1) := by decide +kernel
theorem dX7_teach_0 : decode cX7_teach 0 = .ok (.aload_n 0, 1) := by decide +kernel
theorem dX7_teach_1 : decode cX7_teach 1 = .ok (.getfield 34, 3) := by decide +kernel
theorem dX7_teach_4 : decode cX7_teach 4 = .ok (.iload_n 1, 1) := by decide +kernel
theorem dX7_teach_5 : decode cX7_teach 5 = .ok (.invokevirtual 121, 3) := by decide +kernel
theorem dX7_teach_8 : decode cX7_teach 8 = .ok (.ifCond .eq 10, 3) := by decide +kernel
theorem dX7_teach_11 : decode cX7_teach 11 = .ok (.iload_n 2, 1) := by decide +kernel
theorem dX7_teach_12 : decode cX7_teach 12 = .ok (.invokestatic 181, 3) := by decide +kernel
theorem dX7_teach_15 : decode cX7_teach 15 = .ok (.ifCond .ne 5, 3) := by decide +kernel
theorem dX7_teach_18 : decode cX7_teach 18 = .ok (.iconst (-1), 1) := by decide +kernel
theorem dX7_teach_19 : decode cX7_teach 19 = .ok (.ireturn, 1) := by decide +kernel
theorem dX7_teach_20 : decode cX7_teach 20 = .ok (.aload_n 0, 1) := by decide +kernel
theorem dX7_teach_21 : decode cX7_teach 21 = .ok (.getfield 47, 3) := by decide +kernel
theorem dX7_teach_24 : decode cX7_teach 24 = .ok (.aload_n 0, 1) := by decide +kernel
theorem dX7_teach_25 : decode cX7_teach 25 = .ok (.getfield 40, 3) := by decide +kernel
theorem dX7_teach_28 : decode cX7_teach 28 = .ok (.invokevirtual 171, 3) := by decide +kernel
theorem dX7_teach_31 : decode cX7_teach 31 = .ok (.aload_n 0, 1) := by decide +kernel
theorem dX7_teach_32 : decode cX7_teach 32 = .ok (.getfield 40, 3) := by decide +kernel
theorem dX7_teach_35 : decode cX7_teach 35 = .ok (.iload_n 1, 1) := by decide +kernel
theorem dX7_teach_36 : decode cX7_teach 36 = .ok (.iload_n 2, 1) := by decide +kernel
theorem dX7_teach_37 : decode cX7_teach 37 = .ok (.invokevirtual 184, 3) := by decide +kernel
theorem dX7_teach_40 : decode cX7_teach 40 = .ok (.aload_n 0, 1) := by decide +kernel
theorem dX7_teach_41 : decode cX7_teach 41 = .ok (.getfield 40, 3) := by decide +kernel
theorem dX7_teach_44 : decode cX7_teach 44 = .ok (.getfield 150, 3) := by decide +kernel
theorem dX7_teach_47 : decode cX7_teach 47 = .ok (.invokevirtual 113, 3) := by decide +kernel
theorem dX7_teach_50 : decode cX7_teach 50 = .ok (.ireturn, 1) := by decide +kernel
theorem dX7_undo_0 : decode cX7_undo 0 = .ok (.aload_n 0, 1) := by decide +kernel
theorem dX7_undo_1 : decode cX7_undo 1 = .ok (.getfield 47, 3) := by decide +kernel
theorem dX7_undo_4 : decode cX7_undo 4 = .ok (.invokevirtual 188, 3) := by decide +kernel
theorem dX7_undo_7 : decode cX7_undo 7 = .ok (.ifCond .ne 6, 3) := by decide +kernel
theorem dX7_undo_10 : decode cX7_undo 10 = .ok (.bipush (-2), 2) := by decide +kernel
theorem dX7_undo_12 : decode cX7_undo 12 = .ok (.ireturn, 1) := by decide +kernel
theorem dX7_undo_13 : decode cX7_undo 13 = .ok (.aload_n 0, 1) := by decide +kernel
theorem dX7_undo_14 : decode cX7_undo 14 = .ok (.getfield 47, 3) := by decide +kernel
theorem dX7_undo_17 : decode cX7_undo 17 = .ok (.aload_n 0, 1) := by decide +kernel
theorem dX7_undo_18 : decode cX7_undo 18 = .ok (.getfield 40, 3) := by decide +kernel
theorem dX7_undo_21 : decode cX7_undo 21 = .ok (.invokevirtual 189, 3) := by decide +kernel
theorem dX7_undo_24 : decode cX7_undo 24 = .ok (.aload_n 0, 1) := by decide +kernel
theorem dX7_undo_25 : decode cX7_undo 25 = .ok (.getfield 47, 3) := by decide +kernel
theorem dX7_undo_28 : decode cX7_undo 28 = .ok (.invokevirtual 188, 3) := by decide +kernel
theorem dX7_undo_31 : decode cX7_undo 31 = .ok (.ireturn, 1) := by decide +kernel
theorem dX7_tell_0 : decode cX7_tell 0 = .ok (.aload_n 0, 1) := by decide +kernel
theorem dX7_tell_1 : decode cX7_tell 1 = .ok (.getfield 34, 3) := by decide +kernel
theorem dX7_tell_4 : decode cX7_tell 4 = .ok (.iload_n 1, 1) := by decide +kernel
theorem dX7_tell_5 : decode cX7_tell 5 = .ok (.invokevirtual 121, 3) := by decide +kernel
theorem dX7_tell_8 : decode cX7_tell 8 = .ok (.ifCond .ne 5, 3) := by decide +kernel
theorem dX7_tell_11 : decode cX7_tell 11 = .ok (.iconst (-1), 1) := by decide +kernel
theorem dX7_tell_12 : decode cX7_tell 12 = .ok (.ireturn, 1) := by decide +kernel
theorem dX7_tell_13 : decode cX7_tell 13 = .ok (.aload_n 0, 1) := by decide +kernel
theorem dX7_tell_14 : decode cX7_tell 14 = .ok (.getfield 34, 3) := by decide +kernel
theorem dX7_tell_17 : decode cX7_tell 17 = .ok (.getfield 147, 3) := by decide +kernel
theorem dX7_tell_20 : decode cX7_tell 20 = .ok (.invokevirtual 109, 3) := by decide +kernel
theorem dX7_tell_23 : decode cX7_tell 23 = .ok (.ifCond .eq 6, 3) := by decide +kernel
theorem dX7_tell_26 : decode cX7_tell 26 = .ok (.bipush (-3), 2) := by decide +kernel
theorem dX7_tell_28 : decode cX7_tell 28 = .ok (.ireturn, 1) := by decide +kernel
theorem dX7_tell_29 : decode cX7_tell 29 = .ok (.aload_n 0, 1) := by decide +kernel
theorem dX7_tell_30 : decode cX7_tell 30 = .ok (.getfield 34, 3) := by decide +kernel
theorem dX7_tell_33 : decode cX7_tell 33 = .ok (.getfield 147, 3) := by decide +kernel
theorem dX7_tell_36 : decode cX7_tell 36 = .ok (.iload_n 1, 1) := by decide +kernel
theorem dX7_tell_37 : decode cX7_tell 37 = .ok (.invokevirtual 93, 3) := by decide +kernel
theorem dX7_tell_40 : decode cX7_tell 40 = .ok (.aload_n 0, 1) := by decide +kernel
theorem dX7_tell_41 : decode cX7_tell 41 = .ok (.getfield 34, 3) := by decide +kernel
theorem dX7_tell_44 : decode cX7_tell 44 = .ok (.getfield 147, 3) := by decide +kernel
theorem dX7_tell_47 : decode cX7_tell 47 = .ok (.invokevirtual 113, 3) := by decide +kernel
theorem dX7_tell_50 : decode cX7_tell 50 = .ok (.ireturn, 1) := by decide +kernel
theorem dX7_noRow_0 : decode cX7_noRow 0 = .ok (.aload_n 0, 1) := by decide +kernel
theorem dX7_noRow_1 : decode cX7_noRow 1 = .ok (.getfield 34, 3) := by decide +kernel
theorem dX7_noRow_4 : decode cX7_noRow 4 = .ok (.getfield 147, 3) := by decide +kernel
theorem dX7_noRow_7 : decode cX7_noRow 7 = .ok (.invokevirtual 113, 3) := by decide +kernel
theorem dX7_noRow_10 : decode cX7_noRow 10 = .ok (.istore_n 1, 1) := by decide +kernel
theorem dX7_noRow_11 : decode cX7_noRow 11 = .ok (.aload_n 0, 1) := by decide +kernel
theorem dX7_noRow_12 : decode cX7_noRow 12 = .ok (.getfield 34, 3) := by decide +kernel
theorem dX7_noRow_15 : decode cX7_noRow 15 = .ok (.getfield 147, 3) := by decide +kernel
theorem dX7_noRow_18 : decode cX7_noRow 18 = .ok (.invokevirtual 102, 3) := by decide +kernel
theorem dX7_noRow_21 : decode cX7_noRow 21 = .ok (.aload_n 0, 1) := by decide +kernel
theorem dX7_noRow_22 : decode cX7_noRow 22 = .ok (.getfield 54, 3) := by decide +kernel
theorem dX7_noRow_25 : decode cX7_noRow 25 = .ok (.invokevirtual 102, 3) := by decide +kernel
theorem dX7_noRow_28 : decode cX7_noRow 28 = .ok (.iload_n 1, 1) := by decide +kernel
theorem dX7_noRow_29 : decode cX7_noRow 29 = .ok (.ireturn, 1) := by decide +kernel
theorem dX7_run_0 : decode cX7_run 0 = .ok (.iload_n 1, 1) := by decide +kernel
theorem dX7_run_1 : decode cX7_run 1 = .ok (.invokestatic 157, 3) := by decide +kernel
theorem dX7_run_4 : decode cX7_run 4 = .ok (.ifCond .eq 32, 3) := by decide +kernel
theorem dX7_run_7 : decode cX7_run 7 = .ok (.iload_n 2, 1) := by decide +kernel
theorem dX7_run_8 : decode cX7_run 8 = .ok (.iconst (-1), 1) := by decide +kernel
theorem dX7_run_9 : decode cX7_run 9 = .ok (.aload_n 0, 1) := by decide +kernel
theorem dX7_run_10 : decode cX7_run 10 = .ok (.getfield 34, 3) := by decide +kernel
theorem dX7_run_13 : decode cX7_run 13 = .ok (.getfield 147, 3) := by decide +kernel
theorem dX7_run_16 : decode cX7_run 16 = .ok (.invokevirtual 113, 3) := by decide +kernel
theorem dX7_run_19 : decode cX7_run 19 = .ok (.iconst 1, 1) := by decide +kernel
theorem dX7_run_20 : decode cX7_run 20 = .ok (.isub, 1) := by decide +kernel
theorem dX7_run_21 : decode cX7_run 21 = .ok (.invokestatic 105, 3) := by decide +kernel
theorem dX7_run_24 : decode cX7_run 24 = .ok (.ifCond .eq 12, 3) := by decide +kernel
theorem dX7_run_27 : decode cX7_run 27 = .ok (.iload_n 3, 1) := by decide +kernel
theorem dX7_run_28 : decode cX7_run 28 = .ok (.iconst 0, 1) := by decide +kernel
theorem dX7_run_29 : decode cX7_run 29 = .ok (.iconst 1, 1) := by decide +kernel
theorem dX7_run_30 : decode cX7_run 30 = .ok (.invokestatic 105, 3) := by decide +kernel
theorem dX7_run_33 : decode cX7_run 33 = .ok (.ifCond .ne 5, 3) := by decide +kernel
theorem dX7_run_36 : decode cX7_run 36 = .ok (.iconst (-1), 1) := by decide +kernel
theorem dX7_run_37 : decode cX7_run 37 = .ok (.ireturn, 1) := by decide +kernel
theorem dX7_run_38 : decode cX7_run 38 = .ok (.aload_n 0, 1) := by decide +kernel
theorem dX7_run_39 : decode cX7_run 39 = .ok (.iload_n 1, 1) := by decide +kernel
theorem dX7_run_40 : decode cX7_run 40 = .ok (.invokevirtual 160, 3) := by decide +kernel
theorem dX7_run_43 : decode cX7_run 43 = .ok (.astore 4, 2) := by decide +kernel
theorem dX7_run_45 : decode cX7_run 45 = .ok (.iload_n 2, 1) := by decide +kernel
theorem dX7_run_46 : decode cX7_run 46 = .ok (.iconst (-1), 1) := by decide +kernel
theorem dX7_run_47 : decode cX7_run 47 = .ok (.if_icmp .ne 21, 3) := by decide +kernel
theorem dX7_run_50 : decode cX7_run 50 = .ok (.iload_n 3, 1) := by decide +kernel
theorem dX7_run_51 : decode cX7_run 51 = .ok (.ifCond .ne 11, 3) := by decide +kernel
theorem dX7_run_54 : decode cX7_run 54 = .ok (.aload 4, 2) := by decide +kernel
theorem dX7_run_56 : decode cX7_run 56 = .ok (.invokevirtual 192, 3) := by decide +kernel
theorem dX7_run_59 : decode cX7_run 59 = .ok (.goto 8, 3) := by decide +kernel
theorem dX7_run_62 : decode cX7_run 62 = .ok (.aload 4, 2) := by decide +kernel
theorem dX7_run_64 : decode cX7_run 64 = .ok (.invokevirtual 195, 3) := by decide +kernel
theorem dX7_run_67 : decode cX7_run 67 = .ok (.ireturn, 1) := by decide +kernel
theorem dX7_run_68 : decode cX7_run 68 = .ok (.iconst 0, 1) := by decide +kernel
theorem dX7_run_69 : decode cX7_run 69 = .ok (.istore 5, 2) := by decide +kernel
theorem dX7_run_71 : decode cX7_run 71 = .ok (.iload 5, 2) := by decide +kernel
theorem dX7_run_73 : decode cX7_run 73 = .ok (.iload_n 2, 1) := by decide +kernel
theorem dX7_run_74 : decode cX7_run 74 = .ok (.if_icmp .ge 27, 3) := by decide +kernel
theorem dX7_run_77 : decode cX7_run 77 = .ok (.aload 4, 2) := by decide +kernel
theorem dX7_run_79 : decode cX7_run 79 = .ok (.aload_n 0, 1) := by decide +kernel
theorem dX7_run_80 : decode cX7_run 80 = .ok (.getfield 34, 3) := by decide +kernel
theorem dX7_run_83 : decode cX7_run 83 = .ok (.getfield 147, 3) := by decide +kernel
theorem dX7_run_86 : decode cX7_run 86 = .ok (.iload 5, 2) := by decide +kernel
theorem dX7_run_88 : decode cX7_run 88 = .ok (.invokevirtual 128, 3) := by decide +kernel
theorem dX7_run_91 : decode cX7_run 91 = .ok (.invokevirtual 198, 3) := by decide +kernel
theorem dX7_run_94 : decode cX7_run 94 = .ok (.pop, 1) := by decide +kernel
theorem dX7_run_95 : decode cX7_run 95 = .ok (.iinc 5 1, 3) := by decide +kernel
theorem dX7_run_98 : decode cX7_run 98 = .ok (.goto (-27), 3) := by decide +kernel
theorem dX7_run_101 : decode cX7_run 101 = .ok (.aload_n 0, 1) := by decide +kernel
theorem dX7_run_102 : decode cX7_run 102 = .ok (.getfield 34, 3) := by decide +kernel
theorem dX7_run_105 : decode cX7_run 105 = .ok (.getfield 147, 3) := by decide +kernel
theorem dX7_run_108 : decode cX7_run 108 = .ok (.iload_n 2, 1) := by decide +kernel
theorem dX7_run_109 : decode cX7_run 109 = .ok (.invokevirtual 128, 3) := by decide +kernel
theorem dX7_run_112 : decode cX7_run 112 = .ok (.istore 5, 2) := by decide +kernel
theorem dX7_run_114 : decode cX7_run 114 = .ok (.aload 4, 2) := by decide +kernel
theorem dX7_run_116 : decode cX7_run 116 = .ok (.iload 5, 2) := by decide +kernel
theorem dX7_run_118 : decode cX7_run 118 = .ok (.invokevirtual 164, 3) := by decide +kernel
theorem dX7_run_121 : decode cX7_run 121 = .ok (.istore 6, 2) := by decide +kernel
theorem dX7_run_123 : decode cX7_run 123 = .ok (.iload_n 3, 1) := by decide +kernel
theorem dX7_run_124 : decode cX7_run 124 = .ok (.ifCond .ne 8, 3) := by decide +kernel
theorem dX7_run_127 : decode cX7_run 127 = .ok (.iload 6, 2) := by decide +kernel
theorem dX7_run_129 : decode cX7_run 129 = .ok (.goto 14, 3) := by decide +kernel
theorem dX7_run_132 : decode cX7_run 132 = .ok (.aload_n 0, 1) := by decide +kernel
theorem dX7_run_133 : decode cX7_run 133 = .ok (.getfield 34, 3) := by decide +kernel
theorem dX7_run_136 : decode cX7_run 136 = .ok (.iload 5, 2) := by decide +kernel
theorem dX7_run_138 : decode cX7_run 138 = .ok (.iload 6, 2) := by decide +kernel
theorem dX7_run_140 : decode cX7_run 140 = .ok (.invokevirtual 178, 3) := by decide +kernel
theorem dX7_run_143 : decode cX7_run 143 = .ok (.ireturn, 1) := by decide +kernel
theorem dX7_round_0 : decode cX7_round 0 = .ok (.aload_n 0, 1) := by decide +kernel
theorem dX7_round_1 : decode cX7_round 1 = .ok (.getfield 34, 3) := by decide +kernel
theorem dX7_round_4 : decode cX7_round 4 = .ok (.getfield 147, 3) := by decide +kernel
theorem dX7_round_7 : decode cX7_round 7 = .ok (.invokevirtual 113, 3) := by decide +kernel
theorem dX7_round_10 : decode cX7_round 10 = .ok (.ifCond .ne 6, 3) := by decide +kernel
theorem dX7_round_13 : decode cX7_round 13 = .ok (.bipush (-4), 2) := by decide +kernel
theorem dX7_round_15 : decode cX7_round 15 = .ok (.ireturn, 1) := by decide +kernel
theorem dX7_round_16 : decode cX7_round 16 = .ok (.aload_n 0, 1) := by decide +kernel
theorem dX7_round_17 : decode cX7_round 17 = .ok (.aload_n 0, 1) := by decide +kernel
theorem dX7_round_18 : decode cX7_round 18 = .ok (.aload_n 0, 1) := by decide +kernel
theorem dX7_round_19 : decode cX7_round 19 = .ok (.getfield 34, 3) := by decide +kernel
theorem dX7_round_22 : decode cX7_round 22 = .ok (.getfield 167, 3) := by decide +kernel
theorem dX7_round_25 : decode cX7_round 25 = .ok (.invokevirtual 160, 3) := by decide +kernel
theorem dX7_round_28 : decode cX7_round 28 = .ok (.invokevirtual 201, 3) := by decide +kernel
theorem dX7_round_31 : decode cX7_round 31 = .ok (.iconst 1, 1) := by decide +kernel
theorem dX7_round_32 : decode cX7_round 32 = .ok (.istore_n 1, 1) := by decide +kernel
theorem dX7_round_33 : decode cX7_round 33 = .ok (.iload_n 1, 1) := by decide +kernel
theorem dX7_round_34 : decode cX7_round 34 = .ok (.bipush 20, 2) := by decide +kernel
theorem dX7_round_36 : decode cX7_round 36 = .ok (.if_icmp .gt 19, 3) := by decide +kernel
theorem dX7_round_39 : decode cX7_round 39 = .ok (.aload_n 0, 1) := by decide +kernel
theorem dX7_round_40 : decode cX7_round 40 = .ok (.iload_n 1, 1) := by decide +kernel
theorem dX7_round_41 : decode cX7_round 41 = .ok (.invokevirtual 205, 3) := by decide +kernel
theorem dX7_round_44 : decode cX7_round 44 = .ok (.ifCond .eq 5, 3) := by decide +kernel
theorem dX7_round_47 : decode cX7_round 47 = .ok (.iload_n 1, 1) := by decide +kernel
theorem dX7_round_48 : decode cX7_round 48 = .ok (.ireturn, 1) := by decide +kernel
theorem dX7_round_49 : decode cX7_round 49 = .ok (.iinc 1 1, 3) := by decide +kernel
theorem dX7_round_52 : decode cX7_round 52 = .ok (.goto (-19), 3) := by decide +kernel
theorem dX7_round_55 : decode cX7_round 55 = .ok (.bipush (-4), 2) := by decide +kernel
theorem dX7_round_57 : decode cX7_round 57 = .ok (.ireturn, 1) := by decide +kernel
theorem dX7_order_0 : decode cX7_order 0 = .ok (.aload_n 0, 1) := by decide +kernel
theorem dX7_order_1 : decode cX7_order 1 = .ok (.getfield 34, 3) := by decide +kernel
theorem dX7_order_4 : decode cX7_order 4 = .ok (.getfield 147, 3) := by decide +kernel
theorem dX7_order_7 : decode cX7_order 7 = .ok (.invokevirtual 113, 3) := by decide +kernel
theorem dX7_order_10 : decode cX7_order 10 = .ok (.istore_n 2, 1) := by decide +kernel
theorem dX7_order_11 : decode cX7_order 11 = .ok (.iload_n 1, 1) := by decide +kernel
theorem dX7_order_12 : decode cX7_order 12 = .ok (.iconst (-1), 1) := by decide +kernel
theorem dX7_order_13 : decode cX7_order 13 = .ok (.iload_n 2, 1) := by decide +kernel
theorem dX7_order_14 : decode cX7_order 14 = .ok (.iconst 1, 1) := by decide +kernel
theorem dX7_order_15 : decode cX7_order 15 = .ok (.isub, 1) := by decide +kernel
theorem dX7_order_16 : decode cX7_order 16 = .ok (.invokestatic 105, 3) := by decide +kernel
theorem dX7_order_19 : decode cX7_order 19 = .ok (.ifCond .ne 5, 3) := by decide +kernel
theorem dX7_order_22 : decode cX7_order 22 = .ok (.iconst (-1), 1) := by decide +kernel
theorem dX7_order_23 : decode cX7_order 23 = .ok (.ireturn, 1) := by decide +kernel
theorem dX7_order_24 : decode cX7_order 24 = .ok (.iload_n 2, 1) := by decide +kernel
theorem dX7_order_25 : decode cX7_order 25 = .ok (.bipush 7, 2) := by decide +kernel
theorem dX7_order_27 : decode cX7_order 27 = .ok (.if_icmp .le 6, 3) := by decide +kernel
theorem dX7_order_30 : decode cX7_order 30 = .ok (.bipush (-2), 2) := by decide +kernel
theorem dX7_order_32 : decode cX7_order 32 = .ok (.ireturn, 1) := by decide +kernel
theorem dX7_order_33 : decode cX7_order 33 = .ok (.aload_n 0, 1) := by decide +kernel
theorem dX7_order_34 : decode cX7_order 34 = .ok (.getfield 77, 3) := by decide +kernel
theorem dX7_order_37 : decode cX7_order 37 = .ok (.aload_n 0, 1) := by decide +kernel
theorem dX7_order_38 : decode cX7_order 38 = .ok (.aload_n 0, 1) := by decide +kernel
theorem dX7_order_39 : decode cX7_order 39 = .ok (.getfield 34, 3) := by decide +kernel
theorem dX7_order_42 : decode cX7_order 42 = .ok (.getfield 167, 3) := by decide +kernel
theorem dX7_order_45 : decode cX7_order 45 = .ok (.invokevirtual 160, 3) := by decide +kernel
theorem dX7_order_48 : decode cX7_order 48 = .ok (.invokevirtual 208, 3) := by decide +kernel
theorem dX7_order_51 : decode cX7_order 51 = .ok (.iload_n 1, 1) := by decide +kernel
theorem dX7_order_52 : decode cX7_order 52 = .ok (.iconst (-1), 1) := by decide +kernel
theorem dX7_order_53 : decode cX7_order 53 = .ok (.if_icmp .ne 13, 3) := by decide +kernel
theorem dX7_order_56 : decode cX7_order 56 = .ok (.aload_n 0, 1) := by decide +kernel
theorem dX7_order_57 : decode cX7_order 57 = .ok (.getfield 77, 3) := by decide +kernel
theorem dX7_order_60 : decode cX7_order 60 = .ok (.getfield 211, 3) := by decide +kernel
theorem dX7_order_63 : decode cX7_order 63 = .ok (.goto 14, 3) := by decide +kernel
theorem dX7_order_66 : decode cX7_order 66 = .ok (.aload_n 0, 1) := by decide +kernel
theorem dX7_order_67 : decode cX7_order 67 = .ok (.getfield 77, 3) := by decide +kernel
theorem dX7_order_70 : decode cX7_order 70 = .ok (.getfield 214, 3) := by decide +kernel
theorem dX7_order_73 : decode cX7_order 73 = .ok (.iload_n 1, 1) := by decide +kernel
theorem dX7_order_74 : decode cX7_order 74 = .ok (.invokevirtual 128, 3) := by decide +kernel
theorem dX7_order_77 : decode cX7_order 77 = .ok (.ireturn, 1) := by decide +kernel
theorem dX7_best_0 : decode cX7_best 0 = .ok (.iload_n 1, 1) := by decide +kernel
theorem dX7_best_1 : decode cX7_best 1 = .ok (.iconst 0, 1) := by decide +kernel
theorem dX7_best_2 : decode cX7_best 2 = .ok (.iconst 1, 1) := by decide +kernel
theorem dX7_best_3 : decode cX7_best 3 = .ok (.invokestatic 105, 3) := by decide +kernel
theorem dX7_best_6 : decode cX7_best 6 = .ok (.ifCond .ne 5, 3) := by decide +kernel
theorem dX7_best_9 : decode cX7_best 9 = .ok (.iconst (-1), 1) := by decide +kernel
theorem dX7_best_10 : decode cX7_best 10 = .ok (.ireturn, 1) := by decide +kernel
theorem dX7_best_11 : decode cX7_best 11 = .ok (.bipush (-4), 2) := by decide +kernel
theorem dX7_best_13 : decode cX7_best 13 = .ok (.istore_n 2, 1) := by decide +kernel
theorem dX7_best_14 : decode cX7_best 14 = .ok (.aload_n 0, 1) := by decide +kernel
theorem dX7_best_15 : decode cX7_best 15 = .ok (.aload_n 0, 1) := by decide +kernel
theorem dX7_best_16 : decode cX7_best 16 = .ok (.getfield 34, 3) := by decide +kernel
theorem dX7_best_19 : decode cX7_best 19 = .ok (.getfield 167, 3) := by decide +kernel
theorem dX7_best_22 : decode cX7_best 22 = .ok (.invokevirtual 160, 3) := by decide +kernel
theorem dX7_best_25 : decode cX7_best 25 = .ok (.invokevirtual 192, 3) := by decide +kernel
theorem dX7_best_28 : decode cX7_best 28 = .ok (.istore_n 3, 1) := by decide +kernel
theorem dX7_best_29 : decode cX7_best 29 = .ok (.iconst 0, 1) := by decide +kernel
theorem dX7_best_30 : decode cX7_best 30 = .ok (.istore 4, 2) := by decide +kernel
theorem dX7_best_32 : decode cX7_best 32 = .ok (.iload 4, 2) := by decide +kernel
theorem dX7_best_34 : decode cX7_best 34 = .ok (.aload_n 0, 1) := by decide +kernel
theorem dX7_best_35 : decode cX7_best 35 = .ok (.getfield 34, 3) := by decide +kernel
theorem dX7_best_38 : decode cX7_best 38 = .ok (.invokevirtual 116, 3) := by decide +kernel
theorem dX7_best_41 : decode cX7_best 41 = .ok (.if_icmp .ge 71, 3) := by decide +kernel
theorem dX7_best_44 : decode cX7_best 44 = .ok (.iconst 0, 1) := by decide +kernel
theorem dX7_best_45 : decode cX7_best 45 = .ok (.istore 5, 2) := by decide +kernel
theorem dX7_best_47 : decode cX7_best 47 = .ok (.iload 5, 2) := by decide +kernel
theorem dX7_best_49 : decode cX7_best 49 = .ok (.bipush 6, 2) := by decide +kernel
theorem dX7_best_51 : decode cX7_best 51 = .ok (.if_icmp .ge 55, 3) := by decide +kernel
theorem dX7_best_54 : decode cX7_best 54 = .ok (.aload_n 0, 1) := by decide +kernel
theorem dX7_best_55 : decode cX7_best 55 = .ok (.aload_n 0, 1) := by decide +kernel
theorem dX7_best_56 : decode cX7_best 56 = .ok (.getfield 34, 3) := by decide +kernel
theorem dX7_best_59 : decode cX7_best 59 = .ok (.getfield 167, 3) := by decide +kernel
theorem dX7_best_62 : decode cX7_best 62 = .ok (.invokevirtual 160, 3) := by decide +kernel
theorem dX7_best_65 : decode cX7_best 65 = .ok (.astore 6, 2) := by decide +kernel
theorem dX7_best_67 : decode cX7_best 67 = .ok (.aload 6, 2) := by decide +kernel
theorem dX7_best_69 : decode cX7_best 69 = .ok (.iload 4, 2) := by decide +kernel
theorem dX7_best_71 : decode cX7_best 71 = .ok (.iload 5, 2) := by decide +kernel
theorem dX7_best_73 : decode cX7_best 73 = .ok (.invokevirtual 217, 3) := by decide +kernel
theorem dX7_best_76 : decode cX7_best 76 = .ok (.aload 6, 2) := by decide +kernel
theorem dX7_best_78 : decode cX7_best 78 = .ok (.invokevirtual 192, 3) := by decide +kernel
theorem dX7_best_81 : decode cX7_best 81 = .ok (.istore 7, 2) := by decide +kernel
theorem dX7_best_83 : decode cX7_best 83 = .ok (.iload 7, 2) := by decide +kernel
theorem dX7_best_85 : decode cX7_best 85 = .ok (.iload_n 3, 1) := by decide +kernel
theorem dX7_best_86 : decode cX7_best 86 = .ok (.if_icmp .ge 14, 3) := by decide +kernel
theorem dX7_best_89 : decode cX7_best 89 = .ok (.iload 7, 2) := by decide +kernel
theorem dX7_best_91 : decode cX7_best 91 = .ok (.istore_n 3, 1) := by decide +kernel
theorem dX7_best_92 : decode cX7_best 92 = .ok (.iload 4, 2) := by decide +kernel
theorem dX7_best_94 : decode cX7_best 94 = .ok (.iload 5, 2) := by decide +kernel
theorem dX7_best_96 : decode cX7_best 96 = .ok (.invokestatic 220, 3) := by decide +kernel
theorem dX7_best_99 : decode cX7_best 99 = .ok (.istore_n 2, 1) := by decide +kernel
theorem dX7_best_100 : decode cX7_best 100 = .ok (.iinc 5 1, 3) := by decide +kernel
theorem dX7_best_103 : decode cX7_best 103 = .ok (.goto (-56), 3) := by decide +kernel
theorem dX7_best_106 : decode cX7_best 106 = .ok (.iinc 4 1, 3) := by decide +kernel
theorem dX7_best_109 : decode cX7_best 109 = .ok (.goto (-77), 3) := by decide +kernel
theorem dX7_best_112 : decode cX7_best 112 = .ok (.iload_n 1, 1) := by decide +kernel
theorem dX7_best_113 : decode cX7_best 113 = .ok (.ifCond .ne 7, 3) := by decide +kernel
theorem dX7_best_116 : decode cX7_best 116 = .ok (.iload_n 2, 1) := by decide +kernel
theorem dX7_best_117 : decode cX7_best 117 = .ok (.goto 4, 3) := by decide +kernel
theorem dX7_best_120 : decode cX7_best 120 = .ok (.iload_n 3, 1) := by decide +kernel
theorem dX7_best_121 : decode cX7_best 121 = .ok (.ireturn, 1) := by decide +kernel
theorem dX7_seen_0 : decode cX7_seen 0 = .ok (.iload_n 1, 1) := by decide +kernel
theorem dX7_seen_1 : decode cX7_seen 1 = .ok (.iconst 0, 1) := by decide +kernel
theorem dX7_seen_2 : decode cX7_seen 2 = .ok (.aload_n 0, 1) := by decide +kernel
theorem dX7_seen_3 : decode cX7_seen 3 = .ok (.getfield 34, 3) := by decide +kernel
theorem dX7_seen_6 : decode cX7_seen 6 = .ok (.getfield 147, 3) := by decide +kernel
theorem dX7_seen_9 : decode cX7_seen 9 = .ok (.invokevirtual 113, 3) := by decide +kernel
theorem dX7_seen_12 : decode cX7_seen 12 = .ok (.iconst 1, 1) := by decide +kernel
theorem dX7_seen_13 : decode cX7_seen 13 = .ok (.isub, 1) := by decide +kernel
theorem dX7_seen_14 : decode cX7_seen 14 = .ok (.invokestatic 105, 3) := by decide +kernel
theorem dX7_seen_17 : decode cX7_seen 17 = .ok (.ifCond .eq 10, 3) := by decide +kernel
theorem dX7_seen_20 : decode cX7_seen 20 = .ok (.iload_n 2, 1) := by decide +kernel
theorem dX7_seen_21 : decode cX7_seen 21 = .ok (.invokestatic 181, 3) := by decide +kernel
theorem dX7_seen_24 : decode cX7_seen 24 = .ok (.ifCond .ne 5, 3) := by decide +kernel
theorem dX7_seen_27 : decode cX7_seen 27 = .ok (.iconst (-1), 1) := by decide +kernel
theorem dX7_seen_28 : decode cX7_seen 28 = .ok (.ireturn, 1) := by decide +kernel
theorem dX7_seen_29 : decode cX7_seen 29 = .ok (.aload_n 0, 1) := by decide +kernel
theorem dX7_seen_30 : decode cX7_seen 30 = .ok (.getfield 54, 3) := by decide +kernel
theorem dX7_seen_33 : decode cX7_seen 33 = .ok (.invokevirtual 109, 3) := by decide +kernel
theorem dX7_seen_36 : decode cX7_seen 36 = .ok (.ifCond .eq 6, 3) := by decide +kernel
theorem dX7_seen_39 : decode cX7_seen 39 = .ok (.bipush (-3), 2) := by decide +kernel
theorem dX7_seen_41 : decode cX7_seen 41 = .ok (.ireturn, 1) := by decide +kernel
theorem dX7_seen_42 : decode cX7_seen 42 = .ok (.aload_n 0, 1) := by decide +kernel
theorem dX7_seen_43 : decode cX7_seen 43 = .ok (.getfield 54, 3) := by decide +kernel
theorem dX7_seen_46 : decode cX7_seen 46 = .ok (.bipush 6, 2) := by decide +kernel
theorem dX7_seen_48 : decode cX7_seen 48 = .ok (.iload_n 1, 1) := by decide +kernel
theorem dX7_seen_49 : decode cX7_seen 49 = .ok (.imul, 1) := by decide +kernel
theorem dX7_seen_50 : decode cX7_seen 50 = .ok (.iload_n 2, 1) := by decide +kernel
theorem dX7_seen_51 : decode cX7_seen 51 = .ok (.iadd, 1) := by decide +kernel
theorem dX7_seen_52 : decode cX7_seen 52 = .ok (.invokevirtual 93, 3) := by decide +kernel
theorem dX7_seen_55 : decode cX7_seen 55 = .ok (.aload_n 0, 1) := by decide +kernel
theorem dX7_seen_56 : decode cX7_seen 56 = .ok (.getfield 54, 3) := by decide +kernel
theorem dX7_seen_59 : decode cX7_seen 59 = .ok (.invokevirtual 113, 3) := by decide +kernel
theorem dX7_seen_62 : decode cX7_seen 62 = .ok (.ireturn, 1) := by decide +kernel
theorem dX7_forget_0 : decode cX7_forget 0 = .ok (.aload_n 0, 1) := by decide +kernel
theorem dX7_forget_1 : decode cX7_forget 1 = .ok (.getfield 54, 3) := by decide +kernel
theorem dX7_forget_4 : decode cX7_forget 4 = .ok (.invokevirtual 113, 3) := by decide +kernel
theorem dX7_forget_7 : decode cX7_forget 7 = .ok (.istore_n 1, 1) := by decide +kernel
theorem dX7_forget_8 : decode cX7_forget 8 = .ok (.aload_n 0, 1) := by decide +kernel
theorem dX7_forget_9 : decode cX7_forget 9 = .ok (.getfield 54, 3) := by decide +kernel
theorem dX7_forget_12 : decode cX7_forget 12 = .ok (.invokevirtual 102, 3) := by decide +kernel
theorem dX7_forget_15 : decode cX7_forget 15 = .ok (.iload_n 1, 1) := by decide +kernel
theorem dX7_forget_16 : decode cX7_forget 16 = .ok (.ireturn, 1) := by decide +kernel
theorem dX7_fits_0 : decode cX7_fits 0 = .ok (.iconst 0, 1) := by decide +kernel
theorem dX7_fits_1 : decode cX7_fits 1 = .ok (.istore_n 1, 1) := by decide +kernel
theorem dX7_fits_2 : decode cX7_fits 2 = .ok (.iconst 0, 1) := by decide +kernel
theorem dX7_fits_3 : decode cX7_fits 3 = .ok (.istore_n 2, 1) := by decide +kernel
theorem dX7_fits_4 : decode cX7_fits 4 = .ok (.iload_n 2, 1) := by decide +kernel
theorem dX7_fits_5 : decode cX7_fits 5 = .ok (.iconst 4, 1) := by decide +kernel
theorem dX7_fits_6 : decode cX7_fits 6 = .ok (.if_icmp .ge 30, 3) := by decide +kernel
theorem dX7_fits_9 : decode cX7_fits 9 = .ok (.aload_n 0, 1) := by decide +kernel
theorem dX7_fits_10 : decode cX7_fits 10 = .ok (.iload_n 2, 1) := by decide +kernel
theorem dX7_fits_11 : decode cX7_fits 11 = .ok (.aload_n 0, 1) := by decide +kernel
theorem dX7_fits_12 : decode cX7_fits 12 = .ok (.getfield 34, 3) := by decide +kernel
theorem dX7_fits_15 : decode cX7_fits 15 = .ok (.getfield 223, 3) := by decide +kernel
theorem dX7_fits_18 : decode cX7_fits 18 = .ok (.invokevirtual 226, 3) := by decide +kernel
theorem dX7_fits_21 : decode cX7_fits 21 = .ok (.ifCond .eq 9, 3) := by decide +kernel
theorem dX7_fits_24 : decode cX7_fits 24 = .ok (.iload_n 1, 1) := by decide +kernel
theorem dX7_fits_25 : decode cX7_fits 25 = .ok (.iconst 1, 1) := by decide +kernel
theorem dX7_fits_26 : decode cX7_fits 26 = .ok (.iload_n 2, 1) := by decide +kernel
theorem dX7_fits_27 : decode cX7_fits 27 = .ok (.ishl, 1) := by decide +kernel
theorem dX7_fits_28 : decode cX7_fits 28 = .ok (.ior, 1) := by decide +kernel
theorem dX7_fits_29 : decode cX7_fits 29 = .ok (.istore_n 1, 1) := by decide +kernel
theorem dX7_fits_30 : decode cX7_fits 30 = .ok (.iinc 2 1, 3) := by decide +kernel
theorem dX7_fits_33 : decode cX7_fits 33 = .ok (.goto (-29), 3) := by decide +kernel
theorem dX7_fits_36 : decode cX7_fits 36 = .ok (.iload_n 1, 1) := by decide +kernel
theorem dX7_fits_37 : decode cX7_fits 37 = .ok (.ireturn, 1) := by decide +kernel
theorem dX7_firsts_0 : decode cX7_firsts 0 = .ok (.iload_n 1, 1) := by decide +kernel
theorem dX7_firsts_1 : decode cX7_firsts 1 = .ok (.invokestatic 157, 3) := by decide +kernel
theorem dX7_firsts_4 : decode cX7_firsts 4 = .ok (.ifCond .ne 5, 3) := by decide +kernel
theorem dX7_firsts_7 : decode cX7_firsts 7 = .ok (.iconst (-1), 1) := by decide +kernel
theorem dX7_firsts_8 : decode cX7_firsts 8 = .ok (.ireturn, 1) := by decide +kernel
theorem dX7_firsts_9 : decode cX7_firsts 9 = .ok (.iconst 0, 1) := by decide +kernel
theorem dX7_firsts_10 : decode cX7_firsts 10 = .ok (.istore_n 2, 1) := by decide +kernel
theorem dX7_firsts_11 : decode cX7_firsts 11 = .ok (.iconst 0, 1) := by decide +kernel
theorem dX7_firsts_12 : decode cX7_firsts 12 = .ok (.istore_n 3, 1) := by decide +kernel
theorem dX7_firsts_13 : decode cX7_firsts 13 = .ok (.iload_n 3, 1) := by decide +kernel
theorem dX7_firsts_14 : decode cX7_firsts 14 = .ok (.bipush 6, 2) := by decide +kernel
theorem dX7_firsts_16 : decode cX7_firsts 16 = .ok (.if_icmp .ge 24, 3) := by decide +kernel
theorem dX7_firsts_19 : decode cX7_firsts 19 = .ok (.aload_n 0, 1) := by decide +kernel
theorem dX7_firsts_20 : decode cX7_firsts 20 = .ok (.iload_n 1, 1) := by decide +kernel
theorem dX7_firsts_21 : decode cX7_firsts 21 = .ok (.iload_n 3, 1) := by decide +kernel
theorem dX7_firsts_22 : decode cX7_firsts 22 = .ok (.invokevirtual 226, 3) := by decide +kernel
theorem dX7_firsts_25 : decode cX7_firsts 25 = .ok (.ifCond .eq 9, 3) := by decide +kernel
theorem dX7_firsts_28 : decode cX7_firsts 28 = .ok (.iload_n 2, 1) := by decide +kernel
theorem dX7_firsts_29 : decode cX7_firsts 29 = .ok (.iconst 1, 1) := by decide +kernel
theorem dX7_firsts_30 : decode cX7_firsts 30 = .ok (.iload_n 3, 1) := by decide +kernel
theorem dX7_firsts_31 : decode cX7_firsts 31 = .ok (.ishl, 1) := by decide +kernel
theorem dX7_firsts_32 : decode cX7_firsts 32 = .ok (.ior, 1) := by decide +kernel
theorem dX7_firsts_33 : decode cX7_firsts 33 = .ok (.istore_n 2, 1) := by decide +kernel
theorem dX7_firsts_34 : decode cX7_firsts 34 = .ok (.iinc 3 1, 3) := by decide +kernel
theorem dX7_firsts_37 : decode cX7_firsts 37 = .ok (.goto (-24), 3) := by decide +kernel
theorem dX7_firsts_40 : decode cX7_firsts 40 = .ok (.iload_n 2, 1) := by decide +kernel
theorem dX7_firsts_41 : decode cX7_firsts 41 = .ok (.ireturn, 1) := by decide +kernel
theorem dX7_ask_0 : decode cX7_ask 0 = .ok (.iload_n 1, 1) := by decide +kernel
theorem dX7_ask_1 : decode cX7_ask 1 = .ok (.iconst 0, 1) := by decide +kernel
theorem dX7_ask_2 : decode cX7_ask 2 = .ok (.iconst 1, 1) := by decide +kernel
theorem dX7_ask_3 : decode cX7_ask 3 = .ok (.invokestatic 105, 3) := by decide +kernel
theorem dX7_ask_6 : decode cX7_ask 6 = .ok (.ifCond .ne 5, 3) := by decide +kernel
theorem dX7_ask_9 : decode cX7_ask 9 = .ok (.iconst (-1), 1) := by decide +kernel
theorem dX7_ask_10 : decode cX7_ask 10 = .ok (.ireturn, 1) := by decide +kernel
theorem dX7_ask_11 : decode cX7_ask 11 = .ok (.aload_n 0, 1) := by decide +kernel
theorem dX7_ask_12 : decode cX7_ask 12 = .ok (.invokevirtual 230, 3) := by decide +kernel
theorem dX7_ask_15 : decode cX7_ask 15 = .ok (.istore_n 2, 1) := by decide +kernel
theorem dX7_ask_16 : decode cX7_ask 16 = .ok (.iload_n 2, 1) := by decide +kernel
theorem dX7_ask_17 : decode cX7_ask 17 = .ok (.ifCond .ne 6, 3) := by decide +kernel
theorem dX7_ask_20 : decode cX7_ask 20 = .ok (.bipush (-4), 2) := by decide +kernel
theorem dX7_ask_22 : decode cX7_ask 22 = .ok (.ireturn, 1) := by decide +kernel
theorem dX7_ask_23 : decode cX7_ask 23 = .ok (.iconst 0, 1) := by decide +kernel
theorem dX7_ask_24 : decode cX7_ask 24 = .ok (.istore_n 3, 1) := by decide +kernel
theorem dX7_ask_25 : decode cX7_ask 25 = .ok (.iconst 5, 1) := by decide +kernel
theorem dX7_ask_26 : decode cX7_ask 26 = .ok (.istore 4, 2) := by decide +kernel
theorem dX7_ask_28 : decode cX7_ask 28 = .ok (.iconst 0, 1) := by decide +kernel
theorem dX7_ask_29 : decode cX7_ask 29 = .ok (.istore 5, 2) := by decide +kernel
theorem dX7_ask_31 : decode cX7_ask 31 = .ok (.iload 5, 2) := by decide +kernel
theorem dX7_ask_33 : decode cX7_ask 33 = .ok (.aload_n 0, 1) := by decide +kernel
theorem dX7_ask_34 : decode cX7_ask 34 = .ok (.getfield 34, 3) := by decide +kernel
theorem dX7_ask_37 : decode cX7_ask 37 = .ok (.invokevirtual 116, 3) := by decide +kernel
theorem dX7_ask_40 : decode cX7_ask 40 = .ok (.if_icmp .ge 32, 3) := by decide +kernel
theorem dX7_ask_43 : decode cX7_ask 43 = .ok (.aload_n 0, 1) := by decide +kernel
theorem dX7_ask_44 : decode cX7_ask 44 = .ok (.iload_n 2, 1) := by decide +kernel
theorem dX7_ask_45 : decode cX7_ask 45 = .ok (.iload 5, 2) := by decide +kernel
theorem dX7_ask_47 : decode cX7_ask 47 = .ok (.invokevirtual 233, 3) := by decide +kernel
theorem dX7_ask_50 : decode cX7_ask 50 = .ok (.istore 6, 2) := by decide +kernel
theorem dX7_ask_52 : decode cX7_ask 52 = .ok (.iload 6, 2) := by decide +kernel
theorem dX7_ask_54 : decode cX7_ask 54 = .ok (.iload 4, 2) := by decide +kernel
theorem dX7_ask_56 : decode cX7_ask 56 = .ok (.if_icmp .ge 10, 3) := by decide +kernel
theorem dX7_ask_59 : decode cX7_ask 59 = .ok (.iload 6, 2) := by decide +kernel
theorem dX7_ask_61 : decode cX7_ask 61 = .ok (.istore 4, 2) := by decide +kernel
theorem dX7_ask_63 : decode cX7_ask 63 = .ok (.iload 5, 2) := by decide +kernel
theorem dX7_ask_65 : decode cX7_ask 65 = .ok (.istore_n 3, 1) := by decide +kernel
theorem dX7_ask_66 : decode cX7_ask 66 = .ok (.iinc 5 1, 3) := by decide +kernel
theorem dX7_ask_69 : decode cX7_ask 69 = .ok (.goto (-38), 3) := by decide +kernel
theorem dX7_ask_72 : decode cX7_ask 72 = .ok (.iload_n 1, 1) := by decide +kernel
theorem dX7_ask_73 : decode cX7_ask 73 = .ok (.ifCond .ne 7, 3) := by decide +kernel
theorem dX7_ask_76 : decode cX7_ask 76 = .ok (.iload_n 3, 1) := by decide +kernel
theorem dX7_ask_77 : decode cX7_ask 77 = .ok (.goto 5, 3) := by decide +kernel
theorem dX7_ask_80 : decode cX7_ask 80 = .ok (.iload 4, 2) := by decide +kernel
theorem dX7_ask_82 : decode cX7_ask 82 = .ok (.ireturn, 1) := by decide +kernel
theorem dX7_rule_0 : decode cX7_rule 0 = .ok (.iload_n 1, 1) := by decide +kernel
theorem dX7_rule_1 : decode cX7_rule 1 = .ok (.invokestatic 181, 3) := by decide +kernel
theorem dX7_rule_4 : decode cX7_rule 4 = .ok (.ifCond .ne 5, 3) := by decide +kernel
theorem dX7_rule_7 : decode cX7_rule 7 = .ok (.iconst (-1), 1) := by decide +kernel
theorem dX7_rule_8 : decode cX7_rule 8 = .ok (.ireturn, 1) := by decide +kernel
theorem dX7_rule_9 : decode cX7_rule 9 = .ok (.bipush (-4), 2) := by decide +kernel
theorem dX7_rule_11 : decode cX7_rule 11 = .ok (.istore_n 2, 1) := by decide +kernel
theorem dX7_rule_12 : decode cX7_rule 12 = .ok (.ldc 236, 2) := by decide +kernel
theorem dX7_rule_14 : decode cX7_rule 14 = .ok (.istore_n 3, 1) := by decide +kernel
theorem dX7_rule_15 : decode cX7_rule 15 = .ok (.iconst 0, 1) := by decide +kernel
theorem dX7_rule_16 : decode cX7_rule 16 = .ok (.istore 4, 2) := by decide +kernel
theorem dX7_rule_18 : decode cX7_rule 18 = .ok (.iload 4, 2) := by decide +kernel
theorem dX7_rule_20 : decode cX7_rule 20 = .ok (.bipush 32, 2) := by decide +kernel
theorem dX7_rule_22 : decode cX7_rule 22 = .ok (.if_icmp .ge 54, 3) := by decide +kernel
theorem dX7_rule_25 : decode cX7_rule 25 = .ok (.iload 4, 2) := by decide +kernel
theorem dX7_rule_27 : decode cX7_rule 27 = .ok (.invokestatic 237, 3) := by decide +kernel
theorem dX7_rule_30 : decode cX7_rule 30 = .ok (.istore 5, 2) := by decide +kernel
theorem dX7_rule_32 : decode cX7_rule 32 = .ok (.iload 5, 2) := by decide +kernel
theorem dX7_rule_34 : decode cX7_rule 34 = .ok (.iload_n 3, 1) := by decide +kernel
theorem dX7_rule_35 : decode cX7_rule 35 = .ok (.if_icmp .ge 35, 3) := by decide +kernel
theorem dX7_rule_38 : decode cX7_rule 38 = .ok (.aload_n 0, 1) := by decide +kernel
theorem dX7_rule_39 : decode cX7_rule 39 = .ok (.iload_n 1, 1) := by decide +kernel
theorem dX7_rule_40 : decode cX7_rule 40 = .ok (.iload 4, 2) := by decide +kernel
theorem dX7_rule_42 : decode cX7_rule 42 = .ok (.iconst 0, 1) := by decide +kernel
theorem dX7_rule_43 : decode cX7_rule 43 = .ok (.invokevirtual 242, 3) := by decide +kernel
theorem dX7_rule_46 : decode cX7_rule 46 = .ok (.bipush (-4), 2) := by decide +kernel
theorem dX7_rule_48 : decode cX7_rule 48 = .ok (.if_icmp .ne 22, 3) := by decide +kernel
theorem dX7_rule_51 : decode cX7_rule 51 = .ok (.aload_n 0, 1) := by decide +kernel
theorem dX7_rule_52 : decode cX7_rule 52 = .ok (.iload_n 1, 1) := by decide +kernel
theorem dX7_rule_53 : decode cX7_rule 53 = .ok (.iload 4, 2) := by decide +kernel
theorem dX7_rule_55 : decode cX7_rule 55 = .ok (.iconst 1, 1) := by decide +kernel
theorem dX7_rule_56 : decode cX7_rule 56 = .ok (.invokevirtual 242, 3) := by decide +kernel
theorem dX7_rule_59 : decode cX7_rule 59 = .ok (.bipush (-4), 2) := by decide +kernel
theorem dX7_rule_61 : decode cX7_rule 61 = .ok (.if_icmp .ne 9, 3) := by decide +kernel
theorem dX7_rule_64 : decode cX7_rule 64 = .ok (.iload 5, 2) := by decide +kernel
theorem dX7_rule_66 : decode cX7_rule 66 = .ok (.istore_n 3, 1) := by decide +kernel
theorem dX7_rule_67 : decode cX7_rule 67 = .ok (.iload 4, 2) := by decide +kernel
theorem dX7_rule_69 : decode cX7_rule 69 = .ok (.istore_n 2, 1) := by decide +kernel
theorem dX7_rule_70 : decode cX7_rule 70 = .ok (.iinc 4 1, 3) := by decide +kernel
theorem dX7_rule_73 : decode cX7_rule 73 = .ok (.goto (-55), 3) := by decide +kernel
theorem dX7_rule_76 : decode cX7_rule 76 = .ok (.iload_n 2, 1) := by decide +kernel
theorem dX7_rule_77 : decode cX7_rule 77 = .ok (.ireturn, 1) := by decide +kernel
theorem dX7_wrong_0 : decode cX7_wrong 0 = .ok (.iload_n 1, 1) := by decide +kernel
theorem dX7_wrong_1 : decode cX7_wrong 1 = .ok (.invokestatic 181, 3) := by decide +kernel
theorem dX7_wrong_4 : decode cX7_wrong 4 = .ok (.ifCond .eq 13, 3) := by decide +kernel
theorem dX7_wrong_7 : decode cX7_wrong 7 = .ok (.iload_n 2, 1) := by decide +kernel
theorem dX7_wrong_8 : decode cX7_wrong 8 = .ok (.iconst 0, 1) := by decide +kernel
theorem dX7_wrong_9 : decode cX7_wrong 9 = .ok (.bipush 31, 2) := by decide +kernel
theorem dX7_wrong_11 : decode cX7_wrong 11 = .ok (.invokestatic 105, 3) := by decide +kernel
theorem dX7_wrong_14 : decode cX7_wrong 14 = .ok (.ifCond .ne 5, 3) := by decide +kernel
theorem dX7_wrong_17 : decode cX7_wrong 17 = .ok (.iconst (-1), 1) := by decide +kernel
theorem dX7_wrong_18 : decode cX7_wrong 18 = .ok (.ireturn, 1) := by decide +kernel
theorem dX7_wrong_19 : decode cX7_wrong 19 = .ok (.aload_n 0, 1) := by decide +kernel
theorem dX7_wrong_20 : decode cX7_wrong 20 = .ok (.iload_n 1, 1) := by decide +kernel
theorem dX7_wrong_21 : decode cX7_wrong 21 = .ok (.iload_n 2, 1) := by decide +kernel
theorem dX7_wrong_22 : decode cX7_wrong 22 = .ok (.iload_n 3, 1) := by decide +kernel
theorem dX7_wrong_23 : decode cX7_wrong 23 = .ok (.invokevirtual 242, 3) := by decide +kernel
theorem dX7_wrong_26 : decode cX7_wrong 26 = .ok (.ireturn, 1) := by decide +kernel
theorem dX7_byTurns_0 : decode cX7_byTurns 0 = .ok (.iload_n 1, 1) := by decide +kernel
theorem dX7_byTurns_1 : decode cX7_byTurns 1 = .ok (.iconst 0, 1) := by decide +kernel
theorem dX7_byTurns_2 : decode cX7_byTurns 2 = .ok (.iconst 2, 1) := by decide +kernel
theorem dX7_byTurns_3 : decode cX7_byTurns 3 = .ok (.invokestatic 105, 3) := by decide +kernel
theorem dX7_byTurns_6 : decode cX7_byTurns 6 = .ok (.ifCond .eq 26, 3) := by decide +kernel
theorem dX7_byTurns_9 : decode cX7_byTurns 9 = .ok (.aload_n 0, 1) := by decide +kernel
theorem dX7_byTurns_10 : decode cX7_byTurns 10 = .ok (.getfield 34, 3) := by decide +kernel
theorem dX7_byTurns_13 : decode cX7_byTurns 13 = .ok (.aload_n 0, 1) := by decide +kernel
theorem dX7_byTurns_14 : decode cX7_byTurns 14 = .ok (.aload_n 0, 1) := by decide +kernel
theorem dX7_byTurns_15 : decode cX7_byTurns 15 = .ok (.getfield 34, 3) := by decide +kernel
theorem dX7_byTurns_18 : decode cX7_byTurns 18 = .ok (.getfield 167, 3) := by decide +kernel
theorem dX7_byTurns_21 : decode cX7_byTurns 21 = .ok (.invokevirtual 160, 3) := by decide +kernel
theorem dX7_byTurns_24 : decode cX7_byTurns 24 = .ok (.iload_n 1, 1) := by decide +kernel
theorem dX7_byTurns_25 : decode cX7_byTurns 25 = .ok (.iconst 0, 1) := by decide +kernel
theorem dX7_byTurns_26 : decode cX7_byTurns 26 = .ok (.invokestatic 246, 3) := by decide +kernel
theorem dX7_byTurns_29 : decode cX7_byTurns 29 = .ok (.goto 4, 3) := by decide +kernel
theorem dX7_byTurns_32 : decode cX7_byTurns 32 = .ok (.iconst (-1), 1) := by decide +kernel
theorem dX7_byTurns_33 : decode cX7_byTurns 33 = .ok (.ireturn, 1) := by decide +kernel
theorem dX7_mean_0 : decode cX7_mean 0 = .ok (.iload_n 1, 1) := by decide +kernel
theorem dX7_mean_1 : decode cX7_mean 1 = .ok (.iconst 0, 1) := by decide +kernel
theorem dX7_mean_2 : decode cX7_mean 2 = .ok (.iconst 3, 1) := by decide +kernel
theorem dX7_mean_3 : decode cX7_mean 3 = .ok (.invokestatic 105, 3) := by decide +kernel
theorem dX7_mean_6 : decode cX7_mean 6 = .ok (.ifCond .eq 12, 3) := by decide +kernel
theorem dX7_mean_9 : decode cX7_mean 9 = .ok (.iload_n 2, 1) := by decide +kernel
theorem dX7_mean_10 : decode cX7_mean 10 = .ok (.iconst 0, 1) := by decide +kernel
theorem dX7_mean_11 : decode cX7_mean 11 = .ok (.iconst 1, 1) := by decide +kernel
theorem dX7_mean_12 : decode cX7_mean 12 = .ok (.invokestatic 105, 3) := by decide +kernel
theorem dX7_mean_15 : decode cX7_mean 15 = .ok (.ifCond .ne 5, 3) := by decide +kernel
theorem dX7_mean_18 : decode cX7_mean 18 = .ok (.iconst (-1), 1) := by decide +kernel
theorem dX7_mean_19 : decode cX7_mean 19 = .ok (.ireturn, 1) := by decide +kernel
theorem dX7_mean_20 : decode cX7_mean 20 = .ok (.aload_n 0, 1) := by decide +kernel
theorem dX7_mean_21 : decode cX7_mean 21 = .ok (.getfield 34, 3) := by decide +kernel
theorem dX7_mean_24 : decode cX7_mean 24 = .ok (.invokevirtual 250, 3) := by decide +kernel
theorem dX7_mean_27 : decode cX7_mean 27 = .ok (.istore_n 3, 1) := by decide +kernel
theorem dX7_mean_28 : decode cX7_mean 28 = .ok (.aload_n 0, 1) := by decide +kernel
theorem dX7_mean_29 : decode cX7_mean 29 = .ok (.getfield 34, 3) := by decide +kernel
theorem dX7_mean_32 : decode cX7_mean 32 = .ok (.aload_n 0, 1) := by decide +kernel
theorem dX7_mean_33 : decode cX7_mean 33 = .ok (.aload_n 0, 1) := by decide +kernel
theorem dX7_mean_34 : decode cX7_mean 34 = .ok (.getfield 34, 3) := by decide +kernel
theorem dX7_mean_37 : decode cX7_mean 37 = .ok (.getfield 167, 3) := by decide +kernel
theorem dX7_mean_40 : decode cX7_mean 40 = .ok (.invokevirtual 160, 3) := by decide +kernel
theorem dX7_mean_43 : decode cX7_mean 43 = .ok (.iload_n 1, 1) := by decide +kernel
theorem dX7_mean_44 : decode cX7_mean 44 = .ok (.iload_n 3, 1) := by decide +kernel
theorem dX7_mean_45 : decode cX7_mean 45 = .ok (.invokestatic 253, 3) := by decide +kernel
theorem dX7_mean_48 : decode cX7_mean 48 = .ok (.istore 4, 2) := by decide +kernel
theorem dX7_mean_50 : decode cX7_mean 50 = .ok (.iload_n 3, 1) := by decide +kernel
theorem dX7_mean_51 : decode cX7_mean 51 = .ok (.iload_n 1, 1) := by decide +kernel
theorem dX7_mean_52 : decode cX7_mean 52 = .ok (.invokestatic 256, 3) := by decide +kernel
theorem dX7_mean_55 : decode cX7_mean 55 = .ok (.istore 5, 2) := by decide +kernel
theorem dX7_mean_57 : decode cX7_mean 57 = .ok (.iload 4, 2) := by decide +kernel
theorem dX7_mean_59 : decode cX7_mean 59 = .ok (.iload 5, 2) := by decide +kernel
theorem dX7_mean_61 : decode cX7_mean 61 = .ok (.invokestatic 259, 3) := by decide +kernel
theorem dX7_mean_64 : decode cX7_mean 64 = .ok (.istore 6, 2) := by decide +kernel
theorem dX7_mean_66 : decode cX7_mean 66 = .ok (.iload 6, 2) := by decide +kernel
theorem dX7_mean_68 : decode cX7_mean 68 = .ok (.ifCond .ne 5, 3) := by decide +kernel
theorem dX7_mean_71 : decode cX7_mean 71 = .ok (.iconst 0, 1) := by decide +kernel
theorem dX7_mean_72 : decode cX7_mean 72 = .ok (.ireturn, 1) := by decide +kernel
theorem dX7_mean_73 : decode cX7_mean 73 = .ok (.iload_n 2, 1) := by decide +kernel
theorem dX7_mean_74 : decode cX7_mean 74 = .ok (.ifCond .ne 11, 3) := by decide +kernel
theorem dX7_mean_77 : decode cX7_mean 77 = .ok (.iload 4, 2) := by decide +kernel
theorem dX7_mean_79 : decode cX7_mean 79 = .ok (.iload 6, 2) := by decide +kernel
theorem dX7_mean_81 : decode cX7_mean 81 = .ok (.idiv, 1) := by decide +kernel
theorem dX7_mean_82 : decode cX7_mean 82 = .ok (.goto 8, 3) := by decide +kernel
theorem dX7_mean_85 : decode cX7_mean 85 = .ok (.iload 5, 2) := by decide +kernel
theorem dX7_mean_87 : decode cX7_mean 87 = .ok (.iload 6, 2) := by decide +kernel
theorem dX7_mean_89 : decode cX7_mean 89 = .ok (.idiv, 1) := by decide +kernel
theorem dX7_mean_90 : decode cX7_mean 90 = .ok (.ireturn, 1) := by decide +kernel
theorem dX7_year_0 : decode cX7_year 0 = .ok (.iload_n 1, 1) := by decide +kernel
theorem dX7_year_1 : decode cX7_year 1 = .ok (.iconst 0, 1) := by decide +kernel
theorem dX7_year_2 : decode cX7_year 2 = .ok (.sipush 9999, 3) := by decide +kernel
theorem dX7_year_5 : decode cX7_year 5 = .ok (.invokestatic 105, 3) := by decide +kernel
theorem dX7_year_8 : decode cX7_year 8 = .ok (.ifCond .eq 22, 3) := by decide +kernel
theorem dX7_year_11 : decode cX7_year 11 = .ok (.iload_n 2, 1) := by decide +kernel
theorem dX7_year_12 : decode cX7_year 12 = .ok (.iconst 1, 1) := by decide +kernel
theorem dX7_year_13 : decode cX7_year 13 = .ok (.bipush 60, 2) := by decide +kernel
theorem dX7_year_15 : decode cX7_year 15 = .ok (.invokestatic 105, 3) := by decide +kernel
theorem dX7_year_18 : decode cX7_year 18 = .ok (.ifCond .eq 12, 3) := by decide +kernel
theorem dX7_year_21 : decode cX7_year 21 = .ok (.iload_n 3, 1) := by decide +kernel
theorem dX7_year_22 : decode cX7_year 22 = .ok (.iconst 0, 1) := by decide +kernel
theorem dX7_year_23 : decode cX7_year 23 = .ok (.iconst 1, 1) := by decide +kernel
theorem dX7_year_24 : decode cX7_year 24 = .ok (.invokestatic 105, 3) := by decide +kernel
theorem dX7_year_27 : decode cX7_year 27 = .ok (.ifCond .ne 5, 3) := by decide +kernel
theorem dX7_year_30 : decode cX7_year 30 = .ok (.iconst (-1), 1) := by decide +kernel
theorem dX7_year_31 : decode cX7_year 31 = .ok (.ireturn, 1) := by decide +kernel
theorem dX7_year_32 : decode cX7_year 32 = .ok (.aload_n 0, 1) := by decide +kernel
theorem dX7_year_33 : decode cX7_year 33 = .ok (.aload_n 0, 1) := by decide +kernel
theorem dX7_year_34 : decode cX7_year 34 = .ok (.getfield 34, 3) := by decide +kernel
theorem dX7_year_37 : decode cX7_year 37 = .ok (.getfield 167, 3) := by decide +kernel
theorem dX7_year_40 : decode cX7_year 40 = .ok (.invokevirtual 160, 3) := by decide +kernel
theorem dX7_year_43 : decode cX7_year 43 = .ok (.astore 4, 2) := by decide +kernel
theorem dX7_year_45 : decode cX7_year 45 = .ok (.iconst 0, 1) := by decide +kernel
theorem dX7_year_46 : decode cX7_year 46 = .ok (.istore 5, 2) := by decide +kernel
theorem dX7_year_48 : decode cX7_year 48 = .ok (.iconst 0, 1) := by decide +kernel
theorem dX7_year_49 : decode cX7_year 49 = .ok (.istore 6, 2) := by decide +kernel
theorem dX7_year_51 : decode cX7_year 51 = .ok (.iconst 0, 1) := by decide +kernel
theorem dX7_year_52 : decode cX7_year 52 = .ok (.istore 7, 2) := by decide +kernel
theorem dX7_year_54 : decode cX7_year 54 = .ok (.iload 7, 2) := by decide +kernel
theorem dX7_year_56 : decode cX7_year 56 = .ok (.iload_n 2, 1) := by decide +kernel
theorem dX7_year_57 : decode cX7_year 57 = .ok (.if_icmp .ge 67, 3) := by decide +kernel
theorem dX7_year_60 : decode cX7_year 60 = .ok (.aload_n 0, 1) := by decide +kernel
theorem dX7_year_61 : decode cX7_year 61 = .ok (.iload_n 1, 1) := by decide +kernel
theorem dX7_year_62 : decode cX7_year 62 = .ok (.iload 7, 2) := by decide +kernel
theorem dX7_year_64 : decode cX7_year 64 = .ok (.invokevirtual 262, 3) := by decide +kernel
theorem dX7_year_67 : decode cX7_year 67 = .ok (.istore 8, 2) := by decide +kernel
theorem dX7_year_69 : decode cX7_year 69 = .ok (.aload 4, 2) := by decide +kernel
theorem dX7_year_71 : decode cX7_year 71 = .ok (.iload 8, 2) := by decide +kernel
theorem dX7_year_73 : decode cX7_year 73 = .ok (.invokevirtual 198, 3) := by decide +kernel
theorem dX7_year_76 : decode cX7_year 76 = .ok (.istore 9, 2) := by decide +kernel
theorem dX7_year_78 : decode cX7_year 78 = .ok (.iload 5, 2) := by decide +kernel
theorem dX7_year_80 : decode cX7_year 80 = .ok (.aload_n 0, 1) := by decide +kernel
theorem dX7_year_81 : decode cX7_year 81 = .ok (.getfield 34, 3) := by decide +kernel
theorem dX7_year_84 : decode cX7_year 84 = .ok (.iload 8, 2) := by decide +kernel
theorem dX7_year_86 : decode cX7_year 86 = .ok (.iload 9, 2) := by decide +kernel
theorem dX7_year_88 : decode cX7_year 88 = .ok (.invokevirtual 265, 3) := by decide +kernel
theorem dX7_year_91 : decode cX7_year 91 = .ok (.iadd, 1) := by decide +kernel
theorem dX7_year_92 : decode cX7_year 92 = .ok (.istore 5, 2) := by decide +kernel
theorem dX7_year_94 : decode cX7_year 94 = .ok (.iload 6, 2) := by decide +kernel
theorem dX7_year_96 : decode cX7_year 96 = .ok (.aload_n 0, 1) := by decide +kernel
theorem dX7_year_97 : decode cX7_year 97 = .ok (.getfield 34, 3) := by decide +kernel
theorem dX7_year_100 : decode cX7_year 100 = .ok (.iload 8, 2) := by decide +kernel
theorem dX7_year_102 : decode cX7_year 102 = .ok (.iload 9, 2) := by decide +kernel
theorem dX7_year_104 : decode cX7_year 104 = .ok (.invokevirtual 178, 3) := by decide +kernel
theorem dX7_year_107 : decode cX7_year 107 = .ok (.ifCond .ne 7, 3) := by decide +kernel
theorem dX7_year_110 : decode cX7_year 110 = .ok (.iconst 1, 1) := by decide +kernel
theorem dX7_year_111 : decode cX7_year 111 = .ok (.goto 4, 3) := by decide +kernel
theorem dX7_year_114 : decode cX7_year 114 = .ok (.iconst 0, 1) := by decide +kernel
theorem dX7_year_115 : decode cX7_year 115 = .ok (.iadd, 1) := by decide +kernel
theorem dX7_year_116 : decode cX7_year 116 = .ok (.istore 6, 2) := by decide +kernel
theorem dX7_year_118 : decode cX7_year 118 = .ok (.iinc 7 1, 3) := by decide +kernel
theorem dX7_year_121 : decode cX7_year 121 = .ok (.goto (-67), 3) := by decide +kernel
theorem dX7_year_124 : decode cX7_year 124 = .ok (.iload_n 3, 1) := by decide +kernel
theorem dX7_year_125 : decode cX7_year 125 = .ok (.ifCond .ne 8, 3) := by decide +kernel
theorem dX7_year_128 : decode cX7_year 128 = .ok (.iload 5, 2) := by decide +kernel
theorem dX7_year_130 : decode cX7_year 130 = .ok (.goto 5, 3) := by decide +kernel
theorem dX7_year_133 : decode cX7_year 133 = .ok (.iload 6, 2) := by decide +kernel
theorem dX7_year_135 : decode cX7_year 135 = .ok (.ireturn, 1) := by decide +kernel
theorem dX7_keep_0 : decode cX7_keep 0 = .ok (.aload_n 0, 1) := by decide +kernel
theorem dX7_keep_1 : decode cX7_keep 1 = .ok (.getfield 51, 3) := by decide +kernel
theorem dX7_keep_4 : decode cX7_keep 4 = .ok (.invokevirtual 268, 3) := by decide +kernel
theorem dX7_keep_7 : decode cX7_keep 7 = .ok (.ifCond .eq 6, 3) := by decide +kernel
theorem dX7_keep_10 : decode cX7_keep 10 = .ok (.bipush (-3), 2) := by decide +kernel
theorem dX7_keep_12 : decode cX7_keep 12 = .ok (.ireturn, 1) := by decide +kernel
theorem dX7_keep_13 : decode cX7_keep 13 = .ok (.aload_n 0, 1) := by decide +kernel
theorem dX7_keep_14 : decode cX7_keep 14 = .ok (.getfield 51, 3) := by decide +kernel
theorem dX7_keep_17 : decode cX7_keep 17 = .ok (.aload_n 0, 1) := by decide +kernel
theorem dX7_keep_18 : decode cX7_keep 18 = .ok (.getfield 40, 3) := by decide +kernel
theorem dX7_keep_21 : decode cX7_keep 21 = .ok (.invokevirtual 171, 3) := by decide +kernel
theorem dX7_keep_24 : decode cX7_keep 24 = .ok (.aload_n 0, 1) := by decide +kernel
theorem dX7_keep_25 : decode cX7_keep 25 = .ok (.getfield 51, 3) := by decide +kernel
theorem dX7_keep_28 : decode cX7_keep 28 = .ok (.invokevirtual 188, 3) := by decide +kernel
theorem dX7_keep_31 : decode cX7_keep 31 = .ok (.ireturn, 1) := by decide +kernel
theorem dX7_back_0 : decode cX7_back 0 = .ok (.aload_n 0, 1) := by decide +kernel
theorem dX7_back_1 : decode cX7_back 1 = .ok (.getfield 51, 3) := by decide +kernel
theorem dX7_back_4 : decode cX7_back 4 = .ok (.invokevirtual 188, 3) := by decide +kernel
theorem dX7_back_7 : decode cX7_back 7 = .ok (.ifCond .ne 6, 3) := by decide +kernel
theorem dX7_back_10 : decode cX7_back 10 = .ok (.bipush (-2), 2) := by decide +kernel
theorem dX7_back_12 : decode cX7_back 12 = .ok (.ireturn, 1) := by decide +kernel
theorem dX7_back_13 : decode cX7_back 13 = .ok (.aload_n 0, 1) := by decide +kernel
theorem dX7_back_14 : decode cX7_back 14 = .ok (.getfield 51, 3) := by decide +kernel
theorem dX7_back_17 : decode cX7_back 17 = .ok (.aload_n 0, 1) := by decide +kernel
theorem dX7_back_18 : decode cX7_back 18 = .ok (.getfield 40, 3) := by decide +kernel
theorem dX7_back_21 : decode cX7_back 21 = .ok (.invokevirtual 189, 3) := by decide +kernel
theorem dX7_back_24 : decode cX7_back 24 = .ok (.aload_n 0, 1) := by decide +kernel
theorem dX7_back_25 : decode cX7_back 25 = .ok (.getfield 47, 3) := by decide +kernel
theorem dX7_back_28 : decode cX7_back 28 = .ok (.invokevirtual 120, 3) := by decide +kernel
theorem dX7_back_31 : decode cX7_back 31 = .ok (.aload_n 0, 1) := by decide +kernel
theorem dX7_back_32 : decode cX7_back 32 = .ok (.getfield 51, 3) := by decide +kernel
theorem dX7_back_35 : decode cX7_back 35 = .ok (.invokevirtual 188, 3) := by decide +kernel
theorem dX7_back_38 : decode cX7_back 38 = .ok (.ireturn, 1) := by decide +kernel
theorem dX7_count_0 : decode cX7_count 0 = .ok (.iload_n 1, 1) := by decide +kernel
theorem dX7_count_1 : decode cX7_count 1 = .ok (.tableswitch 165 0 11 #[63, 71, 79, 87, 98, 109, 117, 125, 133, 141, 149, 157], 63) := by decide +kernel
theorem dX7_count_64 : decode cX7_count 64 = .ok (.aload_n 0, 1) := by decide +kernel
theorem dX7_count_65 : decode cX7_count 65 = .ok (.getfield 34, 3) := by decide +kernel
theorem dX7_count_68 : decode cX7_count 68 = .ok (.invokevirtual 116, 3) := by decide +kernel
theorem dX7_count_71 : decode cX7_count 71 = .ok (.ireturn, 1) := by decide +kernel
theorem dX7_count_72 : decode cX7_count 72 = .ok (.aload_n 0, 1) := by decide +kernel
theorem dX7_count_73 : decode cX7_count 73 = .ok (.getfield 34, 3) := by decide +kernel
theorem dX7_count_76 : decode cX7_count 76 = .ok (.getfield 167, 3) := by decide +kernel
theorem dX7_count_79 : decode cX7_count 79 = .ok (.ireturn, 1) := by decide +kernel
theorem dX7_count_80 : decode cX7_count 80 = .ok (.aload_n 0, 1) := by decide +kernel
theorem dX7_count_81 : decode cX7_count 81 = .ok (.getfield 34, 3) := by decide +kernel
theorem dX7_count_84 : decode cX7_count 84 = .ok (.getfield 223, 3) := by decide +kernel
theorem dX7_count_87 : decode cX7_count 87 = .ok (.ireturn, 1) := by decide +kernel
theorem dX7_count_88 : decode cX7_count 88 = .ok (.aload_n 0, 1) := by decide +kernel
theorem dX7_count_89 : decode cX7_count 89 = .ok (.getfield 34, 3) := by decide +kernel
theorem dX7_count_92 : decode cX7_count 92 = .ok (.getfield 147, 3) := by decide +kernel
theorem dX7_count_95 : decode cX7_count 95 = .ok (.invokevirtual 113, 3) := by decide +kernel
theorem dX7_count_98 : decode cX7_count 98 = .ok (.ireturn, 1) := by decide +kernel
theorem dX7_count_99 : decode cX7_count 99 = .ok (.aload_n 0, 1) := by decide +kernel
theorem dX7_count_100 : decode cX7_count 100 = .ok (.getfield 40, 3) := by decide +kernel
theorem dX7_count_103 : decode cX7_count 103 = .ok (.getfield 150, 3) := by decide +kernel
theorem dX7_count_106 : decode cX7_count 106 = .ok (.invokevirtual 113, 3) := by decide +kernel
theorem dX7_count_109 : decode cX7_count 109 = .ok (.ireturn, 1) := by decide +kernel
theorem dX7_count_110 : decode cX7_count 110 = .ok (.aload_n 0, 1) := by decide +kernel
theorem dX7_count_111 : decode cX7_count 111 = .ok (.getfield 40, 3) := by decide +kernel
theorem dX7_count_114 : decode cX7_count 114 = .ok (.getfield 269, 3) := by decide +kernel
theorem dX7_count_117 : decode cX7_count 117 = .ok (.ireturn, 1) := by decide +kernel
theorem dX7_count_118 : decode cX7_count 118 = .ok (.aload_n 0, 1) := by decide +kernel
theorem dX7_count_119 : decode cX7_count 119 = .ok (.getfield 40, 3) := by decide +kernel
theorem dX7_count_122 : decode cX7_count 122 = .ok (.getfield 272, 3) := by decide +kernel
theorem dX7_count_125 : decode cX7_count 125 = .ok (.ireturn, 1) := by decide +kernel
theorem dX7_count_126 : decode cX7_count 126 = .ok (.aload_n 0, 1) := by decide +kernel
theorem dX7_count_127 : decode cX7_count 127 = .ok (.getfield 40, 3) := by decide +kernel
theorem dX7_count_130 : decode cX7_count 130 = .ok (.getfield 274, 3) := by decide +kernel
theorem dX7_count_133 : decode cX7_count 133 = .ok (.ireturn, 1) := by decide +kernel
theorem dX7_count_134 : decode cX7_count 134 = .ok (.aload_n 0, 1) := by decide +kernel
theorem dX7_count_135 : decode cX7_count 135 = .ok (.getfield 54, 3) := by decide +kernel
theorem dX7_count_138 : decode cX7_count 138 = .ok (.invokevirtual 113, 3) := by decide +kernel
theorem dX7_count_141 : decode cX7_count 141 = .ok (.ireturn, 1) := by decide +kernel
theorem dX7_count_142 : decode cX7_count 142 = .ok (.aload_n 0, 1) := by decide +kernel
theorem dX7_count_143 : decode cX7_count 143 = .ok (.getfield 47, 3) := by decide +kernel
theorem dX7_count_146 : decode cX7_count 146 = .ok (.invokevirtual 188, 3) := by decide +kernel
theorem dX7_count_149 : decode cX7_count 149 = .ok (.ireturn, 1) := by decide +kernel
theorem dX7_count_150 : decode cX7_count 150 = .ok (.aload_n 0, 1) := by decide +kernel
theorem dX7_count_151 : decode cX7_count 151 = .ok (.getfield 51, 3) := by decide +kernel
theorem dX7_count_154 : decode cX7_count 154 = .ok (.invokevirtual 188, 3) := by decide +kernel
theorem dX7_count_157 : decode cX7_count 157 = .ok (.ireturn, 1) := by decide +kernel
theorem dX7_count_158 : decode cX7_count 158 = .ok (.aload_n 0, 1) := by decide +kernel
theorem dX7_count_159 : decode cX7_count 159 = .ok (.getfield 14, 3) := by decide +kernel
theorem dX7_count_162 : decode cX7_count 162 = .ok (.invokevirtual 113, 3) := by decide +kernel
theorem dX7_count_165 : decode cX7_count 165 = .ok (.ireturn, 1) := by decide +kernel
theorem dX7_count_166 : decode cX7_count 166 = .ok (.iconst (-1), 1) := by decide +kernel
theorem dX7_count_167 : decode cX7_count 167 = .ok (.ireturn, 1) := by decide +kernel
theorem dX7_isWithin_0 : decode cX7_isWithin 0 = .ok (.iload_n 0, 1) := by decide +kernel
theorem dX7_isWithin_1 : decode cX7_isWithin 1 = .ok (.iload_n 1, 1) := by decide +kernel
theorem dX7_isWithin_2 : decode cX7_isWithin 2 = .ok (.if_icmp .lt 12, 3) := by decide +kernel
theorem dX7_isWithin_5 : decode cX7_isWithin 5 = .ok (.iload_n 0, 1) := by decide +kernel
theorem dX7_isWithin_6 : decode cX7_isWithin 6 = .ok (.iload_n 2, 1) := by decide +kernel
theorem dX7_isWithin_7 : decode cX7_isWithin 7 = .ok (.if_icmp .gt 7, 3) := by decide +kernel
theorem dX7_isWithin_10 : decode cX7_isWithin 10 = .ok (.iconst 1, 1) := by decide +kernel
theorem dX7_isWithin_11 : decode cX7_isWithin 11 = .ok (.goto 4, 3) := by decide +kernel
theorem dX7_isWithin_14 : decode cX7_isWithin 14 = .ok (.iconst 0, 1) := by decide +kernel
theorem dX7_isWithin_15 : decode cX7_isWithin 15 = .ok (.ireturn, 1) := by decide +kernel
theorem dX7_isSort_0 : decode cX7_isSort 0 = .ok (.iload_n 0, 1) := by decide +kernel
theorem dX7_isSort_1 : decode cX7_isSort 1 = .ok (.iconst 0, 1) := by decide +kernel
theorem dX7_isSort_2 : decode cX7_isSort 2 = .ok (.iconst 3, 1) := by decide +kernel
theorem dX7_isSort_3 : decode cX7_isSort 3 = .ok (.invokestatic 105, 3) := by decide +kernel
theorem dX7_isSort_6 : decode cX7_isSort 6 = .ok (.ireturn, 1) := by decide +kernel
theorem dX7_isDoing_0 : decode cX7_isDoing 0 = .ok (.iload_n 0, 1) := by decide +kernel
theorem dX7_isDoing_1 : decode cX7_isDoing 1 = .ok (.iconst 0, 1) := by decide +kernel
theorem dX7_isDoing_2 : decode cX7_isDoing 2 = .ok (.iconst 5, 1) := by decide +kernel
theorem dX7_isDoing_3 : decode cX7_isDoing 3 = .ok (.invokestatic 105, 3) := by decide +kernel
theorem dX7_isDoing_6 : decode cX7_isDoing 6 = .ok (.ireturn, 1) := by decide +kernel
theorem dX7_wordOf_0 : decode cX7_wordOf 0 = .ok (.bipush 6, 2) := by decide +kernel
theorem dX7_wordOf_2 : decode cX7_wordOf 2 = .ok (.iload_n 0, 1) := by decide +kernel
theorem dX7_wordOf_3 : decode cX7_wordOf 3 = .ok (.imul, 1) := by decide +kernel
theorem dX7_wordOf_4 : decode cX7_wordOf 4 = .ok (.iload_n 1, 1) := by decide +kernel
theorem dX7_wordOf_5 : decode cX7_wordOf 5 = .ok (.iadd, 1) := by decide +kernel
theorem dX7_wordOf_6 : decode cX7_wordOf 6 = .ok (.ireturn, 1) := by decide +kernel
theorem dX7_marksApart_0 : decode cX7_marksApart 0 = .ok (.iload_n 0, 1) := by decide +kernel
theorem dX7_marksApart_1 : decode cX7_marksApart 1 = .ok (.iload_n 1, 1) := by decide +kernel
theorem dX7_marksApart_2 : decode cX7_marksApart 2 = .ok (.ixor, 1) := by decide +kernel
theorem dX7_marksApart_3 : decode cX7_marksApart 3 = .ok (.invokestatic 237, 3) := by decide +kernel
theorem dX7_marksApart_6 : decode cX7_marksApart 6 = .ok (.ireturn, 1) := by decide +kernel
theorem dX7_learnerNow_0 : decode cX7_learnerNow 0 = .ok (.aload_n 0, 1) := by decide +kernel
theorem dX7_learnerNow_1 : decode cX7_learnerNow 1 = .ok (.getfield 68, 3) := by decide +kernel
theorem dX7_learnerNow_4 : decode cX7_learnerNow 4 = .ok (.iload_n 1, 1) := by decide +kernel
theorem dX7_learnerNow_5 : decode cX7_learnerNow 5 = .ok (.aload_n 0, 1) := by decide +kernel
theorem dX7_learnerNow_6 : decode cX7_learnerNow 6 = .ok (.getfield 34, 3) := by decide +kernel
theorem dX7_learnerNow_9 : decode cX7_learnerNow 9 = .ok (.getfield 223, 3) := by decide +kernel
theorem dX7_learnerNow_12 : decode cX7_learnerNow 12 = .ok (.invokevirtual 277, 3) := by decide +kernel
theorem dX7_learnerNow_15 : decode cX7_learnerNow 15 = .ok (.aload_n 0, 1) := by decide +kernel
theorem dX7_learnerNow_16 : decode cX7_learnerNow 16 = .ok (.getfield 68, 3) := by decide +kernel
theorem dX7_learnerNow_19 : decode cX7_learnerNow 19 = .ok (.aload_n 0, 1) := by decide +kernel
theorem dX7_learnerNow_20 : decode cX7_learnerNow 20 = .ok (.getfield 40, 3) := by decide +kernel
theorem dX7_learnerNow_23 : decode cX7_learnerNow 23 = .ok (.getfield 150, 3) := by decide +kernel
theorem dX7_learnerNow_26 : decode cX7_learnerNow 26 = .ok (.invokevirtual 280, 3) := by decide +kernel
theorem dX7_learnerNow_29 : decode cX7_learnerNow 29 = .ok (.aload_n 0, 1) := by decide +kernel
theorem dX7_learnerNow_30 : decode cX7_learnerNow 30 = .ok (.getfield 68, 3) := by decide +kernel
theorem dX7_learnerNow_33 : decode cX7_learnerNow 33 = .ok (.areturn, 1) := by decide +kernel
theorem dX7_fillTimes_0 : decode cX7_fillTimes 0 = .ok (.aload_n 0, 1) := by decide +kernel
theorem dX7_fillTimes_1 : decode cX7_fillTimes 1 = .ok (.getfield 57, 3) := by decide +kernel
theorem dX7_fillTimes_4 : decode cX7_fillTimes 4 = .ok (.invokevirtual 102, 3) := by decide +kernel
theorem dX7_fillTimes_7 : decode cX7_fillTimes 7 = .ok (.iconst 0, 1) := by decide +kernel
theorem dX7_fillTimes_8 : decode cX7_fillTimes 8 = .ok (.istore_n 2, 1) := by decide +kernel
theorem dX7_fillTimes_9 : decode cX7_fillTimes 9 = .ok (.iload_n 2, 1) := by decide +kernel
theorem dX7_fillTimes_10 : decode cX7_fillTimes 10 = .ok (.bipush 80, 2) := by decide +kernel
theorem dX7_fillTimes_12 : decode cX7_fillTimes 12 = .ok (.if_icmp .ge 28, 3) := by decide +kernel
theorem dX7_fillTimes_15 : decode cX7_fillTimes 15 = .ok (.aload_n 1, 1) := by decide +kernel
theorem dX7_fillTimes_16 : decode cX7_fillTimes 16 = .ok (.invokevirtual 284, 3) := by decide +kernel
theorem dX7_fillTimes_19 : decode cX7_fillTimes 19 = .ok (.istore_n 3, 1) := by decide +kernel
theorem dX7_fillTimes_20 : decode cX7_fillTimes 20 = .ok (.iload_n 2, 1) := by decide +kernel
theorem dX7_fillTimes_21 : decode cX7_fillTimes 21 = .ok (.bipush 20, 2) := by decide +kernel
theorem dX7_fillTimes_23 : decode cX7_fillTimes 23 = .ok (.if_icmp .lt 11, 3) := by decide +kernel
theorem dX7_fillTimes_26 : decode cX7_fillTimes 26 = .ok (.aload_n 0, 1) := by decide +kernel
theorem dX7_fillTimes_27 : decode cX7_fillTimes 27 = .ok (.getfield 57, 3) := by decide +kernel
theorem dX7_fillTimes_30 : decode cX7_fillTimes 30 = .ok (.iload_n 3, 1) := by decide +kernel
theorem dX7_fillTimes_31 : decode cX7_fillTimes 31 = .ok (.invokevirtual 93, 3) := by decide +kernel
theorem dX7_fillTimes_34 : decode cX7_fillTimes 34 = .ok (.iinc 2 1, 3) := by decide +kernel
theorem dX7_fillTimes_37 : decode cX7_fillTimes 37 = .ok (.goto (-28), 3) := by decide +kernel
theorem dX7_fillTimes_40 : decode cX7_fillTimes 40 = .ok (.return_, 1) := by decide +kernel
theorem dX7_comesRoundAfter_0 : decode cX7_comesRoundAfter 0 = .ok (.iconst 0, 1) := by decide +kernel
theorem dX7_comesRoundAfter_1 : decode cX7_comesRoundAfter 1 = .ok (.istore_n 2, 1) := by decide +kernel
theorem dX7_comesRoundAfter_2 : decode cX7_comesRoundAfter 2 = .ok (.iload_n 2, 1) := by decide +kernel
theorem dX7_comesRoundAfter_3 : decode cX7_comesRoundAfter 3 = .ok (.iload_n 1, 1) := by decide +kernel
theorem dX7_comesRoundAfter_4 : decode cX7_comesRoundAfter 4 = .ok (.if_icmp .ge 50, 3) := by decide +kernel
theorem dX7_comesRoundAfter_7 : decode cX7_comesRoundAfter 7 = .ok (.aload_n 0, 1) := by decide +kernel
theorem dX7_comesRoundAfter_8 : decode cX7_comesRoundAfter 8 = .ok (.getfield 57, 3) := by decide +kernel
theorem dX7_comesRoundAfter_11 : decode cX7_comesRoundAfter 11 = .ok (.iload_n 2, 1) := by decide +kernel
theorem dX7_comesRoundAfter_12 : decode cX7_comesRoundAfter 12 = .ok (.invokevirtual 128, 3) := by decide +kernel
theorem dX7_comesRoundAfter_15 : decode cX7_comesRoundAfter 15 = .ok (.istore_n 3, 1) := by decide +kernel
theorem dX7_comesRoundAfter_16 : decode cX7_comesRoundAfter 16 = .ok (.aload_n 0, 1) := by decide +kernel
theorem dX7_comesRoundAfter_17 : decode cX7_comesRoundAfter 17 = .ok (.getfield 57, 3) := by decide +kernel
theorem dX7_comesRoundAfter_20 : decode cX7_comesRoundAfter 20 = .ok (.iload_n 1, 1) := by decide +kernel
theorem dX7_comesRoundAfter_21 : decode cX7_comesRoundAfter 21 = .ok (.iload_n 2, 1) := by decide +kernel
theorem dX7_comesRoundAfter_22 : decode cX7_comesRoundAfter 22 = .ok (.iadd, 1) := by decide +kernel
theorem dX7_comesRoundAfter_23 : decode cX7_comesRoundAfter 23 = .ok (.invokevirtual 128, 3) := by decide +kernel
theorem dX7_comesRoundAfter_26 : decode cX7_comesRoundAfter 26 = .ok (.iload_n 3, 1) := by decide +kernel
theorem dX7_comesRoundAfter_27 : decode cX7_comesRoundAfter 27 = .ok (.if_icmp .ne 19, 3) := by decide +kernel
theorem dX7_comesRoundAfter_30 : decode cX7_comesRoundAfter 30 = .ok (.aload_n 0, 1) := by decide +kernel
theorem dX7_comesRoundAfter_31 : decode cX7_comesRoundAfter 31 = .ok (.getfield 57, 3) := by decide +kernel
theorem dX7_comesRoundAfter_34 : decode cX7_comesRoundAfter 34 = .ok (.iconst 2, 1) := by decide +kernel
theorem dX7_comesRoundAfter_35 : decode cX7_comesRoundAfter 35 = .ok (.iload_n 1, 1) := by decide +kernel
theorem dX7_comesRoundAfter_36 : decode cX7_comesRoundAfter 36 = .ok (.imul, 1) := by decide +kernel
theorem dX7_comesRoundAfter_37 : decode cX7_comesRoundAfter 37 = .ok (.iload_n 2, 1) := by decide +kernel
theorem dX7_comesRoundAfter_38 : decode cX7_comesRoundAfter 38 = .ok (.iadd, 1) := by decide +kernel
theorem dX7_comesRoundAfter_39 : decode cX7_comesRoundAfter 39 = .ok (.invokevirtual 128, 3) := by decide +kernel
theorem dX7_comesRoundAfter_42 : decode cX7_comesRoundAfter 42 = .ok (.iload_n 3, 1) := by decide +kernel
theorem dX7_comesRoundAfter_43 : decode cX7_comesRoundAfter 43 = .ok (.if_icmp .eq 5, 3) := by decide +kernel
theorem dX7_comesRoundAfter_46 : decode cX7_comesRoundAfter 46 = .ok (.iconst 0, 1) := by decide +kernel
theorem dX7_comesRoundAfter_47 : decode cX7_comesRoundAfter 47 = .ok (.ireturn, 1) := by decide +kernel
theorem dX7_comesRoundAfter_48 : decode cX7_comesRoundAfter 48 = .ok (.iinc 2 1, 3) := by decide +kernel
theorem dX7_comesRoundAfter_51 : decode cX7_comesRoundAfter 51 = .ok (.goto (-49), 3) := by decide +kernel
theorem dX7_comesRoundAfter_54 : decode cX7_comesRoundAfter 54 = .ok (.iconst 1, 1) := by decide +kernel
theorem dX7_comesRoundAfter_55 : decode cX7_comesRoundAfter 55 = .ok (.ireturn, 1) := by decide +kernel
theorem dX7_canBe_0 : decode cX7_canBe 0 = .ok (.aload_n 0, 1) := by decide +kernel
theorem dX7_canBe_1 : decode cX7_canBe 1 = .ok (.getfield 68, 3) := by decide +kernel
theorem dX7_canBe_4 : decode cX7_canBe 4 = .ok (.iload_n 1, 1) := by decide +kernel
theorem dX7_canBe_5 : decode cX7_canBe 5 = .ok (.iload_n 2, 1) := by decide +kernel
theorem dX7_canBe_6 : decode cX7_canBe 6 = .ok (.invokevirtual 277, 3) := by decide +kernel
theorem dX7_canBe_9 : decode cX7_canBe 9 = .ok (.iconst 0, 1) := by decide +kernel
theorem dX7_canBe_10 : decode cX7_canBe 10 = .ok (.istore_n 3, 1) := by decide +kernel
theorem dX7_canBe_11 : decode cX7_canBe 11 = .ok (.iload_n 3, 1) := by decide +kernel
theorem dX7_canBe_12 : decode cX7_canBe 12 = .ok (.aload_n 0, 1) := by decide +kernel
theorem dX7_canBe_13 : decode cX7_canBe 13 = .ok (.getfield 34, 3) := by decide +kernel
theorem dX7_canBe_16 : decode cX7_canBe 16 = .ok (.getfield 147, 3) := by decide +kernel
theorem dX7_canBe_19 : decode cX7_canBe 19 = .ok (.invokevirtual 113, 3) := by decide +kernel
theorem dX7_canBe_22 : decode cX7_canBe 22 = .ok (.if_icmp .ge 41, 3) := by decide +kernel
theorem dX7_canBe_25 : decode cX7_canBe 25 = .ok (.aload_n 0, 1) := by decide +kernel
theorem dX7_canBe_26 : decode cX7_canBe 26 = .ok (.getfield 68, 3) := by decide +kernel
theorem dX7_canBe_29 : decode cX7_canBe 29 = .ok (.aload_n 0, 1) := by decide +kernel
theorem dX7_canBe_30 : decode cX7_canBe 30 = .ok (.getfield 34, 3) := by decide +kernel
theorem dX7_canBe_33 : decode cX7_canBe 33 = .ok (.getfield 147, 3) := by decide +kernel
theorem dX7_canBe_36 : decode cX7_canBe 36 = .ok (.iload_n 3, 1) := by decide +kernel
theorem dX7_canBe_37 : decode cX7_canBe 37 = .ok (.invokevirtual 128, 3) := by decide +kernel
theorem dX7_canBe_40 : decode cX7_canBe 40 = .ok (.invokevirtual 198, 3) := by decide +kernel
theorem dX7_canBe_43 : decode cX7_canBe 43 = .ok (.istore 4, 2) := by decide +kernel
theorem dX7_canBe_45 : decode cX7_canBe 45 = .ok (.aload_n 0, 1) := by decide +kernel
theorem dX7_canBe_46 : decode cX7_canBe 46 = .ok (.iload_n 3, 1) := by decide +kernel
theorem dX7_canBe_47 : decode cX7_canBe 47 = .ok (.iload 4, 2) := by decide +kernel
theorem dX7_canBe_49 : decode cX7_canBe 49 = .ok (.invokevirtual 287, 3) := by decide +kernel
theorem dX7_canBe_52 : decode cX7_canBe 52 = .ok (.ifCond .eq 5, 3) := by decide +kernel
theorem dX7_canBe_55 : decode cX7_canBe 55 = .ok (.iconst 0, 1) := by decide +kernel
theorem dX7_canBe_56 : decode cX7_canBe 56 = .ok (.ireturn, 1) := by decide +kernel
theorem dX7_canBe_57 : decode cX7_canBe 57 = .ok (.iinc 3 1, 3) := by decide +kernel
theorem dX7_canBe_60 : decode cX7_canBe 60 = .ok (.goto (-49), 3) := by decide +kernel
theorem dX7_canBe_63 : decode cX7_canBe 63 = .ok (.iconst 1, 1) := by decide +kernel
theorem dX7_canBe_64 : decode cX7_canBe 64 = .ok (.ireturn, 1) := by decide +kernel
theorem dX7_speaksAgainst_0 : decode cX7_speaksAgainst 0 = .ok (.iconst 0, 1) := by decide +kernel
theorem dX7_speaksAgainst_1 : decode cX7_speaksAgainst 1 = .ok (.istore_n 3, 1) := by decide +kernel
theorem dX7_speaksAgainst_2 : decode cX7_speaksAgainst 2 = .ok (.iload_n 3, 1) := by decide +kernel
theorem dX7_speaksAgainst_3 : decode cX7_speaksAgainst 3 = .ok (.aload_n 0, 1) := by decide +kernel
theorem dX7_speaksAgainst_4 : decode cX7_speaksAgainst 4 = .ok (.getfield 54, 3) := by decide +kernel
theorem dX7_speaksAgainst_7 : decode cX7_speaksAgainst 7 = .ok (.invokevirtual 113, 3) := by decide +kernel
theorem dX7_speaksAgainst_10 : decode cX7_speaksAgainst 10 = .ok (.if_icmp .ge 39, 3) := by decide +kernel
theorem dX7_speaksAgainst_13 : decode cX7_speaksAgainst 13 = .ok (.aload_n 0, 1) := by decide +kernel
theorem dX7_speaksAgainst_14 : decode cX7_speaksAgainst 14 = .ok (.getfield 54, 3) := by decide +kernel
theorem dX7_speaksAgainst_17 : decode cX7_speaksAgainst 17 = .ok (.iload_n 3, 1) := by decide +kernel
theorem dX7_speaksAgainst_18 : decode cX7_speaksAgainst 18 = .ok (.invokevirtual 128, 3) := by decide +kernel
theorem dX7_speaksAgainst_21 : decode cX7_speaksAgainst 21 = .ok (.istore 4, 2) := by decide +kernel
theorem dX7_speaksAgainst_23 : decode cX7_speaksAgainst 23 = .ok (.iload 4, 2) := by decide +kernel
theorem dX7_speaksAgainst_25 : decode cX7_speaksAgainst 25 = .ok (.bipush 6, 2) := by decide +kernel
theorem dX7_speaksAgainst_27 : decode cX7_speaksAgainst 27 = .ok (.idiv, 1) := by decide +kernel
theorem dX7_speaksAgainst_28 : decode cX7_speaksAgainst 28 = .ok (.iload_n 1, 1) := by decide +kernel
theorem dX7_speaksAgainst_29 : decode cX7_speaksAgainst 29 = .ok (.if_icmp .ne 14, 3) := by decide +kernel
theorem dX7_speaksAgainst_32 : decode cX7_speaksAgainst 32 = .ok (.iload 4, 2) := by decide +kernel
theorem dX7_speaksAgainst_34 : decode cX7_speaksAgainst 34 = .ok (.bipush 6, 2) := by decide +kernel
theorem dX7_speaksAgainst_36 : decode cX7_speaksAgainst 36 = .ok (.irem, 1) := by decide +kernel
theorem dX7_speaksAgainst_37 : decode cX7_speaksAgainst 37 = .ok (.iload_n 2, 1) := by decide +kernel
theorem dX7_speaksAgainst_38 : decode cX7_speaksAgainst 38 = .ok (.if_icmp .eq 5, 3) := by decide +kernel
theorem dX7_speaksAgainst_41 : decode cX7_speaksAgainst 41 = .ok (.iconst 1, 1) := by decide +kernel
theorem dX7_speaksAgainst_42 : decode cX7_speaksAgainst 42 = .ok (.ireturn, 1) := by decide +kernel
theorem dX7_speaksAgainst_43 : decode cX7_speaksAgainst 43 = .ok (.iinc 3 1, 3) := by decide +kernel
theorem dX7_speaksAgainst_46 : decode cX7_speaksAgainst 46 = .ok (.goto (-44), 3) := by decide +kernel
theorem dX7_speaksAgainst_49 : decode cX7_speaksAgainst 49 = .ok (.iconst 0, 1) := by decide +kernel
theorem dX7_speaksAgainst_50 : decode cX7_speaksAgainst 50 = .ok (.ireturn, 1) := by decide +kernel
theorem dX7_mostAlike_0 : decode cX7_mostAlike 0 = .ok (.iconst 0, 1) := by decide +kernel
theorem dX7_mostAlike_1 : decode cX7_mostAlike 1 = .ok (.istore_n 3, 1) := by decide +kernel
theorem dX7_mostAlike_2 : decode cX7_mostAlike 2 = .ok (.aload_n 0, 1) := by decide +kernel
theorem dX7_mostAlike_3 : decode cX7_mostAlike 3 = .ok (.getfield 60, 3) := by decide +kernel
theorem dX7_mostAlike_6 : decode cX7_mostAlike 6 = .ok (.bipush 6, 2) := by decide +kernel
theorem dX7_mostAlike_8 : decode cX7_mostAlike 8 = .ok (.iconst 0, 1) := by decide +kernel
theorem dX7_mostAlike_9 : decode cX7_mostAlike 9 = .ok (.invokevirtual 290, 3) := by decide +kernel
theorem dX7_mostAlike_12 : decode cX7_mostAlike 12 = .ok (.iconst 0, 1) := by decide +kernel
theorem dX7_mostAlike_13 : decode cX7_mostAlike 13 = .ok (.istore 4, 2) := by decide +kernel
theorem dX7_mostAlike_15 : decode cX7_mostAlike 15 = .ok (.iload 4, 2) := by decide +kernel
theorem dX7_mostAlike_17 : decode cX7_mostAlike 17 = .ok (.iconst 4, 1) := by decide +kernel
theorem dX7_mostAlike_18 : decode cX7_mostAlike 18 = .ok (.if_icmp .ge 65, 3) := by decide +kernel
theorem dX7_mostAlike_21 : decode cX7_mostAlike 21 = .ok (.iload_n 1, 1) := by decide +kernel
theorem dX7_mostAlike_22 : decode cX7_mostAlike 22 = .ok (.iload 4, 2) := by decide +kernel
theorem dX7_mostAlike_24 : decode cX7_mostAlike 24 = .ok (.ishr, 1) := by decide +kernel
theorem dX7_mostAlike_25 : decode cX7_mostAlike 25 = .ok (.iconst 1, 1) := by decide +kernel
theorem dX7_mostAlike_26 : decode cX7_mostAlike 26 = .ok (.iand, 1) := by decide +kernel
theorem dX7_mostAlike_27 : decode cX7_mostAlike 27 = .ok (.iconst 1, 1) := by decide +kernel
theorem dX7_mostAlike_28 : decode cX7_mostAlike 28 = .ok (.if_icmp .ne 49, 3) := by decide +kernel
theorem dX7_mostAlike_31 : decode cX7_mostAlike 31 = .ok (.aload_n 0, 1) := by decide +kernel
theorem dX7_mostAlike_32 : decode cX7_mostAlike 32 = .ok (.iload 4, 2) := by decide +kernel
theorem dX7_mostAlike_34 : decode cX7_mostAlike 34 = .ok (.invokevirtual 160, 3) := by decide +kernel
theorem dX7_mostAlike_37 : decode cX7_mostAlike 37 = .ok (.iload_n 2, 1) := by decide +kernel
theorem dX7_mostAlike_38 : decode cX7_mostAlike 38 = .ok (.invokevirtual 164, 3) := by decide +kernel
theorem dX7_mostAlike_41 : decode cX7_mostAlike 41 = .ok (.istore 5, 2) := by decide +kernel
theorem dX7_mostAlike_43 : decode cX7_mostAlike 43 = .ok (.aload_n 0, 1) := by decide +kernel
theorem dX7_mostAlike_44 : decode cX7_mostAlike 44 = .ok (.getfield 60, 3) := by decide +kernel
theorem dX7_mostAlike_47 : decode cX7_mostAlike 47 = .ok (.iload 5, 2) := by decide +kernel
theorem dX7_mostAlike_49 : decode cX7_mostAlike 49 = .ok (.aload_n 0, 1) := by decide +kernel
theorem dX7_mostAlike_50 : decode cX7_mostAlike 50 = .ok (.getfield 60, 3) := by decide +kernel
theorem dX7_mostAlike_53 : decode cX7_mostAlike 53 = .ok (.iload 5, 2) := by decide +kernel
theorem dX7_mostAlike_55 : decode cX7_mostAlike 55 = .ok (.invokevirtual 128, 3) := by decide +kernel
theorem dX7_mostAlike_58 : decode cX7_mostAlike 58 = .ok (.iconst 1, 1) := by decide +kernel
theorem dX7_mostAlike_59 : decode cX7_mostAlike 59 = .ok (.iadd, 1) := by decide +kernel
theorem dX7_mostAlike_60 : decode cX7_mostAlike 60 = .ok (.invokevirtual 293, 3) := by decide +kernel
theorem dX7_mostAlike_63 : decode cX7_mostAlike 63 = .ok (.iload_n 3, 1) := by decide +kernel
theorem dX7_mostAlike_64 : decode cX7_mostAlike 64 = .ok (.aload_n 0, 1) := by decide +kernel
theorem dX7_mostAlike_65 : decode cX7_mostAlike 65 = .ok (.getfield 60, 3) := by decide +kernel
theorem dX7_mostAlike_68 : decode cX7_mostAlike 68 = .ok (.iload 5, 2) := by decide +kernel
theorem dX7_mostAlike_70 : decode cX7_mostAlike 70 = .ok (.invokevirtual 128, 3) := by decide +kernel
theorem dX7_mostAlike_73 : decode cX7_mostAlike 73 = .ok (.invokestatic 296, 3) := by decide +kernel
theorem dX7_mostAlike_76 : decode cX7_mostAlike 76 = .ok (.istore_n 3, 1) := by decide +kernel
theorem dX7_mostAlike_77 : decode cX7_mostAlike 77 = .ok (.iinc 4 1, 3) := by decide +kernel
theorem dX7_mostAlike_80 : decode cX7_mostAlike 80 = .ok (.goto (-65), 3) := by decide +kernel
theorem dX7_mostAlike_83 : decode cX7_mostAlike 83 = .ok (.iload_n 3, 1) := by decide +kernel
theorem dX7_mostAlike_84 : decode cX7_mostAlike 84 = .ok (.ireturn, 1) := by decide +kernel
theorem dX7_firstWrong_0 : decode cX7_firstWrong 0 = .ok (.iconst 0, 1) := by decide +kernel
theorem dX7_firstWrong_1 : decode cX7_firstWrong 1 = .ok (.istore 4, 2) := by decide +kernel
theorem dX7_firstWrong_3 : decode cX7_firstWrong 3 = .ok (.iload 4, 2) := by decide +kernel
theorem dX7_firstWrong_5 : decode cX7_firstWrong 5 = .ok (.aload_n 0, 1) := by decide +kernel
theorem dX7_firstWrong_6 : decode cX7_firstWrong 6 = .ok (.getfield 34, 3) := by decide +kernel
theorem dX7_firstWrong_9 : decode cX7_firstWrong 9 = .ok (.invokevirtual 116, 3) := by decide +kernel
theorem dX7_firstWrong_12 : decode cX7_firstWrong 12 = .ok (.if_icmp .ge 87, 3) := by decide +kernel
theorem dX7_firstWrong_15 : decode cX7_firstWrong 15 = .ok (.aload_n 0, 1) := by decide +kernel
theorem dX7_firstWrong_16 : decode cX7_firstWrong 16 = .ok (.getfield 34, 3) := by decide +kernel
theorem dX7_firstWrong_19 : decode cX7_firstWrong 19 = .ok (.getfield 125, 3) := by decide +kernel
theorem dX7_firstWrong_22 : decode cX7_firstWrong 22 = .ok (.iload 4, 2) := by decide +kernel
theorem dX7_firstWrong_24 : decode cX7_firstWrong 24 = .ok (.invokevirtual 128, 3) := by decide +kernel
theorem dX7_firstWrong_27 : decode cX7_firstWrong 27 = .ok (.iload_n 2, 1) := by decide +kernel
theorem dX7_firstWrong_28 : decode cX7_firstWrong 28 = .ok (.iand, 1) := by decide +kernel
theorem dX7_firstWrong_29 : decode cX7_firstWrong 29 = .ok (.iload_n 2, 1) := by decide +kernel
theorem dX7_firstWrong_30 : decode cX7_firstWrong 30 = .ok (.if_icmp .ne 7, 3) := by decide +kernel
theorem dX7_firstWrong_33 : decode cX7_firstWrong 33 = .ok (.iconst 1, 1) := by decide +kernel
theorem dX7_firstWrong_34 : decode cX7_firstWrong 34 = .ok (.goto 4, 3) := by decide +kernel
theorem dX7_firstWrong_37 : decode cX7_firstWrong 37 = .ok (.iconst 0, 1) := by decide +kernel
theorem dX7_firstWrong_38 : decode cX7_firstWrong 38 = .ok (.istore 5, 2) := by decide +kernel
theorem dX7_firstWrong_40 : decode cX7_firstWrong 40 = .ok (.aload_n 0, 1) := by decide +kernel
theorem dX7_firstWrong_41 : decode cX7_firstWrong 41 = .ok (.getfield 34, 3) := by decide +kernel
theorem dX7_firstWrong_44 : decode cX7_firstWrong 44 = .ok (.getfield 132, 3) := by decide +kernel
theorem dX7_firstWrong_47 : decode cX7_firstWrong 47 = .ok (.iload 4, 2) := by decide +kernel
theorem dX7_firstWrong_49 : decode cX7_firstWrong 49 = .ok (.invokevirtual 128, 3) := by decide +kernel
theorem dX7_firstWrong_52 : decode cX7_firstWrong 52 = .ok (.iload_n 1, 1) := by decide +kernel
theorem dX7_firstWrong_53 : decode cX7_firstWrong 53 = .ok (.if_icmp .ne 7, 3) := by decide +kernel
theorem dX7_firstWrong_56 : decode cX7_firstWrong 56 = .ok (.iconst 1, 1) := by decide +kernel
theorem dX7_firstWrong_57 : decode cX7_firstWrong 57 = .ok (.goto 4, 3) := by decide +kernel
theorem dX7_firstWrong_60 : decode cX7_firstWrong 60 = .ok (.iconst 0, 1) := by decide +kernel
theorem dX7_firstWrong_61 : decode cX7_firstWrong 61 = .ok (.istore 6, 2) := by decide +kernel
theorem dX7_firstWrong_63 : decode cX7_firstWrong 63 = .ok (.iload_n 3, 1) := by decide +kernel
theorem dX7_firstWrong_64 : decode cX7_firstWrong 64 = .ok (.ifCond .eq 16, 3) := by decide +kernel
theorem dX7_firstWrong_67 : decode cX7_firstWrong 67 = .ok (.iload 6, 2) := by decide +kernel
theorem dX7_firstWrong_69 : decode cX7_firstWrong 69 = .ok (.ifCond .eq 24, 3) := by decide +kernel
theorem dX7_firstWrong_72 : decode cX7_firstWrong 72 = .ok (.iload 5, 2) := by decide +kernel
theorem dX7_firstWrong_74 : decode cX7_firstWrong 74 = .ok (.ifCond .ne 19, 3) := by decide +kernel
theorem dX7_firstWrong_77 : decode cX7_firstWrong 77 = .ok (.goto 13, 3) := by decide +kernel
theorem dX7_firstWrong_80 : decode cX7_firstWrong 80 = .ok (.iload 5, 2) := by decide +kernel
theorem dX7_firstWrong_82 : decode cX7_firstWrong 82 = .ok (.ifCond .eq 11, 3) := by decide +kernel
theorem dX7_firstWrong_85 : decode cX7_firstWrong 85 = .ok (.iload 6, 2) := by decide +kernel
theorem dX7_firstWrong_87 : decode cX7_firstWrong 87 = .ok (.ifCond .ne 6, 3) := by decide +kernel
theorem dX7_firstWrong_90 : decode cX7_firstWrong 90 = .ok (.iload 4, 2) := by decide +kernel
theorem dX7_firstWrong_92 : decode cX7_firstWrong 92 = .ok (.ireturn, 1) := by decide +kernel
theorem dX7_firstWrong_93 : decode cX7_firstWrong 93 = .ok (.iinc 4 1, 3) := by decide +kernel
theorem dX7_firstWrong_96 : decode cX7_firstWrong 96 = .ok (.goto (-93), 3) := by decide +kernel
theorem dX7_firstWrong_99 : decode cX7_firstWrong 99 = .ok (.bipush (-4), 2) := by decide +kernel
theorem dX7_firstWrong_101 : decode cX7_firstWrong 101 = .ok (.ireturn, 1) := by decide +kernel
theorem dX7_drawnKind_0 : decode cX7_drawnKind 0 = .ok (.aload_n 0, 1) := by decide +kernel
theorem dX7_drawnKind_1 : decode cX7_drawnKind 1 = .ok (.getfield 34, 3) := by decide +kernel
theorem dX7_drawnKind_4 : decode cX7_drawnKind 4 = .ok (.invokevirtual 116, 3) := by decide +kernel
theorem dX7_drawnKind_7 : decode cX7_drawnKind 7 = .ok (.istore_n 3, 1) := by decide +kernel
theorem dX7_drawnKind_8 : decode cX7_drawnKind 8 = .ok (.iload_n 3, 1) := by decide +kernel
theorem dX7_drawnKind_9 : decode cX7_drawnKind 9 = .ok (.ifCond .gt 5, 3) := by decide +kernel
theorem dX7_drawnKind_12 : decode cX7_drawnKind 12 = .ok (.iconst 0, 1) := by decide +kernel
theorem dX7_drawnKind_13 : decode cX7_drawnKind 13 = .ok (.ireturn, 1) := by decide +kernel
theorem dX7_drawnKind_14 : decode cX7_drawnKind 14 = .ok (.ldc2_w 301, 3) := by decide +kernel
theorem dX7_drawnKind_17 : decode cX7_drawnKind 17 = .ok (.iload_n 1, 1) := by decide +kernel
theorem dX7_drawnKind_18 : decode cX7_drawnKind 18 = .ok (.i2l, 1) := by decide +kernel
theorem dX7_drawnKind_19 : decode cX7_drawnKind 19 = .ok (.lmul, 1) := by decide +kernel
theorem dX7_drawnKind_20 : decode cX7_drawnKind 20 = .ok (.ldc2_w 303, 3) := by decide +kernel
theorem dX7_drawnKind_23 : decode cX7_drawnKind 23 = .ok (.iload_n 2, 1) := by decide +kernel
theorem dX7_drawnKind_24 : decode cX7_drawnKind 24 = .ok (.i2l, 1) := by decide +kernel
theorem dX7_drawnKind_25 : decode cX7_drawnKind 25 = .ok (.lmul, 1) := by decide +kernel
theorem dX7_drawnKind_26 : decode cX7_drawnKind 26 = .ok (.ladd, 1) := by decide +kernel
theorem dX7_drawnKind_27 : decode cX7_drawnKind 27 = .ok (.lconst 1, 1) := by decide +kernel
theorem dX7_drawnKind_28 : decode cX7_drawnKind 28 = .ok (.ladd, 1) := by decide +kernel
theorem dX7_drawnKind_29 : decode cX7_drawnKind 29 = .ok (.lstore 4, 2) := by decide +kernel
theorem dX7_drawnKind_31 : decode cX7_drawnKind 31 = .ok (.lload 4, 2) := by decide +kernel
theorem dX7_drawnKind_33 : decode cX7_drawnKind 33 = .ok (.lload 4, 2) := by decide +kernel
theorem dX7_drawnKind_35 : decode cX7_drawnKind 35 = .ok (.lmul, 1) := by decide +kernel
theorem dX7_drawnKind_36 : decode cX7_drawnKind 36 = .ok (.ldc2_w 305, 3) := by decide +kernel
theorem dX7_drawnKind_39 : decode cX7_drawnKind 39 = .ok (.lrem, 1) := by decide +kernel
theorem dX7_drawnKind_40 : decode cX7_drawnKind 40 = .ok (.ldc2_w 307, 3) := by decide +kernel
theorem dX7_drawnKind_43 : decode cX7_drawnKind 43 = .ok (.ldiv, 1) := by decide +kernel
theorem dX7_drawnKind_44 : decode cX7_drawnKind 44 = .ok (.iload_n 3, 1) := by decide +kernel
theorem dX7_drawnKind_45 : decode cX7_drawnKind 45 = .ok (.i2l, 1) := by decide +kernel
theorem dX7_drawnKind_46 : decode cX7_drawnKind 46 = .ok (.lrem, 1) := by decide +kernel
theorem dX7_drawnKind_47 : decode cX7_drawnKind 47 = .ok (.l2i, 1) := by decide +kernel
theorem dX7_drawnKind_48 : decode cX7_drawnKind 48 = .ok (.ireturn, 1) := by decide +kernel
theorem dX7_lossAtMothersTurn_0 : decode cX7_lossAtMothersTurn 0 = .ok (.iload_n 2, 1) := by decide +kernel
theorem dX7_lossAtMothersTurn_1 : decode cX7_lossAtMothersTurn 1 = .ok (.ifCond .gt 5, 3) := by decide +kernel
theorem dX7_lossAtMothersTurn_4 : decode cX7_lossAtMothersTurn 4 = .ok (.iconst 0, 1) := by decide +kernel
theorem dX7_lossAtMothersTurn_5 : decode cX7_lossAtMothersTurn 5 = .ok (.ireturn, 1) := by decide +kernel
theorem dX7_lossAtMothersTurn_6 : decode cX7_lossAtMothersTurn 6 = .ok (.aload_n 0, 1) := by decide +kernel
theorem dX7_lossAtMothersTurn_7 : decode cX7_lossAtMothersTurn 7 = .ok (.aload_n 1, 1) := by decide +kernel
theorem dX7_lossAtMothersTurn_8 : decode cX7_lossAtMothersTurn 8 = .ok (.iload_n 2, 1) := by decide +kernel
theorem dX7_lossAtMothersTurn_9 : decode cX7_lossAtMothersTurn 9 = .ok (.ldc 236, 2) := by decide +kernel
theorem dX7_lossAtMothersTurn_11 : decode cX7_lossAtMothersTurn 11 = .ok (.invokestatic 309, 3) := by decide +kernel
theorem dX7_lossAtMothersTurn_14 : decode cX7_lossAtMothersTurn 14 = .ok (.istore 4, 2) := by decide +kernel
theorem dX7_lossAtMothersTurn_16 : decode cX7_lossAtMothersTurn 16 = .ok (.iconst 0, 1) := by decide +kernel
theorem dX7_lossAtMothersTurn_17 : decode cX7_lossAtMothersTurn 17 = .ok (.istore 5, 2) := by decide +kernel
theorem dX7_lossAtMothersTurn_19 : decode cX7_lossAtMothersTurn 19 = .ok (.iload 5, 2) := by decide +kernel
theorem dX7_lossAtMothersTurn_21 : decode cX7_lossAtMothersTurn 21 = .ok (.aload_n 0, 1) := by decide +kernel
theorem dX7_lossAtMothersTurn_22 : decode cX7_lossAtMothersTurn 22 = .ok (.invokevirtual 116, 3) := by decide +kernel
theorem dX7_lossAtMothersTurn_25 : decode cX7_lossAtMothersTurn 25 = .ok (.bipush 6, 2) := by decide +kernel
theorem dX7_lossAtMothersTurn_27 : decode cX7_lossAtMothersTurn 27 = .ok (.imul, 1) := by decide +kernel
theorem dX7_lossAtMothersTurn_28 : decode cX7_lossAtMothersTurn 28 = .ok (.if_icmp .ge 60, 3) := by decide +kernel
theorem dX7_lossAtMothersTurn_31 : decode cX7_lossAtMothersTurn 31 = .ok (.iload 4, 2) := by decide +kernel
theorem dX7_lossAtMothersTurn_33 : decode cX7_lossAtMothersTurn 33 = .ok (.iload_n 3, 1) := by decide +kernel
theorem dX7_lossAtMothersTurn_34 : decode cX7_lossAtMothersTurn 34 = .ok (.if_icmp .le 54, 3) := by decide +kernel
theorem dX7_lossAtMothersTurn_37 : decode cX7_lossAtMothersTurn 37 = .ok (.aload_n 1, 1) := by decide +kernel
theorem dX7_lossAtMothersTurn_38 : decode cX7_lossAtMothersTurn 38 = .ok (.invokevirtual 312, 3) := by decide +kernel
theorem dX7_lossAtMothersTurn_41 : decode cX7_lossAtMothersTurn 41 = .ok (.astore 6, 2) := by decide +kernel
theorem dX7_lossAtMothersTurn_43 : decode cX7_lossAtMothersTurn 43 = .ok (.aload 6, 2) := by decide +kernel
theorem dX7_lossAtMothersTurn_45 : decode cX7_lossAtMothersTurn 45 = .ok (.ifnonnull 6, 3) := by decide +kernel
theorem dX7_lossAtMothersTurn_48 : decode cX7_lossAtMothersTurn 48 = .ok (.iload 4, 2) := by decide +kernel
theorem dX7_lossAtMothersTurn_50 : decode cX7_lossAtMothersTurn 50 = .ok (.ireturn, 1) := by decide +kernel
theorem dX7_lossAtMothersTurn_51 : decode cX7_lossAtMothersTurn 51 = .ok (.aload 6, 2) := by decide +kernel
theorem dX7_lossAtMothersTurn_53 : decode cX7_lossAtMothersTurn 53 = .ok (.iload 5, 2) := by decide +kernel
theorem dX7_lossAtMothersTurn_55 : decode cX7_lossAtMothersTurn 55 = .ok (.bipush 6, 2) := by decide +kernel
theorem dX7_lossAtMothersTurn_57 : decode cX7_lossAtMothersTurn 57 = .ok (.idiv, 1) := by decide +kernel
theorem dX7_lossAtMothersTurn_58 : decode cX7_lossAtMothersTurn 58 = .ok (.iload 5, 2) := by decide +kernel
theorem dX7_lossAtMothersTurn_60 : decode cX7_lossAtMothersTurn 60 = .ok (.bipush 6, 2) := by decide +kernel
theorem dX7_lossAtMothersTurn_62 : decode cX7_lossAtMothersTurn 62 = .ok (.irem, 1) := by decide +kernel
theorem dX7_lossAtMothersTurn_63 : decode cX7_lossAtMothersTurn 63 = .ok (.invokevirtual 217, 3) := by decide +kernel
theorem dX7_lossAtMothersTurn_66 : decode cX7_lossAtMothersTurn 66 = .ok (.iload 4, 2) := by decide +kernel
theorem dX7_lossAtMothersTurn_68 : decode cX7_lossAtMothersTurn 68 = .ok (.aload_n 0, 1) := by decide +kernel
theorem dX7_lossAtMothersTurn_69 : decode cX7_lossAtMothersTurn 69 = .ok (.aload 6, 2) := by decide +kernel
theorem dX7_lossAtMothersTurn_71 : decode cX7_lossAtMothersTurn 71 = .ok (.iload_n 2, 1) := by decide +kernel
theorem dX7_lossAtMothersTurn_72 : decode cX7_lossAtMothersTurn 72 = .ok (.iload 4, 2) := by decide +kernel
theorem dX7_lossAtMothersTurn_74 : decode cX7_lossAtMothersTurn 74 = .ok (.invokestatic 309, 3) := by decide +kernel
theorem dX7_lossAtMothersTurn_77 : decode cX7_lossAtMothersTurn 77 = .ok (.invokestatic 316, 3) := by decide +kernel
theorem dX7_lossAtMothersTurn_80 : decode cX7_lossAtMothersTurn 80 = .ok (.istore 4, 2) := by decide +kernel
theorem dX7_lossAtMothersTurn_82 : decode cX7_lossAtMothersTurn 82 = .ok (.iinc 5 1, 3) := by decide +kernel
theorem dX7_lossAtMothersTurn_85 : decode cX7_lossAtMothersTurn 85 = .ok (.goto (-66), 3) := by decide +kernel
theorem dX7_lossAtMothersTurn_88 : decode cX7_lossAtMothersTurn 88 = .ok (.iload 4, 2) := by decide +kernel
theorem dX7_lossAtMothersTurn_90 : decode cX7_lossAtMothersTurn 90 = .ok (.ireturn, 1) := by decide +kernel
theorem dX7_lossAtOthersTurn_0 : decode cX7_lossAtOthersTurn 0 = .ok (.iconst 0, 1) := by decide +kernel
theorem dX7_lossAtOthersTurn_1 : decode cX7_lossAtOthersTurn 1 = .ok (.istore 4, 2) := by decide +kernel
theorem dX7_lossAtOthersTurn_3 : decode cX7_lossAtOthersTurn 3 = .ok (.iconst 0, 1) := by decide +kernel
theorem dX7_lossAtOthersTurn_4 : decode cX7_lossAtOthersTurn 4 = .ok (.istore 5, 2) := by decide +kernel
theorem dX7_lossAtOthersTurn_6 : decode cX7_lossAtOthersTurn 6 = .ok (.iload 5, 2) := by decide +kernel
theorem dX7_lossAtOthersTurn_8 : decode cX7_lossAtOthersTurn 8 = .ok (.aload_n 0, 1) := by decide +kernel
theorem dX7_lossAtOthersTurn_9 : decode cX7_lossAtOthersTurn 9 = .ok (.invokevirtual 116, 3) := by decide +kernel
theorem dX7_lossAtOthersTurn_12 : decode cX7_lossAtOthersTurn 12 = .ok (.if_icmp .ge 89, 3) := by decide +kernel
theorem dX7_lossAtOthersTurn_15 : decode cX7_lossAtOthersTurn 15 = .ok (.iload 4, 2) := by decide +kernel
theorem dX7_lossAtOthersTurn_17 : decode cX7_lossAtOthersTurn 17 = .ok (.iload_n 3, 1) := by decide +kernel
theorem dX7_lossAtOthersTurn_18 : decode cX7_lossAtOthersTurn 18 = .ok (.if_icmp .ge 83, 3) := by decide +kernel
theorem dX7_lossAtOthersTurn_21 : decode cX7_lossAtOthersTurn 21 = .ok (.aload_n 0, 1) := by decide +kernel
theorem dX7_lossAtOthersTurn_22 : decode cX7_lossAtOthersTurn 22 = .ok (.iload 5, 2) := by decide +kernel
theorem dX7_lossAtOthersTurn_24 : decode cX7_lossAtOthersTurn 24 = .ok (.aload_n 1, 1) := by decide +kernel
theorem dX7_lossAtOthersTurn_25 : decode cX7_lossAtOthersTurn 25 = .ok (.iload 5, 2) := by decide +kernel
theorem dX7_lossAtOthersTurn_27 : decode cX7_lossAtOthersTurn 27 = .ok (.invokevirtual 164, 3) := by decide +kernel
theorem dX7_lossAtOthersTurn_30 : decode cX7_lossAtOthersTurn 30 = .ok (.invokevirtual 265, 3) := by decide +kernel
theorem dX7_lossAtOthersTurn_33 : decode cX7_lossAtOthersTurn 33 = .ok (.istore 6, 2) := by decide +kernel
theorem dX7_lossAtOthersTurn_35 : decode cX7_lossAtOthersTurn 35 = .ok (.iload_n 2, 1) := by decide +kernel
theorem dX7_lossAtOthersTurn_36 : decode cX7_lossAtOthersTurn 36 = .ok (.iconst 1, 1) := by decide +kernel
theorem dX7_lossAtOthersTurn_37 : decode cX7_lossAtOthersTurn 37 = .ok (.if_icmp .le 10, 3) := by decide +kernel
theorem dX7_lossAtOthersTurn_40 : decode cX7_lossAtOthersTurn 40 = .ok (.aload_n 1, 1) := by decide +kernel
theorem dX7_lossAtOthersTurn_41 : decode cX7_lossAtOthersTurn 41 = .ok (.invokevirtual 312, 3) := by decide +kernel
theorem dX7_lossAtOthersTurn_44 : decode cX7_lossAtOthersTurn 44 = .ok (.goto 4, 3) := by decide +kernel
theorem dX7_lossAtOthersTurn_47 : decode cX7_lossAtOthersTurn 47 = .ok (.aconst_null, 1) := by decide +kernel
theorem dX7_lossAtOthersTurn_48 : decode cX7_lossAtOthersTurn 48 = .ok (.astore 7, 2) := by decide +kernel
theorem dX7_lossAtOthersTurn_50 : decode cX7_lossAtOthersTurn 50 = .ok (.aload 7, 2) := by decide +kernel
theorem dX7_lossAtOthersTurn_52 : decode cX7_lossAtOthersTurn 52 = .ok (.ifnull 34, 3) := by decide +kernel
theorem dX7_lossAtOthersTurn_55 : decode cX7_lossAtOthersTurn 55 = .ok (.aload 7, 2) := by decide +kernel
theorem dX7_lossAtOthersTurn_57 : decode cX7_lossAtOthersTurn 57 = .ok (.iload 5, 2) := by decide +kernel
theorem dX7_lossAtOthersTurn_59 : decode cX7_lossAtOthersTurn 59 = .ok (.invokevirtual 198, 3) := by decide +kernel
theorem dX7_lossAtOthersTurn_62 : decode cX7_lossAtOthersTurn 62 = .ok (.pop, 1) := by decide +kernel
theorem dX7_lossAtOthersTurn_63 : decode cX7_lossAtOthersTurn 63 = .ok (.iload 6, 2) := by decide +kernel
theorem dX7_lossAtOthersTurn_65 : decode cX7_lossAtOthersTurn 65 = .ok (.aload_n 0, 1) := by decide +kernel
theorem dX7_lossAtOthersTurn_66 : decode cX7_lossAtOthersTurn 66 = .ok (.aload 7, 2) := by decide +kernel
theorem dX7_lossAtOthersTurn_68 : decode cX7_lossAtOthersTurn 68 = .ok (.iload_n 2, 1) := by decide +kernel
theorem dX7_lossAtOthersTurn_69 : decode cX7_lossAtOthersTurn 69 = .ok (.iconst 1, 1) := by decide +kernel
theorem dX7_lossAtOthersTurn_70 : decode cX7_lossAtOthersTurn 70 = .ok (.isub, 1) := by decide +kernel
theorem dX7_lossAtOthersTurn_71 : decode cX7_lossAtOthersTurn 71 = .ok (.iconst 0, 1) := by decide +kernel
theorem dX7_lossAtOthersTurn_72 : decode cX7_lossAtOthersTurn 72 = .ok (.iload 4, 2) := by decide +kernel
theorem dX7_lossAtOthersTurn_74 : decode cX7_lossAtOthersTurn 74 = .ok (.iload 6, 2) := by decide +kernel
theorem dX7_lossAtOthersTurn_76 : decode cX7_lossAtOthersTurn 76 = .ok (.isub, 1) := by decide +kernel
theorem dX7_lossAtOthersTurn_77 : decode cX7_lossAtOthersTurn 77 = .ok (.invokestatic 296, 3) := by decide +kernel
theorem dX7_lossAtOthersTurn_80 : decode cX7_lossAtOthersTurn 80 = .ok (.invokestatic 246, 3) := by decide +kernel
theorem dX7_lossAtOthersTurn_83 : decode cX7_lossAtOthersTurn 83 = .ok (.iadd, 1) := by decide +kernel
theorem dX7_lossAtOthersTurn_84 : decode cX7_lossAtOthersTurn 84 = .ok (.istore 6, 2) := by decide +kernel
theorem dX7_lossAtOthersTurn_86 : decode cX7_lossAtOthersTurn 86 = .ok (.iload 4, 2) := by decide +kernel
theorem dX7_lossAtOthersTurn_88 : decode cX7_lossAtOthersTurn 88 = .ok (.iload 6, 2) := by decide +kernel
theorem dX7_lossAtOthersTurn_90 : decode cX7_lossAtOthersTurn 90 = .ok (.invokestatic 296, 3) := by decide +kernel
theorem dX7_lossAtOthersTurn_93 : decode cX7_lossAtOthersTurn 93 = .ok (.istore 4, 2) := by decide +kernel
theorem dX7_lossAtOthersTurn_95 : decode cX7_lossAtOthersTurn 95 = .ok (.iinc 5 1, 3) := by decide +kernel
theorem dX7_lossAtOthersTurn_98 : decode cX7_lossAtOthersTurn 98 = .ok (.goto (-92), 3) := by decide +kernel
theorem dX7_lossAtOthersTurn_101 : decode cX7_lossAtOthersTurn 101 = .ok (.iload 4, 2) := by decide +kernel
theorem dX7_lossAtOthersTurn_103 : decode cX7_lossAtOthersTurn 103 = .ok (.ireturn, 1) := by decide +kernel
theorem dX7_lossByChances_0 : decode cX7_lossByChances 0 = .ok (.iload_n 2, 1) := by decide +kernel
theorem dX7_lossByChances_1 : decode cX7_lossByChances 1 = .ok (.ifCond .gt 5, 3) := by decide +kernel
theorem dX7_lossByChances_4 : decode cX7_lossByChances 4 = .ok (.iconst 0, 1) := by decide +kernel
theorem dX7_lossByChances_5 : decode cX7_lossByChances 5 = .ok (.ireturn, 1) := by decide +kernel
theorem dX7_lossByChances_6 : decode cX7_lossByChances 6 = .ok (.iconst 0, 1) := by decide +kernel
theorem dX7_lossByChances_7 : decode cX7_lossByChances 7 = .ok (.istore 4, 2) := by decide +kernel
theorem dX7_lossByChances_9 : decode cX7_lossByChances 9 = .ok (.iconst 0, 1) := by decide +kernel
theorem dX7_lossByChances_10 : decode cX7_lossByChances 10 = .ok (.istore 5, 2) := by decide +kernel
theorem dX7_lossByChances_12 : decode cX7_lossByChances 12 = .ok (.iload 5, 2) := by decide +kernel
theorem dX7_lossByChances_14 : decode cX7_lossByChances 14 = .ok (.aload_n 0, 1) := by decide +kernel
theorem dX7_lossByChances_15 : decode cX7_lossByChances 15 = .ok (.invokevirtual 116, 3) := by decide +kernel
theorem dX7_lossByChances_18 : decode cX7_lossByChances 18 = .ok (.if_icmp .ge 91, 3) := by decide +kernel
theorem dX7_lossByChances_21 : decode cX7_lossByChances 21 = .ok (.aload_n 0, 1) := by decide +kernel
theorem dX7_lossByChances_22 : decode cX7_lossByChances 22 = .ok (.iload 5, 2) := by decide +kernel
theorem dX7_lossByChances_24 : decode cX7_lossByChances 24 = .ok (.aload_n 1, 1) := by decide +kernel
theorem dX7_lossByChances_25 : decode cX7_lossByChances 25 = .ok (.iload 5, 2) := by decide +kernel
theorem dX7_lossByChances_27 : decode cX7_lossByChances 27 = .ok (.invokevirtual 164, 3) := by decide +kernel
theorem dX7_lossByChances_30 : decode cX7_lossByChances 30 = .ok (.invokevirtual 265, 3) := by decide +kernel
theorem dX7_lossByChances_33 : decode cX7_lossByChances 33 = .ok (.iload_n 3, 1) := by decide +kernel
theorem dX7_lossByChances_34 : decode cX7_lossByChances 34 = .ok (.iload_n 2, 1) := by decide +kernel
theorem dX7_lossByChances_35 : decode cX7_lossByChances 35 = .ok (.iconst 1, 1) := by decide +kernel
theorem dX7_lossByChances_36 : decode cX7_lossByChances 36 = .ok (.isub, 1) := by decide +kernel
theorem dX7_lossByChances_37 : decode cX7_lossByChances 37 = .ok (.invokestatic 256, 3) := by decide +kernel
theorem dX7_lossByChances_40 : decode cX7_lossByChances 40 = .ok (.imul, 1) := by decide +kernel
theorem dX7_lossByChances_41 : decode cX7_lossByChances 41 = .ok (.istore 6, 2) := by decide +kernel
theorem dX7_lossByChances_43 : decode cX7_lossByChances 43 = .ok (.iload_n 2, 1) := by decide +kernel
theorem dX7_lossByChances_44 : decode cX7_lossByChances 44 = .ok (.iconst 1, 1) := by decide +kernel
theorem dX7_lossByChances_45 : decode cX7_lossByChances 45 = .ok (.if_icmp .le 10, 3) := by decide +kernel
theorem dX7_lossByChances_48 : decode cX7_lossByChances 48 = .ok (.aload_n 1, 1) := by decide +kernel
theorem dX7_lossByChances_49 : decode cX7_lossByChances 49 = .ok (.invokevirtual 312, 3) := by decide +kernel
theorem dX7_lossByChances_52 : decode cX7_lossByChances 52 = .ok (.goto 4, 3) := by decide +kernel
theorem dX7_lossByChances_55 : decode cX7_lossByChances 55 = .ok (.aconst_null, 1) := by decide +kernel
theorem dX7_lossByChances_56 : decode cX7_lossByChances 56 = .ok (.astore 7, 2) := by decide +kernel
theorem dX7_lossByChances_58 : decode cX7_lossByChances 58 = .ok (.aload 7, 2) := by decide +kernel
theorem dX7_lossByChances_60 : decode cX7_lossByChances 60 = .ok (.ifnull 26, 3) := by decide +kernel
theorem dX7_lossByChances_63 : decode cX7_lossByChances 63 = .ok (.aload 7, 2) := by decide +kernel
theorem dX7_lossByChances_65 : decode cX7_lossByChances 65 = .ok (.iload 5, 2) := by decide +kernel
theorem dX7_lossByChances_67 : decode cX7_lossByChances 67 = .ok (.invokevirtual 198, 3) := by decide +kernel
theorem dX7_lossByChances_70 : decode cX7_lossByChances 70 = .ok (.pop, 1) := by decide +kernel
theorem dX7_lossByChances_71 : decode cX7_lossByChances 71 = .ok (.iload 6, 2) := by decide +kernel
theorem dX7_lossByChances_73 : decode cX7_lossByChances 73 = .ok (.aload_n 0, 1) := by decide +kernel
theorem dX7_lossByChances_74 : decode cX7_lossByChances 74 = .ok (.aload 7, 2) := by decide +kernel
theorem dX7_lossByChances_76 : decode cX7_lossByChances 76 = .ok (.iload_n 2, 1) := by decide +kernel
theorem dX7_lossByChances_77 : decode cX7_lossByChances 77 = .ok (.iconst 1, 1) := by decide +kernel
theorem dX7_lossByChances_78 : decode cX7_lossByChances 78 = .ok (.isub, 1) := by decide +kernel
theorem dX7_lossByChances_79 : decode cX7_lossByChances 79 = .ok (.iload_n 3, 1) := by decide +kernel
theorem dX7_lossByChances_80 : decode cX7_lossByChances 80 = .ok (.invokestatic 253, 3) := by decide +kernel
theorem dX7_lossByChances_83 : decode cX7_lossByChances 83 = .ok (.iadd, 1) := by decide +kernel
theorem dX7_lossByChances_84 : decode cX7_lossByChances 84 = .ok (.istore 6, 2) := by decide +kernel
theorem dX7_lossByChances_86 : decode cX7_lossByChances 86 = .ok (.iload 4, 2) := by decide +kernel
theorem dX7_lossByChances_88 : decode cX7_lossByChances 88 = .ok (.aload_n 0, 1) := by decide +kernel
theorem dX7_lossByChances_89 : decode cX7_lossByChances 89 = .ok (.getfield 141, 3) := by decide +kernel
theorem dX7_lossByChances_92 : decode cX7_lossByChances 92 = .ok (.iload 5, 2) := by decide +kernel
theorem dX7_lossByChances_94 : decode cX7_lossByChances 94 = .ok (.invokevirtual 128, 3) := by decide +kernel
theorem dX7_lossByChances_97 : decode cX7_lossByChances 97 = .ok (.iload 6, 2) := by decide +kernel
theorem dX7_lossByChances_99 : decode cX7_lossByChances 99 = .ok (.imul, 1) := by decide +kernel
theorem dX7_lossByChances_100 : decode cX7_lossByChances 100 = .ok (.iadd, 1) := by decide +kernel
theorem dX7_lossByChances_101 : decode cX7_lossByChances 101 = .ok (.istore 4, 2) := by decide +kernel
theorem dX7_lossByChances_103 : decode cX7_lossByChances 103 = .ok (.iinc 5 1, 3) := by decide +kernel
theorem dX7_lossByChances_106 : decode cX7_lossByChances 106 = .ok (.goto (-94), 3) := by decide +kernel
theorem dX7_lossByChances_109 : decode cX7_lossByChances 109 = .ok (.iload 4, 2) := by decide +kernel
theorem dX7_lossByChances_111 : decode cX7_lossByChances 111 = .ok (.ireturn, 1) := by decide +kernel
theorem dX7_power_0 : decode cX7_power 0 = .ok (.iconst 1, 1) := by decide +kernel
theorem dX7_power_1 : decode cX7_power 1 = .ok (.istore_n 2, 1) := by decide +kernel
theorem dX7_power_2 : decode cX7_power 2 = .ok (.iconst 0, 1) := by decide +kernel
theorem dX7_power_3 : decode cX7_power 3 = .ok (.istore_n 3, 1) := by decide +kernel
theorem dX7_power_4 : decode cX7_power 4 = .ok (.iload_n 3, 1) := by decide +kernel
theorem dX7_power_5 : decode cX7_power 5 = .ok (.iload_n 1, 1) := by decide +kernel
theorem dX7_power_6 : decode cX7_power 6 = .ok (.if_icmp .ge 13, 3) := by decide +kernel
theorem dX7_power_9 : decode cX7_power 9 = .ok (.iload_n 2, 1) := by decide +kernel
theorem dX7_power_10 : decode cX7_power 10 = .ok (.iload_n 0, 1) := by decide +kernel
theorem dX7_power_11 : decode cX7_power 11 = .ok (.imul, 1) := by decide +kernel
theorem dX7_power_12 : decode cX7_power 12 = .ok (.istore_n 2, 1) := by decide +kernel
theorem dX7_power_13 : decode cX7_power 13 = .ok (.iinc 3 1, 3) := by decide +kernel
theorem dX7_power_16 : decode cX7_power 16 = .ok (.goto (-12), 3) := by decide +kernel
theorem dX7_power_19 : decode cX7_power 19 = .ok (.iload_n 2, 1) := by decide +kernel
theorem dX7_power_20 : decode cX7_power 20 = .ok (.ireturn, 1) := by decide +kernel
theorem dX7_greatestDivisor_0 : decode cX7_greatestDivisor 0 = .ok (.iload_n 0, 1) := by decide +kernel
theorem dX7_greatestDivisor_1 : decode cX7_greatestDivisor 1 = .ok (.istore_n 2, 1) := by decide +kernel
theorem dX7_greatestDivisor_2 : decode cX7_greatestDivisor 2 = .ok (.iload_n 1, 1) := by decide +kernel
theorem dX7_greatestDivisor_3 : decode cX7_greatestDivisor 3 = .ok (.istore_n 3, 1) := by decide +kernel
theorem dX7_greatestDivisor_4 : decode cX7_greatestDivisor 4 = .ok (.iconst 0, 1) := by decide +kernel
theorem dX7_greatestDivisor_5 : decode cX7_greatestDivisor 5 = .ok (.istore 4, 2) := by decide +kernel
theorem dX7_greatestDivisor_7 : decode cX7_greatestDivisor 7 = .ok (.iload 4, 2) := by decide +kernel
theorem dX7_greatestDivisor_9 : decode cX7_greatestDivisor 9 = .ok (.bipush 64, 2) := by decide +kernel
theorem dX7_greatestDivisor_11 : decode cX7_greatestDivisor 11 = .ok (.if_icmp .ge 23, 3) := by decide +kernel
theorem dX7_greatestDivisor_14 : decode cX7_greatestDivisor 14 = .ok (.iload_n 3, 1) := by decide +kernel
theorem dX7_greatestDivisor_15 : decode cX7_greatestDivisor 15 = .ok (.ifCond .eq 19, 3) := by decide +kernel
theorem dX7_greatestDivisor_18 : decode cX7_greatestDivisor 18 = .ok (.iload_n 2, 1) := by decide +kernel
theorem dX7_greatestDivisor_19 : decode cX7_greatestDivisor 19 = .ok (.iload_n 3, 1) := by decide +kernel
theorem dX7_greatestDivisor_20 : decode cX7_greatestDivisor 20 = .ok (.irem, 1) := by decide +kernel
theorem dX7_greatestDivisor_21 : decode cX7_greatestDivisor 21 = .ok (.istore 5, 2) := by decide +kernel
theorem dX7_greatestDivisor_23 : decode cX7_greatestDivisor 23 = .ok (.iload_n 3, 1) := by decide +kernel
theorem dX7_greatestDivisor_24 : decode cX7_greatestDivisor 24 = .ok (.istore_n 2, 1) := by decide +kernel
theorem dX7_greatestDivisor_25 : decode cX7_greatestDivisor 25 = .ok (.iload 5, 2) := by decide +kernel
theorem dX7_greatestDivisor_27 : decode cX7_greatestDivisor 27 = .ok (.istore_n 3, 1) := by decide +kernel
theorem dX7_greatestDivisor_28 : decode cX7_greatestDivisor 28 = .ok (.iinc 4 1, 3) := by decide +kernel
theorem dX7_greatestDivisor_31 : decode cX7_greatestDivisor 31 = .ok (.goto (-24), 3) := by decide +kernel
theorem dX7_greatestDivisor_34 : decode cX7_greatestDivisor 34 = .ok (.iload_n 2, 1) := by decide +kernel
theorem dX7_greatestDivisor_35 : decode cX7_greatestDivisor 35 = .ok (.ireturn, 1) := by decide +kernel
theorem dX8_init_0 : decode cX8_init 0 = .ok (.aload_n 0, 1) := by decide +kernel
theorem dX8_init_1 : decode cX8_init 1 = .ok (.invokespecial 1, 3) := by decide +kernel
theorem dX8_init_4 : decode cX8_init 4 = .ok (.aload_n 0, 1) := by decide +kernel
theorem dX8_init_5 : decode cX8_init 5 = .ok (.bipush 30, 2) := by decide +kernel
theorem dX8_init_7 : decode cX8_init 7 = .ok (.newarray .int, 2) := by decide +kernel
theorem dX8_init_9 : decode cX8_init 9 = .ok (.putfield 7, 3) := by decide +kernel
theorem dX8_init_12 : decode cX8_init 12 = .ok (.aload_n 0, 1) := by decide +kernel
theorem dX8_init_13 : decode cX8_init 13 = .ok (.bipush 10, 2) := by decide +kernel
theorem dX8_init_15 : decode cX8_init 15 = .ok (.newarray .int, 2) := by decide +kernel
theorem dX8_init_17 : decode cX8_init 17 = .ok (.putfield 13, 3) := by decide +kernel
theorem dX8_init_20 : decode cX8_init 20 = .ok (.aload_n 0, 1) := by decide +kernel
theorem dX8_init_21 : decode cX8_init 21 = .ok (.bipush 50, 2) := by decide +kernel
theorem dX8_init_23 : decode cX8_init 23 = .ok (.newarray .int, 2) := by decide +kernel
theorem dX8_init_25 : decode cX8_init 25 = .ok (.putfield 16, 3) := by decide +kernel
theorem dX8_init_28 : decode cX8_init 28 = .ok (.aload_n 0, 1) := by decide +kernel
theorem dX8_init_29 : decode cX8_init 29 = .ok (.sipush 200, 3) := by decide +kernel
theorem dX8_init_32 : decode cX8_init 32 = .ok (.newarray .int, 2) := by decide +kernel
theorem dX8_init_34 : decode cX8_init 34 = .ok (.putfield 19, 3) := by decide +kernel
theorem dX8_init_37 : decode cX8_init 37 = .ok (.aload_n 0, 1) := by decide +kernel
theorem dX8_init_38 : decode cX8_init 38 = .ok (.iconst 5, 1) := by decide +kernel
theorem dX8_init_39 : decode cX8_init 39 = .ok (.newarray .int, 2) := by decide +kernel
theorem dX8_init_41 : decode cX8_init 41 = .ok (.putfield 22, 3) := by decide +kernel
theorem dX8_init_44 : decode cX8_init 44 = .ok (.aload_n 0, 1) := by decide +kernel
theorem dX8_init_45 : decode cX8_init 45 = .ok (.bipush 30, 2) := by decide +kernel
theorem dX8_init_47 : decode cX8_init 47 = .ok (.newarray .int, 2) := by decide +kernel
theorem dX8_init_49 : decode cX8_init 49 = .ok (.putfield 25, 3) := by decide +kernel
theorem dX8_init_52 : decode cX8_init 52 = .ok (.aload_n 0, 1) := by decide +kernel
theorem dX8_init_53 : decode cX8_init 53 = .ok (.bipush 10, 2) := by decide +kernel
theorem dX8_init_55 : decode cX8_init 55 = .ok (.newarray .int, 2) := by decide +kernel
theorem dX8_init_57 : decode cX8_init 57 = .ok (.putfield 28, 3) := by decide +kernel
theorem dX8_init_60 : decode cX8_init 60 = .ok (.aload_n 0, 1) := by decide +kernel
theorem dX8_init_61 : decode cX8_init 61 = .ok (.sipush 400, 3) := by decide +kernel
theorem dX8_init_64 : decode cX8_init 64 = .ok (.newarray .int, 2) := by decide +kernel
theorem dX8_init_66 : decode cX8_init 66 = .ok (.putfield 31, 3) := by decide +kernel
theorem dX8_init_69 : decode cX8_init 69 = .ok (.aload_n 0, 1) := by decide +kernel
theorem dX8_init_70 : decode cX8_init 70 = .ok (.bipush 50, 2) := by decide +kernel
theorem dX8_init_72 : decode cX8_init 72 = .ok (.newarray .int, 2) := by decide +kernel
theorem dX8_init_74 : decode cX8_init 74 = .ok (.putfield 34, 3) := by decide +kernel
theorem dX8_init_77 : decode cX8_init 77 = .ok (.aload_n 0, 1) := by decide +kernel
theorem dX8_init_78 : decode cX8_init 78 = .ok (.bipush 10, 2) := by decide +kernel
theorem dX8_init_80 : decode cX8_init 80 = .ok (.newarray .int, 2) := by decide +kernel
theorem dX8_init_82 : decode cX8_init 82 = .ok (.putfield 37, 3) := by decide +kernel
theorem dX8_init_85 : decode cX8_init 85 = .ok (.aload_n 0, 1) := by decide +kernel
theorem dX8_init_86 : decode cX8_init 86 = .ok (.bipush 10, 2) := by decide +kernel
theorem dX8_init_88 : decode cX8_init 88 = .ok (.newarray .int, 2) := by decide +kernel
theorem dX8_init_90 : decode cX8_init 90 = .ok (.putfield 40, 3) := by decide +kernel
theorem dX8_init_93 : decode cX8_init 93 = .ok (.aload_n 0, 1) := by decide +kernel
theorem dX8_init_94 : decode cX8_init 94 = .ok (.sipush 800, 3) := by decide +kernel
theorem dX8_init_97 : decode cX8_init 97 = .ok (.newarray .int, 2) := by decide +kernel
theorem dX8_init_99 : decode cX8_init 99 = .ok (.putfield 43, 3) := by decide +kernel
theorem dX8_init_102 : decode cX8_init 102 = .ok (.aload_n 0, 1) := by decide +kernel
theorem dX8_init_103 : decode cX8_init 103 = .ok (.bipush 10, 2) := by decide +kernel
theorem dX8_init_105 : decode cX8_init 105 = .ok (.newarray .int, 2) := by decide +kernel
theorem dX8_init_107 : decode cX8_init 107 = .ok (.putfield 46, 3) := by decide +kernel
theorem dX8_init_110 : decode cX8_init 110 = .ok (.aload_n 0, 1) := by decide +kernel
theorem dX8_init_111 : decode cX8_init 111 = .ok (.bipush 10, 2) := by decide +kernel
theorem dX8_init_113 : decode cX8_init 113 = .ok (.newarray .int, 2) := by decide +kernel
theorem dX8_init_115 : decode cX8_init 115 = .ok (.putfield 49, 3) := by decide +kernel
theorem dX8_init_118 : decode cX8_init 118 = .ok (.aload_n 0, 1) := by decide +kernel
theorem dX8_init_119 : decode cX8_init 119 = .ok (.bipush 8, 2) := by decide +kernel
theorem dX8_init_121 : decode cX8_init 121 = .ok (.newarray .int, 2) := by decide +kernel
theorem dX8_init_123 : decode cX8_init 123 = .ok (.putfield 52, 3) := by decide +kernel
theorem dX8_init_126 : decode cX8_init 126 = .ok (.aload_n 0, 1) := by decide +kernel
theorem dX8_init_127 : decode cX8_init 127 = .ok (.bipush 8, 2) := by decide +kernel
theorem dX8_init_129 : decode cX8_init 129 = .ok (.newarray .int, 2) := by decide +kernel
theorem dX8_init_131 : decode cX8_init 131 = .ok (.putfield 55, 3) := by decide +kernel
theorem dX8_init_134 : decode cX8_init 134 = .ok (.aload_n 0, 1) := by decide +kernel
theorem dX8_init_135 : decode cX8_init 135 = .ok (.bipush 50, 2) := by decide +kernel
theorem dX8_init_137 : decode cX8_init 137 = .ok (.newarray .int, 2) := by decide +kernel
theorem dX8_init_139 : decode cX8_init 139 = .ok (.putfield 58, 3) := by decide +kernel
theorem dX8_init_142 : decode cX8_init 142 = .ok (.aload_n 0, 1) := by decide +kernel
theorem dX8_init_143 : decode cX8_init 143 = .ok (.bipush 50, 2) := by decide +kernel
theorem dX8_init_145 : decode cX8_init 145 = .ok (.newarray .int, 2) := by decide +kernel
theorem dX8_init_147 : decode cX8_init 147 = .ok (.putfield 61, 3) := by decide +kernel
theorem dX8_init_150 : decode cX8_init 150 = .ok (.aload_n 0, 1) := by decide +kernel
theorem dX8_init_151 : decode cX8_init 151 = .ok (.bipush 100, 2) := by decide +kernel
theorem dX8_init_153 : decode cX8_init 153 = .ok (.newarray .int, 2) := by decide +kernel
theorem dX8_init_155 : decode cX8_init 155 = .ok (.putfield 64, 3) := by decide +kernel
theorem dX8_init_158 : decode cX8_init 158 = .ok (.aload_n 0, 1) := by decide +kernel
theorem dX8_init_159 : decode cX8_init 159 = .ok (.iconst 1, 1) := by decide +kernel
theorem dX8_init_160 : decode cX8_init 160 = .ok (.iconst 0, 1) := by decide +kernel
theorem dX8_init_161 : decode cX8_init 161 = .ok (.bipush 62, 2) := by decide +kernel
theorem dX8_init_163 : decode cX8_init 163 = .ok (.iconst 3, 1) := by decide +kernel
theorem dX8_init_164 : decode cX8_init 164 = .ok (.iconst 2, 1) := by decide +kernel
theorem dX8_init_165 : decode cX8_init 165 = .ok (.invokevirtual 67, 3) := by decide +kernel
theorem dX8_init_168 : decode cX8_init 168 = .ok (.aload_n 0, 1) := by decide +kernel
theorem dX8_init_169 : decode cX8_init 169 = .ok (.iconst 3, 1) := by decide +kernel
theorem dX8_init_170 : decode cX8_init 170 = .ok (.iconst 1, 1) := by decide +kernel
theorem dX8_init_171 : decode cX8_init 171 = .ok (.bipush 13, 2) := by decide +kernel
theorem dX8_init_173 : decode cX8_init 173 = .ok (.iconst 5, 1) := by decide +kernel
theorem dX8_init_174 : decode cX8_init 174 = .ok (.iconst 1, 1) := by decide +kernel
theorem dX8_init_175 : decode cX8_init 175 = .ok (.invokevirtual 67, 3) := by decide +kernel
theorem dX8_init_178 : decode cX8_init 178 = .ok (.aload_n 0, 1) := by decide +kernel
theorem dX8_init_179 : decode cX8_init 179 = .ok (.bipush 6, 2) := by decide +kernel
theorem dX8_init_181 : decode cX8_init 181 = .ok (.iconst 2, 1) := by decide +kernel
theorem dX8_init_182 : decode cX8_init 182 = .ok (.iconst 3, 1) := by decide +kernel
theorem dX8_init_183 : decode cX8_init 183 = .ok (.bipush 8, 2) := by decide +kernel
theorem dX8_init_185 : decode cX8_init 185 = .ok (.iconst 1, 1) := by decide +kernel
theorem dX8_init_186 : decode cX8_init 186 = .ok (.invokevirtual 67, 3) := by decide +kernel
theorem dX8_init_189 : decode cX8_init 189 = .ok (.aload_n 0, 1) := by decide +kernel
theorem dX8_init_190 : decode cX8_init 190 = .ok (.bipush 24, 2) := by decide +kernel
theorem dX8_init_192 : decode cX8_init 192 = .ok (.iconst 3, 1) := by decide +kernel
theorem dX8_init_193 : decode cX8_init 193 = .ok (.bipush 63, 2) := by decide +kernel
theorem dX8_init_195 : decode cX8_init 195 = .ok (.iconst 4, 1) := by decide +kernel
theorem dX8_init_196 : decode cX8_init 196 = .ok (.iconst 3, 1) := by decide +kernel
theorem dX8_init_197 : decode cX8_init 197 = .ok (.invokevirtual 67, 3) := by decide +kernel
theorem dX8_init_200 : decode cX8_init 200 = .ok (.iconst 0, 1) := by decide +kernel
theorem dX8_init_201 : decode cX8_init 201 = .ok (.istore_n 1, 1) := by decide +kernel
theorem dX8_init_202 : decode cX8_init 202 = .ok (.iload_n 1, 1) := by decide +kernel
theorem dX8_init_203 : decode cX8_init 203 = .ok (.iconst 4, 1) := by decide +kernel
theorem dX8_init_204 : decode cX8_init 204 = .ok (.if_icmp .ge 16, 3) := by decide +kernel
theorem dX8_init_207 : decode cX8_init 207 = .ok (.aload_n 0, 1) := by decide +kernel
theorem dX8_init_208 : decode cX8_init 208 = .ok (.getfield 13, 3) := by decide +kernel
theorem dX8_init_211 : decode cX8_init 211 = .ok (.iload_n 1, 1) := by decide +kernel
theorem dX8_init_212 : decode cX8_init 212 = .ok (.iload_n 1, 1) := by decide +kernel
theorem dX8_init_213 : decode cX8_init 213 = .ok (.iastore, 1) := by decide +kernel
theorem dX8_init_214 : decode cX8_init 214 = .ok (.iinc 1 1, 3) := by decide +kernel
theorem dX8_init_217 : decode cX8_init 217 = .ok (.goto (-15), 3) := by decide +kernel
theorem dX8_init_220 : decode cX8_init 220 = .ok (.aload_n 0, 1) := by decide +kernel
theorem dX8_init_221 : decode cX8_init 221 = .ok (.getfield 13, 3) := by decide +kernel
theorem dX8_init_224 : decode cX8_init 224 = .ok (.iconst 4, 1) := by decide +kernel
theorem dX8_init_225 : decode cX8_init 225 = .ok (.iconst 1, 1) := by decide +kernel
theorem dX8_init_226 : decode cX8_init 226 = .ok (.iastore, 1) := by decide +kernel
theorem dX8_init_227 : decode cX8_init 227 = .ok (.aload_n 0, 1) := by decide +kernel
theorem dX8_init_228 : decode cX8_init 228 = .ok (.iconst 5, 1) := by decide +kernel
theorem dX8_init_229 : decode cX8_init 229 = .ok (.putfield 71, 3) := by decide +kernel
theorem dX8_init_232 : decode cX8_init 232 = .ok (.return_, 1) := by decide +kernel
theorem dX8_tellKind_0 : decode cX8_tellKind 0 = .ok (.aload_n 0, 1) := by decide +kernel
theorem dX8_tellKind_1 : decode cX8_tellKind 1 = .ok (.getfield 7, 3) := by decide +kernel
theorem dX8_tellKind_4 : decode cX8_tellKind 4 = .ok (.iconst 5, 1) := by decide +kernel
theorem dX8_tellKind_5 : decode cX8_tellKind 5 = .ok (.aload_n 0, 1) := by decide +kernel
theorem dX8_tellKind_6 : decode cX8_tellKind 6 = .ok (.getfield 75, 3) := by decide +kernel
theorem dX8_tellKind_9 : decode cX8_tellKind 9 = .ok (.imul, 1) := by decide +kernel
theorem dX8_tellKind_10 : decode cX8_tellKind 10 = .ok (.iload_n 1, 1) := by decide +kernel
theorem dX8_tellKind_11 : decode cX8_tellKind 11 = .ok (.iastore, 1) := by decide +kernel
theorem dX8_tellKind_12 : decode cX8_tellKind 12 = .ok (.aload_n 0, 1) := by decide +kernel
theorem dX8_tellKind_13 : decode cX8_tellKind 13 = .ok (.getfield 7, 3) := by decide +kernel
theorem dX8_tellKind_16 : decode cX8_tellKind 16 = .ok (.iconst 5, 1) := by decide +kernel
theorem dX8_tellKind_17 : decode cX8_tellKind 17 = .ok (.aload_n 0, 1) := by decide +kernel
theorem dX8_tellKind_18 : decode cX8_tellKind 18 = .ok (.getfield 75, 3) := by decide +kernel
theorem dX8_tellKind_21 : decode cX8_tellKind 21 = .ok (.imul, 1) := by decide +kernel
theorem dX8_tellKind_22 : decode cX8_tellKind 22 = .ok (.iconst 1, 1) := by decide +kernel
theorem dX8_tellKind_23 : decode cX8_tellKind 23 = .ok (.iadd, 1) := by decide +kernel
theorem dX8_tellKind_24 : decode cX8_tellKind 24 = .ok (.iload_n 2, 1) := by decide +kernel
theorem dX8_tellKind_25 : decode cX8_tellKind 25 = .ok (.iastore, 1) := by decide +kernel
theorem dX8_tellKind_26 : decode cX8_tellKind 26 = .ok (.aload_n 0, 1) := by decide +kernel
theorem dX8_tellKind_27 : decode cX8_tellKind 27 = .ok (.getfield 7, 3) := by decide +kernel
theorem dX8_tellKind_30 : decode cX8_tellKind 30 = .ok (.iconst 5, 1) := by decide +kernel
theorem dX8_tellKind_31 : decode cX8_tellKind 31 = .ok (.aload_n 0, 1) := by decide +kernel
theorem dX8_tellKind_32 : decode cX8_tellKind 32 = .ok (.getfield 75, 3) := by decide +kernel
theorem dX8_tellKind_35 : decode cX8_tellKind 35 = .ok (.imul, 1) := by decide +kernel
theorem dX8_tellKind_36 : decode cX8_tellKind 36 = .ok (.iconst 2, 1) := by decide +kernel
theorem dX8_tellKind_37 : decode cX8_tellKind 37 = .ok (.iadd, 1) := by decide +kernel
theorem dX8_tellKind_38 : decode cX8_tellKind 38 = .ok (.iload_n 3, 1) := by decide +kernel
theorem dX8_tellKind_39 : decode cX8_tellKind 39 = .ok (.iastore, 1) := by decide +kernel
theorem dX8_tellKind_40 : decode cX8_tellKind 40 = .ok (.aload_n 0, 1) := by decide +kernel
theorem dX8_tellKind_41 : decode cX8_tellKind 41 = .ok (.getfield 7, 3) := by decide +kernel
theorem dX8_tellKind_44 : decode cX8_tellKind 44 = .ok (.iconst 5, 1) := by decide +kernel
theorem dX8_tellKind_45 : decode cX8_tellKind 45 = .ok (.aload_n 0, 1) := by decide +kernel
theorem dX8_tellKind_46 : decode cX8_tellKind 46 = .ok (.getfield 75, 3) := by decide +kernel
theorem dX8_tellKind_49 : decode cX8_tellKind 49 = .ok (.imul, 1) := by decide +kernel
theorem dX8_tellKind_50 : decode cX8_tellKind 50 = .ok (.iconst 3, 1) := by decide +kernel
theorem dX8_tellKind_51 : decode cX8_tellKind 51 = .ok (.iadd, 1) := by decide +kernel
theorem dX8_tellKind_52 : decode cX8_tellKind 52 = .ok (.iload 4, 2) := by decide +kernel
theorem dX8_tellKind_54 : decode cX8_tellKind 54 = .ok (.iastore, 1) := by decide +kernel
theorem dX8_tellKind_55 : decode cX8_tellKind 55 = .ok (.aload_n 0, 1) := by decide +kernel
theorem dX8_tellKind_56 : decode cX8_tellKind 56 = .ok (.getfield 7, 3) := by decide +kernel
theorem dX8_tellKind_59 : decode cX8_tellKind 59 = .ok (.iconst 5, 1) := by decide +kernel
theorem dX8_tellKind_60 : decode cX8_tellKind 60 = .ok (.aload_n 0, 1) := by decide +kernel
theorem dX8_tellKind_61 : decode cX8_tellKind 61 = .ok (.getfield 75, 3) := by decide +kernel
theorem dX8_tellKind_64 : decode cX8_tellKind 64 = .ok (.imul, 1) := by decide +kernel
theorem dX8_tellKind_65 : decode cX8_tellKind 65 = .ok (.iconst 4, 1) := by decide +kernel
theorem dX8_tellKind_66 : decode cX8_tellKind 66 = .ok (.iadd, 1) := by decide +kernel
theorem dX8_tellKind_67 : decode cX8_tellKind 67 = .ok (.iload 5, 2) := by decide +kernel
theorem dX8_tellKind_69 : decode cX8_tellKind 69 = .ok (.iastore, 1) := by decide +kernel
theorem dX8_tellKind_70 : decode cX8_tellKind 70 = .ok (.aload_n 0, 1) := by decide +kernel
theorem dX8_tellKind_71 : decode cX8_tellKind 71 = .ok (.dup, 1) := by decide +kernel
theorem dX8_tellKind_72 : decode cX8_tellKind 72 = .ok (.getfield 75, 3) := by decide +kernel
theorem dX8_tellKind_75 : decode cX8_tellKind 75 = .ok (.iconst 1, 1) := by decide +kernel
theorem dX8_tellKind_76 : decode cX8_tellKind 76 = .ok (.iadd, 1) := by decide +kernel
theorem dX8_tellKind_77 : decode cX8_tellKind 77 = .ok (.putfield 75, 3) := by decide +kernel
theorem dX8_tellKind_80 : decode cX8_tellKind 80 = .ok (.return_, 1) := by decide +kernel
theorem dX8_in_0 : decode cX8_in 0 = .ok (.lload_n 0, 1) := by decide +kernel
theorem dX8_in_1 : decode cX8_in 1 = .ok (.lload_n 2, 1) := by decide +kernel
theorem dX8_in_2 : decode cX8_in 2 = .ok (.lcmp, 1) := by decide +kernel
theorem dX8_in_3 : decode cX8_in 3 = .ok (.ifCond .lt 14, 3) := by decide +kernel
theorem dX8_in_6 : decode cX8_in 6 = .ok (.lload_n 0, 1) := by decide +kernel
theorem dX8_in_7 : decode cX8_in 7 = .ok (.lload 4, 2) := by decide +kernel
theorem dX8_in_9 : decode cX8_in 9 = .ok (.lcmp, 1) := by decide +kernel
theorem dX8_in_10 : decode cX8_in 10 = .ok (.ifCond .gt 7, 3) := by decide +kernel
theorem dX8_in_13 : decode cX8_in 13 = .ok (.iconst 1, 1) := by decide +kernel
theorem dX8_in_14 : decode cX8_in 14 = .ok (.goto 4, 3) := by decide +kernel
theorem dX8_in_17 : decode cX8_in 17 = .ok (.iconst 0, 1) := by decide +kernel
theorem dX8_in_18 : decode cX8_in 18 = .ok (.ireturn, 1) := by decide +kernel
theorem dX8_has_0 : decode cX8_has 0 = .ok (.iload_n 0, 1) := by decide +kernel
theorem dX8_has_1 : decode cX8_has 1 = .ok (.iload_n 1, 1) := by decide +kernel
theorem dX8_has_2 : decode cX8_has 2 = .ok (.ishr, 1) := by decide +kernel
theorem dX8_has_3 : decode cX8_has 3 = .ok (.iconst 1, 1) := by decide +kernel
theorem dX8_has_4 : decode cX8_has 4 = .ok (.iand, 1) := by decide +kernel
theorem dX8_has_5 : decode cX8_has 5 = .ok (.iconst 1, 1) := by decide +kernel
theorem dX8_has_6 : decode cX8_has 6 = .ok (.if_icmp .ne 7, 3) := by decide +kernel
theorem dX8_has_9 : decode cX8_has 9 = .ok (.iconst 1, 1) := by decide +kernel
theorem dX8_has_10 : decode cX8_has 10 = .ok (.goto 4, 3) := by decide +kernel
theorem dX8_has_13 : decode cX8_has 13 = .ok (.iconst 0, 1) := by decide +kernel
theorem dX8_has_14 : decode cX8_has 14 = .ok (.ireturn, 1) := by decide +kernel
theorem dX8_ones_0 : decode cX8_ones 0 = .ok (.iconst 0, 1) := by decide +kernel
theorem dX8_ones_1 : decode cX8_ones 1 = .ok (.istore_n 1, 1) := by decide +kernel
theorem dX8_ones_2 : decode cX8_ones 2 = .ok (.iload_n 0, 1) := by decide +kernel
theorem dX8_ones_3 : decode cX8_ones 3 = .ok (.istore_n 2, 1) := by decide +kernel
theorem dX8_ones_4 : decode cX8_ones 4 = .ok (.iload_n 2, 1) := by decide +kernel
theorem dX8_ones_5 : decode cX8_ones 5 = .ok (.ifCond .eq 15, 3) := by decide +kernel
theorem dX8_ones_8 : decode cX8_ones 8 = .ok (.iinc 1 1, 3) := by decide +kernel
theorem dX8_ones_11 : decode cX8_ones 11 = .ok (.iload_n 2, 1) := by decide +kernel
theorem dX8_ones_12 : decode cX8_ones 12 = .ok (.iload_n 2, 1) := by decide +kernel
theorem dX8_ones_13 : decode cX8_ones 13 = .ok (.iconst 1, 1) := by decide +kernel
theorem dX8_ones_14 : decode cX8_ones 14 = .ok (.isub, 1) := by decide +kernel
theorem dX8_ones_15 : decode cX8_ones 15 = .ok (.iand, 1) := by decide +kernel
theorem dX8_ones_16 : decode cX8_ones 16 = .ok (.istore_n 2, 1) := by decide +kernel
theorem dX8_ones_17 : decode cX8_ones 17 = .ok (.goto (-13), 3) := by decide +kernel
theorem dX8_ones_20 : decode cX8_ones 20 = .ok (.iload_n 1, 1) := by decide +kernel
theorem dX8_ones_21 : decode cX8_ones 21 = .ok (.ireturn, 1) := by decide +kernel
theorem dX8_isKind_0 : decode cX8_isKind 0 = .ok (.iload_n 1, 1) := by decide +kernel
theorem dX8_isKind_1 : decode cX8_isKind 1 = .ok (.i2l, 1) := by decide +kernel
theorem dX8_isKind_2 : decode cX8_isKind 2 = .ok (.lconst 0, 1) := by decide +kernel
theorem dX8_isKind_3 : decode cX8_isKind 3 = .ok (.aload_n 0, 1) := by decide +kernel
theorem dX8_isKind_4 : decode cX8_isKind 4 = .ok (.getfield 75, 3) := by decide +kernel
theorem dX8_isKind_7 : decode cX8_isKind 7 = .ok (.iconst 1, 1) := by decide +kernel
theorem dX8_isKind_8 : decode cX8_isKind 8 = .ok (.isub, 1) := by decide +kernel
theorem dX8_isKind_9 : decode cX8_isKind 9 = .ok (.i2l, 1) := by decide +kernel
theorem dX8_isKind_10 : decode cX8_isKind 10 = .ok (.invokestatic 78, 3) := by decide +kernel
theorem dX8_isKind_13 : decode cX8_isKind 13 = .ok (.ireturn, 1) := by decide +kernel
theorem dX8_isDoing_0 : decode cX8_isDoing 0 = .ok (.iload_n 0, 1) := by decide +kernel
theorem dX8_isDoing_1 : decode cX8_isDoing 1 = .ok (.i2l, 1) := by decide +kernel
theorem dX8_isDoing_2 : decode cX8_isDoing 2 = .ok (.lconst 0, 1) := by decide +kernel
theorem dX8_isDoing_3 : decode cX8_isDoing 3 = .ok (.ldc2_w 82, 3) := by decide +kernel
theorem dX8_isDoing_6 : decode cX8_isDoing 6 = .ok (.invokestatic 78, 3) := by decide +kernel
theorem dX8_isDoing_9 : decode cX8_isDoing 9 = .ok (.ireturn, 1) := by decide +kernel
theorem dX8_write_0 : decode cX8_write 0 = .ok (.iload_n 1, 1) := by decide +kernel
theorem dX8_write_1 : decode cX8_write 1 = .ok (.i2l, 1) := by decide +kernel
theorem dX8_write_2 : decode cX8_write 2 = .ok (.ldc2_w 84, 3) := by decide +kernel
theorem dX8_write_5 : decode cX8_write 5 = .ok (.ldc2_w 86, 3) := by decide +kernel
theorem dX8_write_8 : decode cX8_write 8 = .ok (.invokestatic 78, 3) := by decide +kernel
theorem dX8_write_11 : decode cX8_write 11 = .ok (.ifCond .ne 5, 3) := by decide +kernel
theorem dX8_write_14 : decode cX8_write 14 = .ok (.iconst (-1), 1) := by decide +kernel
theorem dX8_write_15 : decode cX8_write 15 = .ok (.ireturn, 1) := by decide +kernel
theorem dX8_write_16 : decode cX8_write 16 = .ok (.aload_n 0, 1) := by decide +kernel
theorem dX8_write_17 : decode cX8_write 17 = .ok (.getfield 88, 3) := by decide +kernel
theorem dX8_write_20 : decode cX8_write 20 = .ok (.sipush 200, 3) := by decide +kernel
theorem dX8_write_23 : decode cX8_write 23 = .ok (.if_icmp .ne 6, 3) := by decide +kernel
theorem dX8_write_26 : decode cX8_write 26 = .ok (.bipush (-3), 2) := by decide +kernel
theorem dX8_write_28 : decode cX8_write 28 = .ok (.ireturn, 1) := by decide +kernel
theorem dX8_write_29 : decode cX8_write 29 = .ok (.aload_n 0, 1) := by decide +kernel
theorem dX8_write_30 : decode cX8_write 30 = .ok (.getfield 19, 3) := by decide +kernel
theorem dX8_write_33 : decode cX8_write 33 = .ok (.aload_n 0, 1) := by decide +kernel
theorem dX8_write_34 : decode cX8_write 34 = .ok (.getfield 88, 3) := by decide +kernel
theorem dX8_write_37 : decode cX8_write 37 = .ok (.iload_n 1, 1) := by decide +kernel
theorem dX8_write_38 : decode cX8_write 38 = .ok (.iastore, 1) := by decide +kernel
theorem dX8_write_39 : decode cX8_write 39 = .ok (.aload_n 0, 1) := by decide +kernel
theorem dX8_write_40 : decode cX8_write 40 = .ok (.dup, 1) := by decide +kernel
theorem dX8_write_41 : decode cX8_write 41 = .ok (.getfield 88, 3) := by decide +kernel
theorem dX8_write_44 : decode cX8_write 44 = .ok (.iconst 1, 1) := by decide +kernel
theorem dX8_write_45 : decode cX8_write 45 = .ok (.iadd, 1) := by decide +kernel
theorem dX8_write_46 : decode cX8_write 46 = .ok (.putfield 88, 3) := by decide +kernel
theorem dX8_write_49 : decode cX8_write 49 = .ok (.aload_n 0, 1) := by decide +kernel
theorem dX8_write_50 : decode cX8_write 50 = .ok (.getfield 88, 3) := by decide +kernel
theorem dX8_write_53 : decode cX8_write 53 = .ok (.ireturn, 1) := by decide +kernel
theorem dX8_wipe_0 : decode cX8_wipe 0 = .ok (.aload_n 0, 1) := by decide +kernel
theorem dX8_wipe_1 : decode cX8_wipe 1 = .ok (.getfield 88, 3) := by decide +kernel
theorem dX8_wipe_4 : decode cX8_wipe 4 = .ok (.istore_n 1, 1) := by decide +kernel
theorem dX8_wipe_5 : decode cX8_wipe 5 = .ok (.aload_n 0, 1) := by decide +kernel
theorem dX8_wipe_6 : decode cX8_wipe 6 = .ok (.iconst 0, 1) := by decide +kernel
theorem dX8_wipe_7 : decode cX8_wipe 7 = .ok (.putfield 88, 3) := by decide +kernel
theorem dX8_wipe_10 : decode cX8_wipe 10 = .ok (.iload_n 1, 1) := by decide +kernel
theorem dX8_wipe_11 : decode cX8_wipe 11 = .ok (.ireturn, 1) := by decide +kernel
theorem dX8_readNumbers_0 : decode cX8_readNumbers 0 = .ok (.iconst 0, 1) := by decide +kernel
theorem dX8_readNumbers_1 : decode cX8_readNumbers 1 = .ok (.istore_n 2, 1) := by decide +kernel
theorem dX8_readNumbers_2 : decode cX8_readNumbers 2 = .ok (.iload_n 2, 1) := by decide +kernel
theorem dX8_readNumbers_3 : decode cX8_readNumbers 3 = .ok (.iload_n 1, 1) := by decide +kernel
theorem dX8_readNumbers_4 : decode cX8_readNumbers 4 = .ok (.if_icmp .ge 162, 3) := by decide +kernel
theorem dX8_readNumbers_7 : decode cX8_readNumbers 7 = .ok (.aload_n 0, 1) := by decide +kernel
theorem dX8_readNumbers_8 : decode cX8_readNumbers 8 = .ok (.getfield 91, 3) := by decide +kernel
theorem dX8_readNumbers_11 : decode cX8_readNumbers 11 = .ok (.istore_n 3, 1) := by decide +kernel
theorem dX8_readNumbers_12 : decode cX8_readNumbers 12 = .ok (.iconst 0, 1) := by decide +kernel
theorem dX8_readNumbers_13 : decode cX8_readNumbers 13 = .ok (.istore 4, 2) := by decide +kernel
theorem dX8_readNumbers_15 : decode cX8_readNumbers 15 = .ok (.aload_n 0, 1) := by decide +kernel
theorem dX8_readNumbers_16 : decode cX8_readNumbers 16 = .ok (.getfield 91, 3) := by decide +kernel
theorem dX8_readNumbers_19 : decode cX8_readNumbers 19 = .ok (.aload_n 0, 1) := by decide +kernel
theorem dX8_readNumbers_20 : decode cX8_readNumbers 20 = .ok (.getfield 88, 3) := by decide +kernel
theorem dX8_readNumbers_23 : decode cX8_readNumbers 23 = .ok (.if_icmp .ge 68, 3) := by decide +kernel
theorem dX8_readNumbers_26 : decode cX8_readNumbers 26 = .ok (.aload_n 0, 1) := by decide +kernel
theorem dX8_readNumbers_27 : decode cX8_readNumbers 27 = .ok (.getfield 91, 3) := by decide +kernel
theorem dX8_readNumbers_30 : decode cX8_readNumbers 30 = .ok (.iload_n 3, 1) := by decide +kernel
theorem dX8_readNumbers_31 : decode cX8_readNumbers 31 = .ok (.iconst 2, 1) := by decide +kernel
theorem dX8_readNumbers_32 : decode cX8_readNumbers 32 = .ok (.iadd, 1) := by decide +kernel
theorem dX8_readNumbers_33 : decode cX8_readNumbers 33 = .ok (.if_icmp .ge 58, 3) := by decide +kernel
theorem dX8_readNumbers_36 : decode cX8_readNumbers 36 = .ok (.aload_n 0, 1) := by decide +kernel
theorem dX8_readNumbers_37 : decode cX8_readNumbers 37 = .ok (.getfield 19, 3) := by decide +kernel
theorem dX8_readNumbers_40 : decode cX8_readNumbers 40 = .ok (.aload_n 0, 1) := by decide +kernel
theorem dX8_readNumbers_41 : decode cX8_readNumbers 41 = .ok (.getfield 91, 3) := by decide +kernel
theorem dX8_readNumbers_44 : decode cX8_readNumbers 44 = .ok (.iaload, 1) := by decide +kernel
theorem dX8_readNumbers_45 : decode cX8_readNumbers 45 = .ok (.i2l, 1) := by decide +kernel
theorem dX8_readNumbers_46 : decode cX8_readNumbers 46 = .ok (.ldc2_w 94, 3) := by decide +kernel
theorem dX8_readNumbers_49 : decode cX8_readNumbers 49 = .ok (.ldc2_w 96, 3) := by decide +kernel
theorem dX8_readNumbers_52 : decode cX8_readNumbers 52 = .ok (.invokestatic 78, 3) := by decide +kernel
theorem dX8_readNumbers_55 : decode cX8_readNumbers 55 = .ok (.ifCond .eq 36, 3) := by decide +kernel
theorem dX8_readNumbers_58 : decode cX8_readNumbers 58 = .ok (.bipush 10, 2) := by decide +kernel
theorem dX8_readNumbers_60 : decode cX8_readNumbers 60 = .ok (.iload 4, 2) := by decide +kernel
theorem dX8_readNumbers_62 : decode cX8_readNumbers 62 = .ok (.imul, 1) := by decide +kernel
theorem dX8_readNumbers_63 : decode cX8_readNumbers 63 = .ok (.aload_n 0, 1) := by decide +kernel
theorem dX8_readNumbers_64 : decode cX8_readNumbers 64 = .ok (.getfield 19, 3) := by decide +kernel
theorem dX8_readNumbers_67 : decode cX8_readNumbers 67 = .ok (.aload_n 0, 1) := by decide +kernel
theorem dX8_readNumbers_68 : decode cX8_readNumbers 68 = .ok (.getfield 91, 3) := by decide +kernel
theorem dX8_readNumbers_71 : decode cX8_readNumbers 71 = .ok (.iaload, 1) := by decide +kernel
theorem dX8_readNumbers_72 : decode cX8_readNumbers 72 = .ok (.iadd, 1) := by decide +kernel
theorem dX8_readNumbers_73 : decode cX8_readNumbers 73 = .ok (.bipush 48, 2) := by decide +kernel
theorem dX8_readNumbers_75 : decode cX8_readNumbers 75 = .ok (.isub, 1) := by decide +kernel
theorem dX8_readNumbers_76 : decode cX8_readNumbers 76 = .ok (.istore 4, 2) := by decide +kernel
theorem dX8_readNumbers_78 : decode cX8_readNumbers 78 = .ok (.aload_n 0, 1) := by decide +kernel
theorem dX8_readNumbers_79 : decode cX8_readNumbers 79 = .ok (.dup, 1) := by decide +kernel
theorem dX8_readNumbers_80 : decode cX8_readNumbers 80 = .ok (.getfield 91, 3) := by decide +kernel
theorem dX8_readNumbers_83 : decode cX8_readNumbers 83 = .ok (.iconst 1, 1) := by decide +kernel
theorem dX8_readNumbers_84 : decode cX8_readNumbers 84 = .ok (.iadd, 1) := by decide +kernel
theorem dX8_readNumbers_85 : decode cX8_readNumbers 85 = .ok (.putfield 91, 3) := by decide +kernel
theorem dX8_readNumbers_88 : decode cX8_readNumbers 88 = .ok (.goto (-73), 3) := by decide +kernel
theorem dX8_readNumbers_91 : decode cX8_readNumbers 91 = .ok (.aload_n 0, 1) := by decide +kernel
theorem dX8_readNumbers_92 : decode cX8_readNumbers 92 = .ok (.getfield 22, 3) := by decide +kernel
theorem dX8_readNumbers_95 : decode cX8_readNumbers 95 = .ok (.iload_n 2, 1) := by decide +kernel
theorem dX8_readNumbers_96 : decode cX8_readNumbers 96 = .ok (.iload 4, 2) := by decide +kernel
theorem dX8_readNumbers_98 : decode cX8_readNumbers 98 = .ok (.iastore, 1) := by decide +kernel
theorem dX8_readNumbers_99 : decode cX8_readNumbers 99 = .ok (.iload_n 2, 1) := by decide +kernel
theorem dX8_readNumbers_100 : decode cX8_readNumbers 100 = .ok (.iload_n 1, 1) := by decide +kernel
theorem dX8_readNumbers_101 : decode cX8_readNumbers 101 = .ok (.iconst 1, 1) := by decide +kernel
theorem dX8_readNumbers_102 : decode cX8_readNumbers 102 = .ok (.isub, 1) := by decide +kernel
theorem dX8_readNumbers_103 : decode cX8_readNumbers 103 = .ok (.if_icmp .ne 8, 3) := by decide +kernel
theorem dX8_readNumbers_106 : decode cX8_readNumbers 106 = .ok (.bipush 59, 2) := by decide +kernel
theorem dX8_readNumbers_108 : decode cX8_readNumbers 108 = .ok (.goto 5, 3) := by decide +kernel
theorem dX8_readNumbers_111 : decode cX8_readNumbers 111 = .ok (.bipush 44, 2) := by decide +kernel
theorem dX8_readNumbers_113 : decode cX8_readNumbers 113 = .ok (.istore 5, 2) := by decide +kernel
theorem dX8_readNumbers_115 : decode cX8_readNumbers 115 = .ok (.aload_n 0, 1) := by decide +kernel
theorem dX8_readNumbers_116 : decode cX8_readNumbers 116 = .ok (.getfield 91, 3) := by decide +kernel
theorem dX8_readNumbers_119 : decode cX8_readNumbers 119 = .ok (.iload_n 3, 1) := by decide +kernel
theorem dX8_readNumbers_120 : decode cX8_readNumbers 120 = .ok (.if_icmp .eq 28, 3) := by decide +kernel
theorem dX8_readNumbers_123 : decode cX8_readNumbers 123 = .ok (.aload_n 0, 1) := by decide +kernel
theorem dX8_readNumbers_124 : decode cX8_readNumbers 124 = .ok (.getfield 91, 3) := by decide +kernel
theorem dX8_readNumbers_127 : decode cX8_readNumbers 127 = .ok (.aload_n 0, 1) := by decide +kernel
theorem dX8_readNumbers_128 : decode cX8_readNumbers 128 = .ok (.getfield 88, 3) := by decide +kernel
theorem dX8_readNumbers_131 : decode cX8_readNumbers 131 = .ok (.if_icmp .eq 17, 3) := by decide +kernel
theorem dX8_readNumbers_134 : decode cX8_readNumbers 134 = .ok (.aload_n 0, 1) := by decide +kernel
theorem dX8_readNumbers_135 : decode cX8_readNumbers 135 = .ok (.getfield 19, 3) := by decide +kernel
theorem dX8_readNumbers_138 : decode cX8_readNumbers 138 = .ok (.aload_n 0, 1) := by decide +kernel
theorem dX8_readNumbers_139 : decode cX8_readNumbers 139 = .ok (.getfield 91, 3) := by decide +kernel
theorem dX8_readNumbers_142 : decode cX8_readNumbers 142 = .ok (.iaload, 1) := by decide +kernel
theorem dX8_readNumbers_143 : decode cX8_readNumbers 143 = .ok (.iload 5, 2) := by decide +kernel
theorem dX8_readNumbers_145 : decode cX8_readNumbers 145 = .ok (.if_icmp .eq 5, 3) := by decide +kernel
theorem dX8_readNumbers_148 : decode cX8_readNumbers 148 = .ok (.iconst 0, 1) := by decide +kernel
theorem dX8_readNumbers_149 : decode cX8_readNumbers 149 = .ok (.ireturn, 1) := by decide +kernel
theorem dX8_readNumbers_150 : decode cX8_readNumbers 150 = .ok (.aload_n 0, 1) := by decide +kernel
theorem dX8_readNumbers_151 : decode cX8_readNumbers 151 = .ok (.dup, 1) := by decide +kernel
theorem dX8_readNumbers_152 : decode cX8_readNumbers 152 = .ok (.getfield 91, 3) := by decide +kernel
theorem dX8_readNumbers_155 : decode cX8_readNumbers 155 = .ok (.iconst 1, 1) := by decide +kernel
theorem dX8_readNumbers_156 : decode cX8_readNumbers 156 = .ok (.iadd, 1) := by decide +kernel
theorem dX8_readNumbers_157 : decode cX8_readNumbers 157 = .ok (.putfield 91, 3) := by decide +kernel
theorem dX8_readNumbers_160 : decode cX8_readNumbers 160 = .ok (.iinc 2 1, 3) := by decide +kernel
theorem dX8_readNumbers_163 : decode cX8_readNumbers 163 = .ok (.goto (-161), 3) := by decide +kernel
theorem dX8_readNumbers_166 : decode cX8_readNumbers 166 = .ok (.iconst 1, 1) := by decide +kernel
theorem dX8_readNumbers_167 : decode cX8_readNumbers 167 = .ok (.ireturn, 1) := by decide +kernel
theorem dX8_readKind_0 : decode cX8_readKind 0 = .ok (.aload_n 0, 1) := by decide +kernel
theorem dX8_readKind_1 : decode cX8_readKind 1 = .ok (.getfield 98, 3) := by decide +kernel
theorem dX8_readKind_4 : decode cX8_readKind 4 = .ok (.bipush 6, 2) := by decide +kernel
theorem dX8_readKind_6 : decode cX8_readKind 6 = .ok (.if_icmp .ge 87, 3) := by decide +kernel
theorem dX8_readKind_9 : decode cX8_readKind 9 = .ok (.aload_n 0, 1) := by decide +kernel
theorem dX8_readKind_10 : decode cX8_readKind 10 = .ok (.getfield 22, 3) := by decide +kernel
theorem dX8_readKind_13 : decode cX8_readKind 13 = .ok (.iconst 0, 1) := by decide +kernel
theorem dX8_readKind_14 : decode cX8_readKind 14 = .ok (.iaload, 1) := by decide +kernel
theorem dX8_readKind_15 : decode cX8_readKind 15 = .ok (.i2l, 1) := by decide +kernel
theorem dX8_readKind_16 : decode cX8_readKind 16 = .ok (.lconst 0, 1) := by decide +kernel
theorem dX8_readKind_17 : decode cX8_readKind 17 = .ok (.ldc2_w 101, 3) := by decide +kernel
theorem dX8_readKind_20 : decode cX8_readKind 20 = .ok (.invokestatic 78, 3) := by decide +kernel
theorem dX8_readKind_23 : decode cX8_readKind 23 = .ok (.ifCond .eq 70, 3) := by decide +kernel
theorem dX8_readKind_26 : decode cX8_readKind 26 = .ok (.aload_n 0, 1) := by decide +kernel
theorem dX8_readKind_27 : decode cX8_readKind 27 = .ok (.getfield 22, 3) := by decide +kernel
theorem dX8_readKind_30 : decode cX8_readKind 30 = .ok (.iconst 1, 1) := by decide +kernel
theorem dX8_readKind_31 : decode cX8_readKind 31 = .ok (.iaload, 1) := by decide +kernel
theorem dX8_readKind_32 : decode cX8_readKind 32 = .ok (.invokestatic 103, 3) := by decide +kernel
theorem dX8_readKind_35 : decode cX8_readKind 35 = .ok (.ifCond .eq 58, 3) := by decide +kernel
theorem dX8_readKind_38 : decode cX8_readKind 38 = .ok (.aload_n 0, 1) := by decide +kernel
theorem dX8_readKind_39 : decode cX8_readKind 39 = .ok (.getfield 22, 3) := by decide +kernel
theorem dX8_readKind_42 : decode cX8_readKind 42 = .ok (.iconst 2, 1) := by decide +kernel
theorem dX8_readKind_43 : decode cX8_readKind 43 = .ok (.iaload, 1) := by decide +kernel
theorem dX8_readKind_44 : decode cX8_readKind 44 = .ok (.i2l, 1) := by decide +kernel
theorem dX8_readKind_45 : decode cX8_readKind 45 = .ok (.lconst 0, 1) := by decide +kernel
theorem dX8_readKind_46 : decode cX8_readKind 46 = .ok (.ldc2_w 107, 3) := by decide +kernel
theorem dX8_readKind_49 : decode cX8_readKind 49 = .ok (.invokestatic 78, 3) := by decide +kernel
theorem dX8_readKind_52 : decode cX8_readKind 52 = .ok (.ifCond .eq 41, 3) := by decide +kernel
theorem dX8_readKind_55 : decode cX8_readKind 55 = .ok (.aload_n 0, 1) := by decide +kernel
theorem dX8_readKind_56 : decode cX8_readKind 56 = .ok (.getfield 22, 3) := by decide +kernel
theorem dX8_readKind_59 : decode cX8_readKind 59 = .ok (.iconst 3, 1) := by decide +kernel
theorem dX8_readKind_60 : decode cX8_readKind 60 = .ok (.iaload, 1) := by decide +kernel
theorem dX8_readKind_61 : decode cX8_readKind 61 = .ok (.i2l, 1) := by decide +kernel
theorem dX8_readKind_62 : decode cX8_readKind 62 = .ok (.lconst 0, 1) := by decide +kernel
theorem dX8_readKind_63 : decode cX8_readKind 63 = .ok (.ldc2_w 109, 3) := by decide +kernel
theorem dX8_readKind_66 : decode cX8_readKind 66 = .ok (.invokestatic 78, 3) := by decide +kernel
theorem dX8_readKind_69 : decode cX8_readKind 69 = .ok (.ifCond .eq 24, 3) := by decide +kernel
theorem dX8_readKind_72 : decode cX8_readKind 72 = .ok (.aload_n 0, 1) := by decide +kernel
theorem dX8_readKind_73 : decode cX8_readKind 73 = .ok (.getfield 22, 3) := by decide +kernel
theorem dX8_readKind_76 : decode cX8_readKind 76 = .ok (.iconst 4, 1) := by decide +kernel
theorem dX8_readKind_77 : decode cX8_readKind 77 = .ok (.iaload, 1) := by decide +kernel
theorem dX8_readKind_78 : decode cX8_readKind 78 = .ok (.i2l, 1) := by decide +kernel
theorem dX8_readKind_79 : decode cX8_readKind 79 = .ok (.lconst 1, 1) := by decide +kernel
theorem dX8_readKind_80 : decode cX8_readKind 80 = .ok (.ldc2_w 111, 3) := by decide +kernel
theorem dX8_readKind_83 : decode cX8_readKind 83 = .ok (.invokestatic 78, 3) := by decide +kernel
theorem dX8_readKind_86 : decode cX8_readKind 86 = .ok (.ifCond .eq 7, 3) := by decide +kernel
theorem dX8_readKind_89 : decode cX8_readKind 89 = .ok (.iconst 1, 1) := by decide +kernel
theorem dX8_readKind_90 : decode cX8_readKind 90 = .ok (.goto 4, 3) := by decide +kernel
theorem dX8_readKind_93 : decode cX8_readKind 93 = .ok (.iconst 0, 1) := by decide +kernel
theorem dX8_readKind_94 : decode cX8_readKind 94 = .ok (.istore_n 1, 1) := by decide +kernel
theorem dX8_readKind_95 : decode cX8_readKind 95 = .ok (.iconst 0, 1) := by decide +kernel
theorem dX8_readKind_96 : decode cX8_readKind 96 = .ok (.istore_n 2, 1) := by decide +kernel
theorem dX8_readKind_97 : decode cX8_readKind 97 = .ok (.iload_n 2, 1) := by decide +kernel
theorem dX8_readKind_98 : decode cX8_readKind 98 = .ok (.iconst 5, 1) := by decide +kernel
theorem dX8_readKind_99 : decode cX8_readKind 99 = .ok (.if_icmp .ge 32, 3) := by decide +kernel
theorem dX8_readKind_102 : decode cX8_readKind 102 = .ok (.iload_n 1, 1) := by decide +kernel
theorem dX8_readKind_103 : decode cX8_readKind 103 = .ok (.ifCond .eq 28, 3) := by decide +kernel
theorem dX8_readKind_106 : decode cX8_readKind 106 = .ok (.aload_n 0, 1) := by decide +kernel
theorem dX8_readKind_107 : decode cX8_readKind 107 = .ok (.getfield 25, 3) := by decide +kernel
theorem dX8_readKind_110 : decode cX8_readKind 110 = .ok (.iconst 5, 1) := by decide +kernel
theorem dX8_readKind_111 : decode cX8_readKind 111 = .ok (.aload_n 0, 1) := by decide +kernel
theorem dX8_readKind_112 : decode cX8_readKind 112 = .ok (.getfield 98, 3) := by decide +kernel
theorem dX8_readKind_115 : decode cX8_readKind 115 = .ok (.imul, 1) := by decide +kernel
theorem dX8_readKind_116 : decode cX8_readKind 116 = .ok (.iload_n 2, 1) := by decide +kernel
theorem dX8_readKind_117 : decode cX8_readKind 117 = .ok (.iadd, 1) := by decide +kernel
theorem dX8_readKind_118 : decode cX8_readKind 118 = .ok (.aload_n 0, 1) := by decide +kernel
theorem dX8_readKind_119 : decode cX8_readKind 119 = .ok (.getfield 22, 3) := by decide +kernel
theorem dX8_readKind_122 : decode cX8_readKind 122 = .ok (.iload_n 2, 1) := by decide +kernel
theorem dX8_readKind_123 : decode cX8_readKind 123 = .ok (.iaload, 1) := by decide +kernel
theorem dX8_readKind_124 : decode cX8_readKind 124 = .ok (.iastore, 1) := by decide +kernel
theorem dX8_readKind_125 : decode cX8_readKind 125 = .ok (.iinc 2 1, 3) := by decide +kernel
theorem dX8_readKind_128 : decode cX8_readKind 128 = .ok (.goto (-31), 3) := by decide +kernel
theorem dX8_readKind_131 : decode cX8_readKind 131 = .ok (.aload_n 0, 1) := by decide +kernel
theorem dX8_readKind_132 : decode cX8_readKind 132 = .ok (.dup, 1) := by decide +kernel
theorem dX8_readKind_133 : decode cX8_readKind 133 = .ok (.getfield 98, 3) := by decide +kernel
theorem dX8_readKind_136 : decode cX8_readKind 136 = .ok (.iload_n 1, 1) := by decide +kernel
theorem dX8_readKind_137 : decode cX8_readKind 137 = .ok (.ifCond .eq 7, 3) := by decide +kernel
theorem dX8_readKind_140 : decode cX8_readKind 140 = .ok (.iconst 1, 1) := by decide +kernel
theorem dX8_readKind_141 : decode cX8_readKind 141 = .ok (.goto 4, 3) := by decide +kernel
theorem dX8_readKind_144 : decode cX8_readKind 144 = .ok (.iconst 0, 1) := by decide +kernel
theorem dX8_readKind_145 : decode cX8_readKind 145 = .ok (.iadd, 1) := by decide +kernel
theorem dX8_readKind_146 : decode cX8_readKind 146 = .ok (.putfield 98, 3) := by decide +kernel
theorem dX8_readKind_149 : decode cX8_readKind 149 = .ok (.iload_n 1, 1) := by decide +kernel
theorem dX8_readKind_150 : decode cX8_readKind 150 = .ok (.ireturn, 1) := by decide +kernel
theorem dX8_readItem_0 : decode cX8_readItem 0 = .ok (.aload_n 0, 1) := by decide +kernel
theorem dX8_readItem_1 : decode cX8_readItem 1 = .ok (.getfield 19, 3) := by decide +kernel
theorem dX8_readItem_4 : decode cX8_readItem 4 = .ok (.aload_n 0, 1) := by decide +kernel
theorem dX8_readItem_5 : decode cX8_readItem 5 = .ok (.getfield 91, 3) := by decide +kernel
theorem dX8_readItem_8 : decode cX8_readItem 8 = .ok (.iaload, 1) := by decide +kernel
theorem dX8_readItem_9 : decode cX8_readItem 9 = .ok (.istore_n 1, 1) := by decide +kernel
theorem dX8_readItem_10 : decode cX8_readItem 10 = .ok (.aload_n 0, 1) := by decide +kernel
theorem dX8_readItem_11 : decode cX8_readItem 11 = .ok (.dup, 1) := by decide +kernel
theorem dX8_readItem_12 : decode cX8_readItem 12 = .ok (.getfield 91, 3) := by decide +kernel
theorem dX8_readItem_15 : decode cX8_readItem 15 = .ok (.iconst 1, 1) := by decide +kernel
theorem dX8_readItem_16 : decode cX8_readItem 16 = .ok (.iadd, 1) := by decide +kernel
theorem dX8_readItem_17 : decode cX8_readItem 17 = .ok (.putfield 91, 3) := by decide +kernel
theorem dX8_readItem_20 : decode cX8_readItem 20 = .ok (.iload_n 1, 1) := by decide +kernel
theorem dX8_readItem_21 : decode cX8_readItem 21 = .ok (.bipush 107, 2) := by decide +kernel
theorem dX8_readItem_23 : decode cX8_readItem 23 = .ok (.if_icmp .ne 7, 3) := by decide +kernel
theorem dX8_readItem_26 : decode cX8_readItem 26 = .ok (.iconst 5, 1) := by decide +kernel
theorem dX8_readItem_27 : decode cX8_readItem 27 = .ok (.goto 26, 3) := by decide +kernel
theorem dX8_readItem_30 : decode cX8_readItem 30 = .ok (.iload_n 1, 1) := by decide +kernel
theorem dX8_readItem_31 : decode cX8_readItem 31 = .ok (.bipush 108, 2) := by decide +kernel
theorem dX8_readItem_33 : decode cX8_readItem 33 = .ok (.if_icmp .eq 15, 3) := by decide +kernel
theorem dX8_readItem_36 : decode cX8_readItem 36 = .ok (.iload_n 1, 1) := by decide +kernel
theorem dX8_readItem_37 : decode cX8_readItem 37 = .ok (.bipush 102, 2) := by decide +kernel
theorem dX8_readItem_39 : decode cX8_readItem 39 = .ok (.if_icmp .eq 9, 3) := by decide +kernel
theorem dX8_readItem_42 : decode cX8_readItem 42 = .ok (.iload_n 1, 1) := by decide +kernel
theorem dX8_readItem_43 : decode cX8_readItem 43 = .ok (.bipush 101, 2) := by decide +kernel
theorem dX8_readItem_45 : decode cX8_readItem 45 = .ok (.if_icmp .ne 7, 3) := by decide +kernel
theorem dX8_readItem_48 : decode cX8_readItem 48 = .ok (.iconst 1, 1) := by decide +kernel
theorem dX8_readItem_49 : decode cX8_readItem 49 = .ok (.goto 4, 3) := by decide +kernel
theorem dX8_readItem_52 : decode cX8_readItem 52 = .ok (.iconst 0, 1) := by decide +kernel
theorem dX8_readItem_53 : decode cX8_readItem 53 = .ok (.istore_n 2, 1) := by decide +kernel
theorem dX8_readItem_54 : decode cX8_readItem 54 = .ok (.iload_n 2, 1) := by decide +kernel
theorem dX8_readItem_55 : decode cX8_readItem 55 = .ok (.ifCond .eq 11, 3) := by decide +kernel
theorem dX8_readItem_58 : decode cX8_readItem 58 = .ok (.aload_n 0, 1) := by decide +kernel
theorem dX8_readItem_59 : decode cX8_readItem 59 = .ok (.iload_n 2, 1) := by decide +kernel
theorem dX8_readItem_60 : decode cX8_readItem 60 = .ok (.invokevirtual 113, 3) := by decide +kernel
theorem dX8_readItem_63 : decode cX8_readItem 63 = .ok (.ifCond .ne 5, 3) := by decide +kernel
theorem dX8_readItem_66 : decode cX8_readItem 66 = .ok (.iconst 0, 1) := by decide +kernel
theorem dX8_readItem_67 : decode cX8_readItem 67 = .ok (.ireturn, 1) := by decide +kernel
theorem dX8_readItem_68 : decode cX8_readItem 68 = .ok (.aload_n 0, 1) := by decide +kernel
theorem dX8_readItem_69 : decode cX8_readItem 69 = .ok (.getfield 22, 3) := by decide +kernel
theorem dX8_readItem_72 : decode cX8_readItem 72 = .ok (.iconst 0, 1) := by decide +kernel
theorem dX8_readItem_73 : decode cX8_readItem 73 = .ok (.iaload, 1) := by decide +kernel
theorem dX8_readItem_74 : decode cX8_readItem 74 = .ok (.istore_n 3, 1) := by decide +kernel
theorem dX8_readItem_75 : decode cX8_readItem 75 = .ok (.iload_n 1, 1) := by decide +kernel
theorem dX8_readItem_76 : decode cX8_readItem 76 = .ok (.bipush 107, 2) := by decide +kernel
theorem dX8_readItem_78 : decode cX8_readItem 78 = .ok (.if_icmp .ne 8, 3) := by decide +kernel
theorem dX8_readItem_81 : decode cX8_readItem 81 = .ok (.aload_n 0, 1) := by decide +kernel
theorem dX8_readItem_82 : decode cX8_readItem 82 = .ok (.invokevirtual 116, 3) := by decide +kernel
theorem dX8_readItem_85 : decode cX8_readItem 85 = .ok (.ireturn, 1) := by decide +kernel
theorem dX8_readItem_86 : decode cX8_readItem 86 = .ok (.iload_n 1, 1) := by decide +kernel
theorem dX8_readItem_87 : decode cX8_readItem 87 = .ok (.bipush 108, 2) := by decide +kernel
theorem dX8_readItem_89 : decode cX8_readItem 89 = .ok (.if_icmp .ne 19, 3) := by decide +kernel
theorem dX8_readItem_92 : decode cX8_readItem 92 = .ok (.aload_n 0, 1) := by decide +kernel
theorem dX8_readItem_93 : decode cX8_readItem 93 = .ok (.iload_n 3, 1) := by decide +kernel
theorem dX8_readItem_94 : decode cX8_readItem 94 = .ok (.putfield 120, 3) := by decide +kernel
theorem dX8_readItem_97 : decode cX8_readItem 97 = .ok (.iload_n 3, 1) := by decide +kernel
theorem dX8_readItem_98 : decode cX8_readItem 98 = .ok (.iconst 4, 1) := by decide +kernel
theorem dX8_readItem_99 : decode cX8_readItem 99 = .ok (.if_icmp .ge 7, 3) := by decide +kernel
theorem dX8_readItem_102 : decode cX8_readItem 102 = .ok (.iconst 1, 1) := by decide +kernel
theorem dX8_readItem_103 : decode cX8_readItem 103 = .ok (.goto 4, 3) := by decide +kernel
theorem dX8_readItem_106 : decode cX8_readItem 106 = .ok (.iconst 0, 1) := by decide +kernel
theorem dX8_readItem_107 : decode cX8_readItem 107 = .ok (.ireturn, 1) := by decide +kernel
theorem dX8_readItem_108 : decode cX8_readItem 108 = .ok (.iload_n 1, 1) := by decide +kernel
theorem dX8_readItem_109 : decode cX8_readItem 109 = .ok (.bipush 102, 2) := by decide +kernel
theorem dX8_readItem_111 : decode cX8_readItem 111 = .ok (.if_icmp .ne 20, 3) := by decide +kernel
theorem dX8_readItem_114 : decode cX8_readItem 114 = .ok (.aload_n 0, 1) := by decide +kernel
theorem dX8_readItem_115 : decode cX8_readItem 115 = .ok (.iload_n 3, 1) := by decide +kernel
theorem dX8_readItem_116 : decode cX8_readItem 116 = .ok (.putfield 123, 3) := by decide +kernel
theorem dX8_readItem_119 : decode cX8_readItem 119 = .ok (.iload_n 3, 1) := by decide +kernel
theorem dX8_readItem_120 : decode cX8_readItem 120 = .ok (.bipush 6, 2) := by decide +kernel
theorem dX8_readItem_122 : decode cX8_readItem 122 = .ok (.if_icmp .ge 7, 3) := by decide +kernel
theorem dX8_readItem_125 : decode cX8_readItem 125 = .ok (.iconst 1, 1) := by decide +kernel
theorem dX8_readItem_126 : decode cX8_readItem 126 = .ok (.goto 4, 3) := by decide +kernel
theorem dX8_readItem_129 : decode cX8_readItem 129 = .ok (.iconst 0, 1) := by decide +kernel
theorem dX8_readItem_130 : decode cX8_readItem 130 = .ok (.ireturn, 1) := by decide +kernel
theorem dX8_readItem_131 : decode cX8_readItem 131 = .ok (.iload_n 3, 1) := by decide +kernel
theorem dX8_readItem_132 : decode cX8_readItem 132 = .ok (.aload_n 0, 1) := by decide +kernel
theorem dX8_readItem_133 : decode cX8_readItem 133 = .ok (.getfield 98, 3) := by decide +kernel
theorem dX8_readItem_136 : decode cX8_readItem 136 = .ok (.if_icmp .ge 12, 3) := by decide +kernel
theorem dX8_readItem_139 : decode cX8_readItem 139 = .ok (.aload_n 0, 1) := by decide +kernel
theorem dX8_readItem_140 : decode cX8_readItem 140 = .ok (.getfield 126, 3) := by decide +kernel
theorem dX8_readItem_143 : decode cX8_readItem 143 = .ok (.bipush 10, 2) := by decide +kernel
theorem dX8_readItem_145 : decode cX8_readItem 145 = .ok (.if_icmp .ne 5, 3) := by decide +kernel
theorem dX8_readItem_148 : decode cX8_readItem 148 = .ok (.iconst 0, 1) := by decide +kernel
theorem dX8_readItem_149 : decode cX8_readItem 149 = .ok (.ireturn, 1) := by decide +kernel
theorem dX8_readItem_150 : decode cX8_readItem 150 = .ok (.aload_n 0, 1) := by decide +kernel
theorem dX8_readItem_151 : decode cX8_readItem 151 = .ok (.getfield 28, 3) := by decide +kernel
theorem dX8_readItem_154 : decode cX8_readItem 154 = .ok (.aload_n 0, 1) := by decide +kernel
theorem dX8_readItem_155 : decode cX8_readItem 155 = .ok (.getfield 126, 3) := by decide +kernel
theorem dX8_readItem_158 : decode cX8_readItem 158 = .ok (.iload_n 3, 1) := by decide +kernel
theorem dX8_readItem_159 : decode cX8_readItem 159 = .ok (.iastore, 1) := by decide +kernel
theorem dX8_readItem_160 : decode cX8_readItem 160 = .ok (.aload_n 0, 1) := by decide +kernel
theorem dX8_readItem_161 : decode cX8_readItem 161 = .ok (.dup, 1) := by decide +kernel
theorem dX8_readItem_162 : decode cX8_readItem 162 = .ok (.getfield 126, 3) := by decide +kernel
theorem dX8_readItem_165 : decode cX8_readItem 165 = .ok (.iconst 1, 1) := by decide +kernel
theorem dX8_readItem_166 : decode cX8_readItem 166 = .ok (.iadd, 1) := by decide +kernel
theorem dX8_readItem_167 : decode cX8_readItem 167 = .ok (.putfield 126, 3) := by decide +kernel
theorem dX8_readItem_170 : decode cX8_readItem 170 = .ok (.iconst 1, 1) := by decide +kernel
theorem dX8_readItem_171 : decode cX8_readItem 171 = .ok (.ireturn, 1) := by decide +kernel
theorem dX8_fault_0 : decode cX8_fault 0 = .ok (.aload_n 0, 1) := by decide +kernel
theorem dX8_fault_1 : decode cX8_fault 1 = .ok (.iconst 0, 1) := by decide +kernel
theorem dX8_fault_2 : decode cX8_fault 2 = .ok (.putfield 91, 3) := by decide +kernel
theorem dX8_fault_5 : decode cX8_fault 5 = .ok (.aload_n 0, 1) := by decide +kernel
theorem dX8_fault_6 : decode cX8_fault 6 = .ok (.iconst 0, 1) := by decide +kernel
theorem dX8_fault_7 : decode cX8_fault 7 = .ok (.putfield 98, 3) := by decide +kernel
theorem dX8_fault_10 : decode cX8_fault 10 = .ok (.aload_n 0, 1) := by decide +kernel
theorem dX8_fault_11 : decode cX8_fault 11 = .ok (.iconst 0, 1) := by decide +kernel
theorem dX8_fault_12 : decode cX8_fault 12 = .ok (.putfield 120, 3) := by decide +kernel
theorem dX8_fault_15 : decode cX8_fault 15 = .ok (.aload_n 0, 1) := by decide +kernel
theorem dX8_fault_16 : decode cX8_fault 16 = .ok (.iconst 0, 1) := by decide +kernel
theorem dX8_fault_17 : decode cX8_fault 17 = .ok (.putfield 123, 3) := by decide +kernel
theorem dX8_fault_20 : decode cX8_fault 20 = .ok (.aload_n 0, 1) := by decide +kernel
theorem dX8_fault_21 : decode cX8_fault 21 = .ok (.iconst 0, 1) := by decide +kernel
theorem dX8_fault_22 : decode cX8_fault 22 = .ok (.putfield 126, 3) := by decide +kernel
theorem dX8_fault_25 : decode cX8_fault 25 = .ok (.aload_n 0, 1) := by decide +kernel
theorem dX8_fault_26 : decode cX8_fault 26 = .ok (.getfield 91, 3) := by decide +kernel
theorem dX8_fault_29 : decode cX8_fault 29 = .ok (.aload_n 0, 1) := by decide +kernel
theorem dX8_fault_30 : decode cX8_fault 30 = .ok (.getfield 88, 3) := by decide +kernel
theorem dX8_fault_33 : decode cX8_fault 33 = .ok (.if_icmp .ge 20, 3) := by decide +kernel
theorem dX8_fault_36 : decode cX8_fault 36 = .ok (.aload_n 0, 1) := by decide +kernel
theorem dX8_fault_37 : decode cX8_fault 37 = .ok (.getfield 91, 3) := by decide +kernel
theorem dX8_fault_40 : decode cX8_fault 40 = .ok (.istore_n 1, 1) := by decide +kernel
theorem dX8_fault_41 : decode cX8_fault 41 = .ok (.aload_n 0, 1) := by decide +kernel
theorem dX8_fault_42 : decode cX8_fault 42 = .ok (.invokevirtual 129, 3) := by decide +kernel
theorem dX8_fault_45 : decode cX8_fault 45 = .ok (.ifCond .ne 5, 3) := by decide +kernel
theorem dX8_fault_48 : decode cX8_fault 48 = .ok (.iload_n 1, 1) := by decide +kernel
theorem dX8_fault_49 : decode cX8_fault 49 = .ok (.ireturn, 1) := by decide +kernel
theorem dX8_fault_50 : decode cX8_fault 50 = .ok (.goto (-25), 3) := by decide +kernel
theorem dX8_fault_53 : decode cX8_fault 53 = .ok (.bipush (-4), 2) := by decide +kernel
theorem dX8_fault_55 : decode cX8_fault 55 = .ok (.ireturn, 1) := by decide +kernel
theorem dX8_lay_0 : decode cX8_lay 0 = .ok (.aload_n 0, 1) := by decide +kernel
theorem dX8_lay_1 : decode cX8_lay 1 = .ok (.invokevirtual 132, 3) := by decide +kernel
theorem dX8_lay_4 : decode cX8_lay 4 = .ok (.bipush (-4), 2) := by decide +kernel
theorem dX8_lay_6 : decode cX8_lay 6 = .ok (.if_icmp .ne 10, 3) := by decide +kernel
theorem dX8_lay_9 : decode cX8_lay 9 = .ok (.aload_n 0, 1) := by decide +kernel
theorem dX8_lay_10 : decode cX8_lay 10 = .ok (.getfield 98, 3) := by decide +kernel
theorem dX8_lay_13 : decode cX8_lay 13 = .ok (.ifCond .ne 6, 3) := by decide +kernel
theorem dX8_lay_16 : decode cX8_lay 16 = .ok (.bipush (-2), 2) := by decide +kernel
theorem dX8_lay_18 : decode cX8_lay 18 = .ok (.ireturn, 1) := by decide +kernel
theorem dX8_lay_19 : decode cX8_lay 19 = .ok (.aload_n 0, 1) := by decide +kernel
theorem dX8_lay_20 : decode cX8_lay 20 = .ok (.aload_n 0, 1) := by decide +kernel
theorem dX8_lay_21 : decode cX8_lay 21 = .ok (.getfield 98, 3) := by decide +kernel
theorem dX8_lay_24 : decode cX8_lay 24 = .ok (.putfield 75, 3) := by decide +kernel
theorem dX8_lay_27 : decode cX8_lay 27 = .ok (.aload_n 0, 1) := by decide +kernel
theorem dX8_lay_28 : decode cX8_lay 28 = .ok (.aload_n 0, 1) := by decide +kernel
theorem dX8_lay_29 : decode cX8_lay 29 = .ok (.getfield 120, 3) := by decide +kernel
theorem dX8_lay_32 : decode cX8_lay 32 = .ok (.putfield 136, 3) := by decide +kernel
theorem dX8_lay_35 : decode cX8_lay 35 = .ok (.aload_n 0, 1) := by decide +kernel
theorem dX8_lay_36 : decode cX8_lay 36 = .ok (.aload_n 0, 1) := by decide +kernel
theorem dX8_lay_37 : decode cX8_lay 37 = .ok (.getfield 123, 3) := by decide +kernel
theorem dX8_lay_40 : decode cX8_lay 40 = .ok (.putfield 139, 3) := by decide +kernel
theorem dX8_lay_43 : decode cX8_lay 43 = .ok (.aload_n 0, 1) := by decide +kernel
theorem dX8_lay_44 : decode cX8_lay 44 = .ok (.aload_n 0, 1) := by decide +kernel
theorem dX8_lay_45 : decode cX8_lay 45 = .ok (.getfield 126, 3) := by decide +kernel
theorem dX8_lay_48 : decode cX8_lay 48 = .ok (.putfield 71, 3) := by decide +kernel
theorem dX8_lay_51 : decode cX8_lay 51 = .ok (.iconst 0, 1) := by decide +kernel
theorem dX8_lay_52 : decode cX8_lay 52 = .ok (.istore_n 1, 1) := by decide +kernel
theorem dX8_lay_53 : decode cX8_lay 53 = .ok (.iload_n 1, 1) := by decide +kernel
theorem dX8_lay_54 : decode cX8_lay 54 = .ok (.bipush 30, 2) := by decide +kernel
theorem dX8_lay_56 : decode cX8_lay 56 = .ok (.if_icmp .ge 21, 3) := by decide +kernel
theorem dX8_lay_59 : decode cX8_lay 59 = .ok (.aload_n 0, 1) := by decide +kernel
theorem dX8_lay_60 : decode cX8_lay 60 = .ok (.getfield 7, 3) := by decide +kernel
theorem dX8_lay_63 : decode cX8_lay 63 = .ok (.iload_n 1, 1) := by decide +kernel
theorem dX8_lay_64 : decode cX8_lay 64 = .ok (.aload_n 0, 1) := by decide +kernel
theorem dX8_lay_65 : decode cX8_lay 65 = .ok (.getfield 25, 3) := by decide +kernel
theorem dX8_lay_68 : decode cX8_lay 68 = .ok (.iload_n 1, 1) := by decide +kernel
theorem dX8_lay_69 : decode cX8_lay 69 = .ok (.iaload, 1) := by decide +kernel
theorem dX8_lay_70 : decode cX8_lay 70 = .ok (.iastore, 1) := by decide +kernel
theorem dX8_lay_71 : decode cX8_lay 71 = .ok (.iinc 1 1, 3) := by decide +kernel
theorem dX8_lay_74 : decode cX8_lay 74 = .ok (.goto (-21), 3) := by decide +kernel
theorem dX8_lay_77 : decode cX8_lay 77 = .ok (.iconst 0, 1) := by decide +kernel
theorem dX8_lay_78 : decode cX8_lay 78 = .ok (.istore_n 1, 1) := by decide +kernel
theorem dX8_lay_79 : decode cX8_lay 79 = .ok (.iload_n 1, 1) := by decide +kernel
theorem dX8_lay_80 : decode cX8_lay 80 = .ok (.bipush 10, 2) := by decide +kernel
theorem dX8_lay_82 : decode cX8_lay 82 = .ok (.if_icmp .ge 21, 3) := by decide +kernel
theorem dX8_lay_85 : decode cX8_lay 85 = .ok (.aload_n 0, 1) := by decide +kernel
theorem dX8_lay_86 : decode cX8_lay 86 = .ok (.getfield 13, 3) := by decide +kernel
theorem dX8_lay_89 : decode cX8_lay 89 = .ok (.iload_n 1, 1) := by decide +kernel
theorem dX8_lay_90 : decode cX8_lay 90 = .ok (.aload_n 0, 1) := by decide +kernel
theorem dX8_lay_91 : decode cX8_lay 91 = .ok (.getfield 28, 3) := by decide +kernel
theorem dX8_lay_94 : decode cX8_lay 94 = .ok (.iload_n 1, 1) := by decide +kernel
theorem dX8_lay_95 : decode cX8_lay 95 = .ok (.iaload, 1) := by decide +kernel
theorem dX8_lay_96 : decode cX8_lay 96 = .ok (.iastore, 1) := by decide +kernel
theorem dX8_lay_97 : decode cX8_lay 97 = .ok (.iinc 1 1, 3) := by decide +kernel
theorem dX8_lay_100 : decode cX8_lay 100 = .ok (.goto (-21), 3) := by decide +kernel
theorem dX8_lay_103 : decode cX8_lay 103 = .ok (.iconst 0, 1) := by decide +kernel
theorem dX8_lay_104 : decode cX8_lay 104 = .ok (.istore_n 1, 1) := by decide +kernel
theorem dX8_lay_105 : decode cX8_lay 105 = .ok (.iload_n 1, 1) := by decide +kernel
theorem dX8_lay_106 : decode cX8_lay 106 = .ok (.bipush 50, 2) := by decide +kernel
theorem dX8_lay_108 : decode cX8_lay 108 = .ok (.if_icmp .ge 16, 3) := by decide +kernel
theorem dX8_lay_111 : decode cX8_lay 111 = .ok (.aload_n 0, 1) := by decide +kernel
theorem dX8_lay_112 : decode cX8_lay 112 = .ok (.getfield 16, 3) := by decide +kernel
theorem dX8_lay_115 : decode cX8_lay 115 = .ok (.iload_n 1, 1) := by decide +kernel
theorem dX8_lay_116 : decode cX8_lay 116 = .ok (.iconst 0, 1) := by decide +kernel
theorem dX8_lay_117 : decode cX8_lay 117 = .ok (.iastore, 1) := by decide +kernel
theorem dX8_lay_118 : decode cX8_lay 118 = .ok (.iinc 1 1, 3) := by decide +kernel
theorem dX8_lay_121 : decode cX8_lay 121 = .ok (.goto (-16), 3) := by decide +kernel
theorem dX8_lay_124 : decode cX8_lay 124 = .ok (.aload_n 0, 1) := by decide +kernel
theorem dX8_lay_125 : decode cX8_lay 125 = .ok (.iconst 0, 1) := by decide +kernel
theorem dX8_lay_126 : decode cX8_lay 126 = .ok (.putfield 142, 3) := by decide +kernel
theorem dX8_lay_129 : decode cX8_lay 129 = .ok (.aload_n 0, 1) := by decide +kernel
theorem dX8_lay_130 : decode cX8_lay 130 = .ok (.iconst 0, 1) := by decide +kernel
theorem dX8_lay_131 : decode cX8_lay 131 = .ok (.putfield 145, 3) := by decide +kernel
theorem dX8_lay_134 : decode cX8_lay 134 = .ok (.aload_n 0, 1) := by decide +kernel
theorem dX8_lay_135 : decode cX8_lay 135 = .ok (.iconst 0, 1) := by decide +kernel
theorem dX8_lay_136 : decode cX8_lay 136 = .ok (.putfield 148, 3) := by decide +kernel
theorem dX8_lay_139 : decode cX8_lay 139 = .ok (.aload_n 0, 1) := by decide +kernel
theorem dX8_lay_140 : decode cX8_lay 140 = .ok (.getfield 75, 3) := by decide +kernel
theorem dX8_lay_143 : decode cX8_lay 143 = .ok (.ireturn, 1) := by decide +kernel
theorem dX8_kind_0 : decode cX8_kind 0 = .ok (.aload_n 0, 1) := by decide +kernel
theorem dX8_kind_1 : decode cX8_kind 1 = .ok (.iload_n 1, 1) := by decide +kernel
theorem dX8_kind_2 : decode cX8_kind 2 = .ok (.invokevirtual 151, 3) := by decide +kernel
theorem dX8_kind_5 : decode cX8_kind 5 = .ok (.ifCond .eq 15, 3) := by decide +kernel
theorem dX8_kind_8 : decode cX8_kind 8 = .ok (.iload_n 2, 1) := by decide +kernel
theorem dX8_kind_9 : decode cX8_kind 9 = .ok (.i2l, 1) := by decide +kernel
theorem dX8_kind_10 : decode cX8_kind 10 = .ok (.lconst 0, 1) := by decide +kernel
theorem dX8_kind_11 : decode cX8_kind 11 = .ok (.ldc2_w 82, 3) := by decide +kernel
theorem dX8_kind_14 : decode cX8_kind 14 = .ok (.invokestatic 78, 3) := by decide +kernel
theorem dX8_kind_17 : decode cX8_kind 17 = .ok (.ifCond .ne 5, 3) := by decide +kernel
theorem dX8_kind_20 : decode cX8_kind 20 = .ok (.iconst (-1), 1) := by decide +kernel
theorem dX8_kind_21 : decode cX8_kind 21 = .ok (.ireturn, 1) := by decide +kernel
theorem dX8_kind_22 : decode cX8_kind 22 = .ok (.iload_n 2, 1) := by decide +kernel
theorem dX8_kind_23 : decode cX8_kind 23 = .ok (.iconst 5, 1) := by decide +kernel
theorem dX8_kind_24 : decode cX8_kind 24 = .ok (.if_icmp .ne 15, 3) := by decide +kernel
theorem dX8_kind_27 : decode cX8_kind 27 = .ok (.aload_n 0, 1) := by decide +kernel
theorem dX8_kind_28 : decode cX8_kind 28 = .ok (.getfield 16, 3) := by decide +kernel
theorem dX8_kind_31 : decode cX8_kind 31 = .ok (.bipush 44, 2) := by decide +kernel
theorem dX8_kind_33 : decode cX8_kind 33 = .ok (.iload_n 1, 1) := by decide +kernel
theorem dX8_kind_34 : decode cX8_kind 34 = .ok (.iadd, 1) := by decide +kernel
theorem dX8_kind_35 : decode cX8_kind 35 = .ok (.iaload, 1) := by decide +kernel
theorem dX8_kind_36 : decode cX8_kind 36 = .ok (.goto 13, 3) := by decide +kernel
theorem dX8_kind_39 : decode cX8_kind 39 = .ok (.aload_n 0, 1) := by decide +kernel
theorem dX8_kind_40 : decode cX8_kind 40 = .ok (.getfield 7, 3) := by decide +kernel
theorem dX8_kind_43 : decode cX8_kind 43 = .ok (.iconst 5, 1) := by decide +kernel
theorem dX8_kind_44 : decode cX8_kind 44 = .ok (.iload_n 1, 1) := by decide +kernel
theorem dX8_kind_45 : decode cX8_kind 45 = .ok (.imul, 1) := by decide +kernel
theorem dX8_kind_46 : decode cX8_kind 46 = .ok (.iload_n 2, 1) := by decide +kernel
theorem dX8_kind_47 : decode cX8_kind 47 = .ok (.iadd, 1) := by decide +kernel
theorem dX8_kind_48 : decode cX8_kind 48 = .ok (.iaload, 1) := by decide +kernel
theorem dX8_kind_49 : decode cX8_kind 49 = .ok (.ireturn, 1) := by decide +kernel
theorem dX8_errand_0 : decode cX8_errand 0 = .ok (.iload_n 1, 1) := by decide +kernel
theorem dX8_errand_1 : decode cX8_errand 1 = .ok (.ifCond .ge 7, 3) := by decide +kernel
theorem dX8_errand_4 : decode cX8_errand 4 = .ok (.iconst (-1), 1) := by decide +kernel
theorem dX8_errand_5 : decode cX8_errand 5 = .ok (.goto 22, 3) := by decide +kernel
theorem dX8_errand_8 : decode cX8_errand 8 = .ok (.iload_n 1, 1) := by decide +kernel
theorem dX8_errand_9 : decode cX8_errand 9 = .ok (.aload_n 0, 1) := by decide +kernel
theorem dX8_errand_10 : decode cX8_errand 10 = .ok (.getfield 71, 3) := by decide +kernel
theorem dX8_errand_13 : decode cX8_errand 13 = .ok (.if_icmp .ge 12, 3) := by decide +kernel
theorem dX8_errand_16 : decode cX8_errand 16 = .ok (.aload_n 0, 1) := by decide +kernel
theorem dX8_errand_17 : decode cX8_errand 17 = .ok (.getfield 13, 3) := by decide +kernel
theorem dX8_errand_20 : decode cX8_errand 20 = .ok (.iload_n 1, 1) := by decide +kernel
theorem dX8_errand_21 : decode cX8_errand 21 = .ok (.iaload, 1) := by decide +kernel
theorem dX8_errand_22 : decode cX8_errand 22 = .ok (.goto 5, 3) := by decide +kernel
theorem dX8_errand_25 : decode cX8_errand 25 = .ok (.bipush (-4), 2) := by decide +kernel
theorem dX8_errand_27 : decode cX8_errand 27 = .ok (.ireturn, 1) := by decide +kernel
theorem dX8_word_0 : decode cX8_word 0 = .ok (.iload_n 1, 1) := by decide +kernel
theorem dX8_word_1 : decode cX8_word 1 = .ok (.ifCond .ge 7, 3) := by decide +kernel
theorem dX8_word_4 : decode cX8_word 4 = .ok (.iconst (-1), 1) := by decide +kernel
theorem dX8_word_5 : decode cX8_word 5 = .ok (.goto 35, 3) := by decide +kernel
theorem dX8_word_8 : decode cX8_word 8 = .ok (.iload_n 1, 1) := by decide +kernel
theorem dX8_word_9 : decode cX8_word 9 = .ok (.aload_n 0, 1) := by decide +kernel
theorem dX8_word_10 : decode cX8_word 10 = .ok (.getfield 16, 3) := by decide +kernel
theorem dX8_word_13 : decode cX8_word 13 = .ok (.bipush 40, 2) := by decide +kernel
theorem dX8_word_15 : decode cX8_word 15 = .ok (.iaload, 1) := by decide +kernel
theorem dX8_word_16 : decode cX8_word 16 = .ok (.if_icmp .ge 22, 3) := by decide +kernel
theorem dX8_word_19 : decode cX8_word 19 = .ok (.aload_n 0, 1) := by decide +kernel
theorem dX8_word_20 : decode cX8_word 20 = .ok (.getfield 16, 3) := by decide +kernel
theorem dX8_word_23 : decode cX8_word 23 = .ok (.aload_n 0, 1) := by decide +kernel
theorem dX8_word_24 : decode cX8_word 24 = .ok (.getfield 16, 3) := by decide +kernel
theorem dX8_word_27 : decode cX8_word 27 = .ok (.bipush 40, 2) := by decide +kernel
theorem dX8_word_29 : decode cX8_word 29 = .ok (.iaload, 1) := by decide +kernel
theorem dX8_word_30 : decode cX8_word 30 = .ok (.iconst 1, 1) := by decide +kernel
theorem dX8_word_31 : decode cX8_word 31 = .ok (.isub, 1) := by decide +kernel
theorem dX8_word_32 : decode cX8_word 32 = .ok (.iload_n 1, 1) := by decide +kernel
theorem dX8_word_33 : decode cX8_word 33 = .ok (.isub, 1) := by decide +kernel
theorem dX8_word_34 : decode cX8_word 34 = .ok (.iaload, 1) := by decide +kernel
theorem dX8_word_35 : decode cX8_word 35 = .ok (.goto 5, 3) := by decide +kernel
theorem dX8_word_38 : decode cX8_word 38 = .ok (.bipush (-4), 2) := by decide +kernel
theorem dX8_word_40 : decode cX8_word 40 = .ok (.ireturn, 1) := by decide +kernel
theorem dX8_unlikeOf_0 : decode cX8_unlikeOf 0 = .ok (.aload_n 0, 1) := by decide +kernel
theorem dX8_unlikeOf_1 : decode cX8_unlikeOf 1 = .ok (.getfield 7, 3) := by decide +kernel
theorem dX8_unlikeOf_4 : decode cX8_unlikeOf 4 = .ok (.iconst 5, 1) := by decide +kernel
theorem dX8_unlikeOf_5 : decode cX8_unlikeOf 5 = .ok (.iload_n 1, 1) := by decide +kernel
theorem dX8_unlikeOf_6 : decode cX8_unlikeOf 6 = .ok (.imul, 1) := by decide +kernel
theorem dX8_unlikeOf_7 : decode cX8_unlikeOf 7 = .ok (.iaload, 1) := by decide +kernel
theorem dX8_unlikeOf_8 : decode cX8_unlikeOf 8 = .ok (.aload_n 0, 1) := by decide +kernel
theorem dX8_unlikeOf_9 : decode cX8_unlikeOf 9 = .ok (.getfield 7, 3) := by decide +kernel
theorem dX8_unlikeOf_12 : decode cX8_unlikeOf 12 = .ok (.iconst 5, 1) := by decide +kernel
theorem dX8_unlikeOf_13 : decode cX8_unlikeOf 13 = .ok (.iload_n 2, 1) := by decide +kernel
theorem dX8_unlikeOf_14 : decode cX8_unlikeOf 14 = .ok (.imul, 1) := by decide +kernel
theorem dX8_unlikeOf_15 : decode cX8_unlikeOf 15 = .ok (.iaload, 1) := by decide +kernel
theorem dX8_unlikeOf_16 : decode cX8_unlikeOf 16 = .ok (.ixor, 1) := by decide +kernel
theorem dX8_unlikeOf_17 : decode cX8_unlikeOf 17 = .ok (.invokestatic 154, 3) := by decide +kernel
theorem dX8_unlikeOf_20 : decode cX8_unlikeOf 20 = .ok (.ireturn, 1) := by decide +kernel
theorem dX8_unlike_0 : decode cX8_unlike 0 = .ok (.aload_n 0, 1) := by decide +kernel
theorem dX8_unlike_1 : decode cX8_unlike 1 = .ok (.iload_n 1, 1) := by decide +kernel
theorem dX8_unlike_2 : decode cX8_unlike 2 = .ok (.invokevirtual 151, 3) := by decide +kernel
theorem dX8_unlike_5 : decode cX8_unlike 5 = .ok (.ifCond .eq 20, 3) := by decide +kernel
theorem dX8_unlike_8 : decode cX8_unlike 8 = .ok (.aload_n 0, 1) := by decide +kernel
theorem dX8_unlike_9 : decode cX8_unlike 9 = .ok (.iload_n 2, 1) := by decide +kernel
theorem dX8_unlike_10 : decode cX8_unlike 10 = .ok (.invokevirtual 151, 3) := by decide +kernel
theorem dX8_unlike_13 : decode cX8_unlike 13 = .ok (.ifCond .eq 12, 3) := by decide +kernel
theorem dX8_unlike_16 : decode cX8_unlike 16 = .ok (.aload_n 0, 1) := by decide +kernel
theorem dX8_unlike_17 : decode cX8_unlike 17 = .ok (.iload_n 1, 1) := by decide +kernel
theorem dX8_unlike_18 : decode cX8_unlike 18 = .ok (.iload_n 2, 1) := by decide +kernel
theorem dX8_unlike_19 : decode cX8_unlike 19 = .ok (.invokevirtual 158, 3) := by decide +kernel
theorem dX8_unlike_22 : decode cX8_unlike 22 = .ok (.goto 4, 3) := by decide +kernel
theorem dX8_unlike_25 : decode cX8_unlike 25 = .ok (.iconst (-1), 1) := by decide +kernel
theorem dX8_unlike_26 : decode cX8_unlike 26 = .ok (.ireturn, 1) := by decide +kernel
theorem dX8_doesBy_0 : decode cX8_doesBy 0 = .ok (.aload_n 0, 1) := by decide +kernel
theorem dX8_doesBy_1 : decode cX8_doesBy 1 = .ok (.getfield 16, 3) := by decide +kernel
theorem dX8_doesBy_4 : decode cX8_doesBy 4 = .ok (.bipush 40, 2) := by decide +kernel
theorem dX8_doesBy_6 : decode cX8_doesBy 6 = .ok (.iaload, 1) := by decide +kernel
theorem dX8_doesBy_7 : decode cX8_doesBy 7 = .ok (.istore 4, 2) := by decide +kernel
theorem dX8_doesBy_9 : decode cX8_doesBy 9 = .ok (.iload_n 1, 1) := by decide +kernel
theorem dX8_doesBy_10 : decode cX8_doesBy 10 = .ok (.ifCond .ne 25, 3) := by decide +kernel
theorem dX8_doesBy_13 : decode cX8_doesBy 13 = .ok (.iload 4, 2) := by decide +kernel
theorem dX8_doesBy_15 : decode cX8_doesBy 15 = .ok (.ifCond .le 18, 3) := by decide +kernel
theorem dX8_doesBy_18 : decode cX8_doesBy 18 = .ok (.aload_n 0, 1) := by decide +kernel
theorem dX8_doesBy_19 : decode cX8_doesBy 19 = .ok (.getfield 16, 3) := by decide +kernel
theorem dX8_doesBy_22 : decode cX8_doesBy 22 = .ok (.iload 4, 2) := by decide +kernel
theorem dX8_doesBy_24 : decode cX8_doesBy 24 = .ok (.iconst 1, 1) := by decide +kernel
theorem dX8_doesBy_25 : decode cX8_doesBy 25 = .ok (.isub, 1) := by decide +kernel
theorem dX8_doesBy_26 : decode cX8_doesBy 26 = .ok (.iaload, 1) := by decide +kernel
theorem dX8_doesBy_27 : decode cX8_doesBy 27 = .ok (.bipush 6, 2) := by decide +kernel
theorem dX8_doesBy_29 : decode cX8_doesBy 29 = .ok (.irem, 1) := by decide +kernel
theorem dX8_doesBy_30 : decode cX8_doesBy 30 = .ok (.goto 4, 3) := by decide +kernel
theorem dX8_doesBy_33 : decode cX8_doesBy 33 = .ok (.iload_n 2, 1) := by decide +kernel
theorem dX8_doesBy_34 : decode cX8_doesBy 34 = .ok (.ireturn, 1) := by decide +kernel
theorem dX8_doesBy_35 : decode cX8_doesBy 35 = .ok (.iload_n 1, 1) := by decide +kernel
theorem dX8_doesBy_36 : decode cX8_doesBy 36 = .ok (.iconst 1, 1) := by decide +kernel
theorem dX8_doesBy_37 : decode cX8_doesBy 37 = .ok (.if_icmp .ne 26, 3) := by decide +kernel
theorem dX8_doesBy_40 : decode cX8_doesBy 40 = .ok (.iload 4, 2) := by decide +kernel
theorem dX8_doesBy_42 : decode cX8_doesBy 42 = .ok (.iconst 1, 1) := by decide +kernel
theorem dX8_doesBy_43 : decode cX8_doesBy 43 = .ok (.if_icmp .le 18, 3) := by decide +kernel
theorem dX8_doesBy_46 : decode cX8_doesBy 46 = .ok (.aload_n 0, 1) := by decide +kernel
theorem dX8_doesBy_47 : decode cX8_doesBy 47 = .ok (.getfield 16, 3) := by decide +kernel
theorem dX8_doesBy_50 : decode cX8_doesBy 50 = .ok (.iload 4, 2) := by decide +kernel
theorem dX8_doesBy_52 : decode cX8_doesBy 52 = .ok (.iconst 2, 1) := by decide +kernel
theorem dX8_doesBy_53 : decode cX8_doesBy 53 = .ok (.isub, 1) := by decide +kernel
theorem dX8_doesBy_54 : decode cX8_doesBy 54 = .ok (.iaload, 1) := by decide +kernel
theorem dX8_doesBy_55 : decode cX8_doesBy 55 = .ok (.bipush 6, 2) := by decide +kernel
theorem dX8_doesBy_57 : decode cX8_doesBy 57 = .ok (.irem, 1) := by decide +kernel
theorem dX8_doesBy_58 : decode cX8_doesBy 58 = .ok (.goto 4, 3) := by decide +kernel
theorem dX8_doesBy_61 : decode cX8_doesBy 61 = .ok (.iload_n 2, 1) := by decide +kernel
theorem dX8_doesBy_62 : decode cX8_doesBy 62 = .ok (.ireturn, 1) := by decide +kernel
theorem dX8_doesBy_63 : decode cX8_doesBy 63 = .ok (.iload_n 2, 1) := by decide +kernel
theorem dX8_doesBy_64 : decode cX8_doesBy 64 = .ok (.istore 5, 2) := by decide +kernel
theorem dX8_doesBy_66 : decode cX8_doesBy 66 = .ok (.iload_n 1, 1) := by decide +kernel
theorem dX8_doesBy_67 : decode cX8_doesBy 67 = .ok (.iconst 2, 1) := by decide +kernel
theorem dX8_doesBy_68 : decode cX8_doesBy 68 = .ok (.if_icmp .ne 8, 3) := by decide +kernel
theorem dX8_doesBy_71 : decode cX8_doesBy 71 = .ok (.bipush 99, 2) := by decide +kernel
theorem dX8_doesBy_73 : decode cX8_doesBy 73 = .ok (.goto 4, 3) := by decide +kernel
theorem dX8_doesBy_76 : decode cX8_doesBy 76 = .ok (.iconst 0, 1) := by decide +kernel
theorem dX8_doesBy_77 : decode cX8_doesBy 77 = .ok (.istore 6, 2) := by decide +kernel
theorem dX8_doesBy_79 : decode cX8_doesBy 79 = .ok (.iconst 0, 1) := by decide +kernel
theorem dX8_doesBy_80 : decode cX8_doesBy 80 = .ok (.istore 7, 2) := by decide +kernel
theorem dX8_doesBy_82 : decode cX8_doesBy 82 = .ok (.iload 7, 2) := by decide +kernel
theorem dX8_doesBy_84 : decode cX8_doesBy 84 = .ok (.iload 4, 2) := by decide +kernel
theorem dX8_doesBy_86 : decode cX8_doesBy 86 = .ok (.if_icmp .ge 94, 3) := by decide +kernel
theorem dX8_doesBy_89 : decode cX8_doesBy 89 = .ok (.iload_n 1, 1) := by decide +kernel
theorem dX8_doesBy_90 : decode cX8_doesBy 90 = .ok (.iconst 2, 1) := by decide +kernel
theorem dX8_doesBy_91 : decode cX8_doesBy 91 = .ok (.if_icmp .ne 21, 3) := by decide +kernel
theorem dX8_doesBy_94 : decode cX8_doesBy 94 = .ok (.aload_n 0, 1) := by decide +kernel
theorem dX8_doesBy_95 : decode cX8_doesBy 95 = .ok (.aload_n 0, 1) := by decide +kernel
theorem dX8_doesBy_96 : decode cX8_doesBy 96 = .ok (.getfield 16, 3) := by decide +kernel
theorem dX8_doesBy_99 : decode cX8_doesBy 99 = .ok (.iload 7, 2) := by decide +kernel
theorem dX8_doesBy_101 : decode cX8_doesBy 101 = .ok (.iaload, 1) := by decide +kernel
theorem dX8_doesBy_102 : decode cX8_doesBy 102 = .ok (.bipush 6, 2) := by decide +kernel
theorem dX8_doesBy_104 : decode cX8_doesBy 104 = .ok (.idiv, 1) := by decide +kernel
theorem dX8_doesBy_105 : decode cX8_doesBy 105 = .ok (.iload_n 3, 1) := by decide +kernel
theorem dX8_doesBy_106 : decode cX8_doesBy 106 = .ok (.invokevirtual 158, 3) := by decide +kernel
theorem dX8_doesBy_109 : decode cX8_doesBy 109 = .ok (.goto 23, 3) := by decide +kernel
theorem dX8_doesBy_112 : decode cX8_doesBy 112 = .ok (.aload_n 0, 1) := by decide +kernel
theorem dX8_doesBy_113 : decode cX8_doesBy 113 = .ok (.getfield 16, 3) := by decide +kernel
theorem dX8_doesBy_116 : decode cX8_doesBy 116 = .ok (.iload 7, 2) := by decide +kernel
theorem dX8_doesBy_118 : decode cX8_doesBy 118 = .ok (.iaload, 1) := by decide +kernel
theorem dX8_doesBy_119 : decode cX8_doesBy 119 = .ok (.bipush 6, 2) := by decide +kernel
theorem dX8_doesBy_121 : decode cX8_doesBy 121 = .ok (.idiv, 1) := by decide +kernel
theorem dX8_doesBy_122 : decode cX8_doesBy 122 = .ok (.iload_n 3, 1) := by decide +kernel
theorem dX8_doesBy_123 : decode cX8_doesBy 123 = .ok (.if_icmp .ne 7, 3) := by decide +kernel
theorem dX8_doesBy_126 : decode cX8_doesBy 126 = .ok (.iconst 0, 1) := by decide +kernel
theorem dX8_doesBy_127 : decode cX8_doesBy 127 = .ok (.goto 5, 3) := by decide +kernel
theorem dX8_doesBy_130 : decode cX8_doesBy 130 = .ok (.bipush 99, 2) := by decide +kernel
theorem dX8_doesBy_132 : decode cX8_doesBy 132 = .ok (.istore 8, 2) := by decide +kernel
theorem dX8_doesBy_134 : decode cX8_doesBy 134 = .ok (.iload 8, 2) := by decide +kernel
theorem dX8_doesBy_136 : decode cX8_doesBy 136 = .ok (.iload 6, 2) := by decide +kernel
theorem dX8_doesBy_138 : decode cX8_doesBy 138 = .ok (.if_icmp .gt 16, 3) := by decide +kernel
theorem dX8_doesBy_141 : decode cX8_doesBy 141 = .ok (.aload_n 0, 1) := by decide +kernel
theorem dX8_doesBy_142 : decode cX8_doesBy 142 = .ok (.getfield 16, 3) := by decide +kernel
theorem dX8_doesBy_145 : decode cX8_doesBy 145 = .ok (.iload 7, 2) := by decide +kernel
theorem dX8_doesBy_147 : decode cX8_doesBy 147 = .ok (.iaload, 1) := by decide +kernel
theorem dX8_doesBy_148 : decode cX8_doesBy 148 = .ok (.bipush 6, 2) := by decide +kernel
theorem dX8_doesBy_150 : decode cX8_doesBy 150 = .ok (.irem, 1) := by decide +kernel
theorem dX8_doesBy_151 : decode cX8_doesBy 151 = .ok (.goto 5, 3) := by decide +kernel
theorem dX8_doesBy_154 : decode cX8_doesBy 154 = .ok (.iload 5, 2) := by decide +kernel
theorem dX8_doesBy_156 : decode cX8_doesBy 156 = .ok (.istore 5, 2) := by decide +kernel
theorem dX8_doesBy_158 : decode cX8_doesBy 158 = .ok (.iload 8, 2) := by decide +kernel
theorem dX8_doesBy_160 : decode cX8_doesBy 160 = .ok (.iload 6, 2) := by decide +kernel
theorem dX8_doesBy_162 : decode cX8_doesBy 162 = .ok (.if_icmp .gt 8, 3) := by decide +kernel
theorem dX8_doesBy_165 : decode cX8_doesBy 165 = .ok (.iload 8, 2) := by decide +kernel
theorem dX8_doesBy_167 : decode cX8_doesBy 167 = .ok (.goto 5, 3) := by decide +kernel
theorem dX8_doesBy_170 : decode cX8_doesBy 170 = .ok (.iload 6, 2) := by decide +kernel
theorem dX8_doesBy_172 : decode cX8_doesBy 172 = .ok (.istore 6, 2) := by decide +kernel
theorem dX8_doesBy_174 : decode cX8_doesBy 174 = .ok (.iinc 7 1, 3) := by decide +kernel
theorem dX8_doesBy_177 : decode cX8_doesBy 177 = .ok (.goto (-95), 3) := by decide +kernel
theorem dX8_doesBy_180 : decode cX8_doesBy 180 = .ok (.iload 5, 2) := by decide +kernel
theorem dX8_doesBy_182 : decode cX8_doesBy 182 = .ok (.ireturn, 1) := by decide +kernel
theorem dX8_goes_0 : decode cX8_goes 0 = .ok (.iload_n 2, 1) := by decide +kernel
theorem dX8_goes_1 : decode cX8_goes 1 = .ok (.aload_n 0, 1) := by decide +kernel
theorem dX8_goes_2 : decode cX8_goes 2 = .ok (.getfield 7, 3) := by decide +kernel
theorem dX8_goes_5 : decode cX8_goes 5 = .ok (.iconst 5, 1) := by decide +kernel
theorem dX8_goes_6 : decode cX8_goes 6 = .ok (.iload_n 1, 1) := by decide +kernel
theorem dX8_goes_7 : decode cX8_goes 7 = .ok (.imul, 1) := by decide +kernel
theorem dX8_goes_8 : decode cX8_goes 8 = .ok (.iconst 1, 1) := by decide +kernel
theorem dX8_goes_9 : decode cX8_goes 9 = .ok (.iadd, 1) := by decide +kernel
theorem dX8_goes_10 : decode cX8_goes 10 = .ok (.iaload, 1) := by decide +kernel
theorem dX8_goes_11 : decode cX8_goes 11 = .ok (.if_icmp .ne 7, 3) := by decide +kernel
theorem dX8_goes_14 : decode cX8_goes 14 = .ok (.iconst 0, 1) := by decide +kernel
theorem dX8_goes_15 : decode cX8_goes 15 = .ok (.goto 25, 3) := by decide +kernel
theorem dX8_goes_18 : decode cX8_goes 18 = .ok (.aload_n 0, 1) := by decide +kernel
theorem dX8_goes_19 : decode cX8_goes 19 = .ok (.getfield 7, 3) := by decide +kernel
theorem dX8_goes_22 : decode cX8_goes 22 = .ok (.iconst 5, 1) := by decide +kernel
theorem dX8_goes_23 : decode cX8_goes 23 = .ok (.iload_n 1, 1) := by decide +kernel
theorem dX8_goes_24 : decode cX8_goes 24 = .ok (.imul, 1) := by decide +kernel
theorem dX8_goes_25 : decode cX8_goes 25 = .ok (.iconst 2, 1) := by decide +kernel
theorem dX8_goes_26 : decode cX8_goes 26 = .ok (.iadd, 1) := by decide +kernel
theorem dX8_goes_27 : decode cX8_goes 27 = .ok (.iaload, 1) := by decide +kernel
theorem dX8_goes_28 : decode cX8_goes 28 = .ok (.iload_n 2, 1) := by decide +kernel
theorem dX8_goes_29 : decode cX8_goes 29 = .ok (.invokestatic 162, 3) := by decide +kernel
theorem dX8_goes_32 : decode cX8_goes 32 = .ok (.ifCond .eq 7, 3) := by decide +kernel
theorem dX8_goes_35 : decode cX8_goes 35 = .ok (.iconst 1, 1) := by decide +kernel
theorem dX8_goes_36 : decode cX8_goes 36 = .ok (.goto 4, 3) := by decide +kernel
theorem dX8_goes_39 : decode cX8_goes 39 = .ok (.iconst 2, 1) := by decide +kernel
theorem dX8_goes_40 : decode cX8_goes 40 = .ok (.ireturn, 1) := by decide +kernel
theorem dX8_hear_0 : decode cX8_hear 0 = .ok (.aload_n 0, 1) := by decide +kernel
theorem dX8_hear_1 : decode cX8_hear 1 = .ok (.getfield 16, 3) := by decide +kernel
theorem dX8_hear_4 : decode cX8_hear 4 = .ok (.bipush 40, 2) := by decide +kernel
theorem dX8_hear_6 : decode cX8_hear 6 = .ok (.iaload, 1) := by decide +kernel
theorem dX8_hear_7 : decode cX8_hear 7 = .ok (.bipush 40, 2) := by decide +kernel
theorem dX8_hear_9 : decode cX8_hear 9 = .ok (.if_icmp .ne 42, 3) := by decide +kernel
theorem dX8_hear_12 : decode cX8_hear 12 = .ok (.iconst 0, 1) := by decide +kernel
theorem dX8_hear_13 : decode cX8_hear 13 = .ok (.istore_n 3, 1) := by decide +kernel
theorem dX8_hear_14 : decode cX8_hear 14 = .ok (.iload_n 3, 1) := by decide +kernel
theorem dX8_hear_15 : decode cX8_hear 15 = .ok (.bipush 39, 2) := by decide +kernel
theorem dX8_hear_17 : decode cX8_hear 17 = .ok (.if_icmp .ge 23, 3) := by decide +kernel
theorem dX8_hear_20 : decode cX8_hear 20 = .ok (.aload_n 0, 1) := by decide +kernel
theorem dX8_hear_21 : decode cX8_hear 21 = .ok (.getfield 16, 3) := by decide +kernel
theorem dX8_hear_24 : decode cX8_hear 24 = .ok (.iload_n 3, 1) := by decide +kernel
theorem dX8_hear_25 : decode cX8_hear 25 = .ok (.aload_n 0, 1) := by decide +kernel
theorem dX8_hear_26 : decode cX8_hear 26 = .ok (.getfield 16, 3) := by decide +kernel
theorem dX8_hear_29 : decode cX8_hear 29 = .ok (.iload_n 3, 1) := by decide +kernel
theorem dX8_hear_30 : decode cX8_hear 30 = .ok (.iconst 1, 1) := by decide +kernel
theorem dX8_hear_31 : decode cX8_hear 31 = .ok (.iadd, 1) := by decide +kernel
theorem dX8_hear_32 : decode cX8_hear 32 = .ok (.iaload, 1) := by decide +kernel
theorem dX8_hear_33 : decode cX8_hear 33 = .ok (.iastore, 1) := by decide +kernel
theorem dX8_hear_34 : decode cX8_hear 34 = .ok (.iinc 3 1, 3) := by decide +kernel
theorem dX8_hear_37 : decode cX8_hear 37 = .ok (.goto (-23), 3) := by decide +kernel
theorem dX8_hear_40 : decode cX8_hear 40 = .ok (.aload_n 0, 1) := by decide +kernel
theorem dX8_hear_41 : decode cX8_hear 41 = .ok (.getfield 16, 3) := by decide +kernel
theorem dX8_hear_44 : decode cX8_hear 44 = .ok (.bipush 40, 2) := by decide +kernel
theorem dX8_hear_46 : decode cX8_hear 46 = .ok (.dup2, 1) := by decide +kernel
theorem dX8_hear_47 : decode cX8_hear 47 = .ok (.iaload, 1) := by decide +kernel
theorem dX8_hear_48 : decode cX8_hear 48 = .ok (.iconst 1, 1) := by decide +kernel
theorem dX8_hear_49 : decode cX8_hear 49 = .ok (.isub, 1) := by decide +kernel
theorem dX8_hear_50 : decode cX8_hear 50 = .ok (.iastore, 1) := by decide +kernel
theorem dX8_hear_51 : decode cX8_hear 51 = .ok (.aload_n 0, 1) := by decide +kernel
theorem dX8_hear_52 : decode cX8_hear 52 = .ok (.getfield 16, 3) := by decide +kernel
theorem dX8_hear_55 : decode cX8_hear 55 = .ok (.aload_n 0, 1) := by decide +kernel
theorem dX8_hear_56 : decode cX8_hear 56 = .ok (.getfield 16, 3) := by decide +kernel
theorem dX8_hear_59 : decode cX8_hear 59 = .ok (.bipush 40, 2) := by decide +kernel
theorem dX8_hear_61 : decode cX8_hear 61 = .ok (.iaload, 1) := by decide +kernel
theorem dX8_hear_62 : decode cX8_hear 62 = .ok (.bipush 6, 2) := by decide +kernel
theorem dX8_hear_64 : decode cX8_hear 64 = .ok (.iload_n 1, 1) := by decide +kernel
theorem dX8_hear_65 : decode cX8_hear 65 = .ok (.imul, 1) := by decide +kernel
theorem dX8_hear_66 : decode cX8_hear 66 = .ok (.iload_n 2, 1) := by decide +kernel
theorem dX8_hear_67 : decode cX8_hear 67 = .ok (.iadd, 1) := by decide +kernel
theorem dX8_hear_68 : decode cX8_hear 68 = .ok (.iastore, 1) := by decide +kernel
theorem dX8_hear_69 : decode cX8_hear 69 = .ok (.aload_n 0, 1) := by decide +kernel
theorem dX8_hear_70 : decode cX8_hear 70 = .ok (.getfield 16, 3) := by decide +kernel
theorem dX8_hear_73 : decode cX8_hear 73 = .ok (.bipush 40, 2) := by decide +kernel
theorem dX8_hear_75 : decode cX8_hear 75 = .ok (.dup2, 1) := by decide +kernel
theorem dX8_hear_76 : decode cX8_hear 76 = .ok (.iaload, 1) := by decide +kernel
theorem dX8_hear_77 : decode cX8_hear 77 = .ok (.iconst 1, 1) := by decide +kernel
theorem dX8_hear_78 : decode cX8_hear 78 = .ok (.iadd, 1) := by decide +kernel
theorem dX8_hear_79 : decode cX8_hear 79 = .ok (.iastore, 1) := by decide +kernel
theorem dX8_hear_80 : decode cX8_hear 80 = .ok (.return_, 1) := by decide +kernel
theorem dX8_day_0 : decode cX8_day 0 = .ok (.aload_n 0, 1) := by decide +kernel
theorem dX8_day_1 : decode cX8_day 1 = .ok (.aload_n 0, 1) := by decide +kernel
theorem dX8_day_2 : decode cX8_day 2 = .ok (.iload_n 1, 1) := by decide +kernel
theorem dX8_day_3 : decode cX8_day 3 = .ok (.iload_n 2, 1) := by decide +kernel
theorem dX8_day_4 : decode cX8_day 4 = .ok (.iload_n 3, 1) := by decide +kernel
theorem dX8_day_5 : decode cX8_day 5 = .ok (.invokevirtual 166, 3) := by decide +kernel
theorem dX8_day_8 : decode cX8_day 8 = .ok (.putfield 170, 3) := by decide +kernel
theorem dX8_day_11 : decode cX8_day 11 = .ok (.aload_n 0, 1) := by decide +kernel
theorem dX8_day_12 : decode cX8_day 12 = .ok (.iload_n 3, 1) := by decide +kernel
theorem dX8_day_13 : decode cX8_day 13 = .ok (.aload_n 0, 1) := by decide +kernel
theorem dX8_day_14 : decode cX8_day 14 = .ok (.getfield 170, 3) := by decide +kernel
theorem dX8_day_17 : decode cX8_day 17 = .ok (.invokevirtual 173, 3) := by decide +kernel
theorem dX8_day_20 : decode cX8_day 20 = .ok (.istore 4, 2) := by decide +kernel
theorem dX8_day_22 : decode cX8_day 22 = .ok (.aload_n 0, 1) := by decide +kernel
theorem dX8_day_23 : decode cX8_day 23 = .ok (.getfield 16, 3) := by decide +kernel
theorem dX8_day_26 : decode cX8_day 26 = .ok (.bipush 41, 2) := by decide +kernel
theorem dX8_day_28 : decode cX8_day 28 = .ok (.dup2, 1) := by decide +kernel
theorem dX8_day_29 : decode cX8_day 29 = .ok (.iaload, 1) := by decide +kernel
theorem dX8_day_30 : decode cX8_day 30 = .ok (.iconst 1, 1) := by decide +kernel
theorem dX8_day_31 : decode cX8_day 31 = .ok (.iadd, 1) := by decide +kernel
theorem dX8_day_32 : decode cX8_day 32 = .ok (.iastore, 1) := by decide +kernel
theorem dX8_day_33 : decode cX8_day 33 = .ok (.aload_n 0, 1) := by decide +kernel
theorem dX8_day_34 : decode cX8_day 34 = .ok (.getfield 16, 3) := by decide +kernel
theorem dX8_day_37 : decode cX8_day 37 = .ok (.bipush 42, 2) := by decide +kernel
theorem dX8_day_39 : decode cX8_day 39 = .ok (.dup2, 1) := by decide +kernel
theorem dX8_day_40 : decode cX8_day 40 = .ok (.iaload, 1) := by decide +kernel
theorem dX8_day_41 : decode cX8_day 41 = .ok (.iload 4, 2) := by decide +kernel
theorem dX8_day_43 : decode cX8_day 43 = .ok (.iconst 1, 1) := by decide +kernel
theorem dX8_day_44 : decode cX8_day 44 = .ok (.if_icmp .ne 16, 3) := by decide +kernel
theorem dX8_day_47 : decode cX8_day 47 = .ok (.aload_n 0, 1) := by decide +kernel
theorem dX8_day_48 : decode cX8_day 48 = .ok (.getfield 7, 3) := by decide +kernel
theorem dX8_day_51 : decode cX8_day 51 = .ok (.iconst 5, 1) := by decide +kernel
theorem dX8_day_52 : decode cX8_day 52 = .ok (.iload_n 3, 1) := by decide +kernel
theorem dX8_day_53 : decode cX8_day 53 = .ok (.imul, 1) := by decide +kernel
theorem dX8_day_54 : decode cX8_day 54 = .ok (.iconst 3, 1) := by decide +kernel
theorem dX8_day_55 : decode cX8_day 55 = .ok (.iadd, 1) := by decide +kernel
theorem dX8_day_56 : decode cX8_day 56 = .ok (.iaload, 1) := by decide +kernel
theorem dX8_day_57 : decode cX8_day 57 = .ok (.goto 4, 3) := by decide +kernel
theorem dX8_day_60 : decode cX8_day 60 = .ok (.iconst 0, 1) := by decide +kernel
theorem dX8_day_61 : decode cX8_day 61 = .ok (.iadd, 1) := by decide +kernel
theorem dX8_day_62 : decode cX8_day 62 = .ok (.iastore, 1) := by decide +kernel
theorem dX8_day_63 : decode cX8_day 63 = .ok (.aload_n 0, 1) := by decide +kernel
theorem dX8_day_64 : decode cX8_day 64 = .ok (.getfield 16, 3) := by decide +kernel
theorem dX8_day_67 : decode cX8_day 67 = .ok (.bipush 43, 2) := by decide +kernel
theorem dX8_day_69 : decode cX8_day 69 = .ok (.dup2, 1) := by decide +kernel
theorem dX8_day_70 : decode cX8_day 70 = .ok (.iaload, 1) := by decide +kernel
theorem dX8_day_71 : decode cX8_day 71 = .ok (.iload 4, 2) := by decide +kernel
theorem dX8_day_73 : decode cX8_day 73 = .ok (.ifCond .ne 7, 3) := by decide +kernel
theorem dX8_day_76 : decode cX8_day 76 = .ok (.iconst 1, 1) := by decide +kernel
theorem dX8_day_77 : decode cX8_day 77 = .ok (.goto 4, 3) := by decide +kernel
theorem dX8_day_80 : decode cX8_day 80 = .ok (.iconst 0, 1) := by decide +kernel
theorem dX8_day_81 : decode cX8_day 81 = .ok (.iadd, 1) := by decide +kernel
theorem dX8_day_82 : decode cX8_day 82 = .ok (.iastore, 1) := by decide +kernel
theorem dX8_day_83 : decode cX8_day 83 = .ok (.aload_n 0, 1) := by decide +kernel
theorem dX8_day_84 : decode cX8_day 84 = .ok (.getfield 16, 3) := by decide +kernel
theorem dX8_day_87 : decode cX8_day 87 = .ok (.bipush 44, 2) := by decide +kernel
theorem dX8_day_89 : decode cX8_day 89 = .ok (.iload_n 3, 1) := by decide +kernel
theorem dX8_day_90 : decode cX8_day 90 = .ok (.iadd, 1) := by decide +kernel
theorem dX8_day_91 : decode cX8_day 91 = .ok (.dup2, 1) := by decide +kernel
theorem dX8_day_92 : decode cX8_day 92 = .ok (.iaload, 1) := by decide +kernel
theorem dX8_day_93 : decode cX8_day 93 = .ok (.iconst 1, 1) := by decide +kernel
theorem dX8_day_94 : decode cX8_day 94 = .ok (.iadd, 1) := by decide +kernel
theorem dX8_day_95 : decode cX8_day 95 = .ok (.iastore, 1) := by decide +kernel
theorem dX8_day_96 : decode cX8_day 96 = .ok (.iload 4, 2) := by decide +kernel
theorem dX8_day_98 : decode cX8_day 98 = .ok (.ifCond .eq 18, 3) := by decide +kernel
theorem dX8_day_101 : decode cX8_day 101 = .ok (.aload_n 0, 1) := by decide +kernel
theorem dX8_day_102 : decode cX8_day 102 = .ok (.iload_n 3, 1) := by decide +kernel
theorem dX8_day_103 : decode cX8_day 103 = .ok (.aload_n 0, 1) := by decide +kernel
theorem dX8_day_104 : decode cX8_day 104 = .ok (.getfield 7, 3) := by decide +kernel
theorem dX8_day_107 : decode cX8_day 107 = .ok (.iconst 5, 1) := by decide +kernel
theorem dX8_day_108 : decode cX8_day 108 = .ok (.iload_n 3, 1) := by decide +kernel
theorem dX8_day_109 : decode cX8_day 109 = .ok (.imul, 1) := by decide +kernel
theorem dX8_day_110 : decode cX8_day 110 = .ok (.iconst 1, 1) := by decide +kernel
theorem dX8_day_111 : decode cX8_day 111 = .ok (.iadd, 1) := by decide +kernel
theorem dX8_day_112 : decode cX8_day 112 = .ok (.iaload, 1) := by decide +kernel
theorem dX8_day_113 : decode cX8_day 113 = .ok (.invokevirtual 176, 3) := by decide +kernel
theorem dX8_day_116 : decode cX8_day 116 = .ok (.iload 4, 2) := by decide +kernel
theorem dX8_day_118 : decode cX8_day 118 = .ok (.ireturn, 1) := by decide +kernel
theorem dX8_does_0 : decode cX8_does 0 = .ok (.iload_n 1, 1) := by decide +kernel
theorem dX8_does_1 : decode cX8_does 1 = .ok (.i2l, 1) := by decide +kernel
theorem dX8_does_2 : decode cX8_does 2 = .ok (.lconst 0, 1) := by decide +kernel
theorem dX8_does_3 : decode cX8_does 3 = .ok (.ldc2_w 180, 3) := by decide +kernel
theorem dX8_does_6 : decode cX8_does 6 = .ok (.invokestatic 78, 3) := by decide +kernel
theorem dX8_does_9 : decode cX8_does 9 = .ok (.ifCond .eq 24, 3) := by decide +kernel
theorem dX8_does_12 : decode cX8_does 12 = .ok (.aload_n 0, 1) := by decide +kernel
theorem dX8_does_13 : decode cX8_does 13 = .ok (.iload_n 2, 1) := by decide +kernel
theorem dX8_does_14 : decode cX8_does 14 = .ok (.invokevirtual 151, 3) := by decide +kernel
theorem dX8_does_17 : decode cX8_does 17 = .ok (.ifCond .eq 16, 3) := by decide +kernel
theorem dX8_does_20 : decode cX8_does 20 = .ok (.aload_n 0, 1) := by decide +kernel
theorem dX8_does_21 : decode cX8_does 21 = .ok (.iload_n 1, 1) := by decide +kernel
theorem dX8_does_22 : decode cX8_does 22 = .ok (.aload_n 0, 1) := by decide +kernel
theorem dX8_does_23 : decode cX8_does 23 = .ok (.getfield 139, 3) := by decide +kernel
theorem dX8_does_26 : decode cX8_does 26 = .ok (.iload_n 2, 1) := by decide +kernel
theorem dX8_does_27 : decode cX8_does 27 = .ok (.invokevirtual 166, 3) := by decide +kernel
theorem dX8_does_30 : decode cX8_does 30 = .ok (.goto 4, 3) := by decide +kernel
theorem dX8_does_33 : decode cX8_does 33 = .ok (.iconst (-1), 1) := by decide +kernel
theorem dX8_does_34 : decode cX8_does 34 = .ok (.ireturn, 1) := by decide +kernel
theorem dX8_note_0 : decode cX8_note 0 = .ok (.aload_n 0, 1) := by decide +kernel
theorem dX8_note_1 : decode cX8_note 1 = .ok (.getfield 142, 3) := by decide +kernel
theorem dX8_note_4 : decode cX8_note 4 = .ok (.bipush 8, 2) := by decide +kernel
theorem dX8_note_6 : decode cX8_note 6 = .ok (.if_icmp .ne 43, 3) := by decide +kernel
theorem dX8_note_9 : decode cX8_note 9 = .ok (.iconst 0, 1) := by decide +kernel
theorem dX8_note_10 : decode cX8_note 10 = .ok (.istore_n 1, 1) := by decide +kernel
theorem dX8_note_11 : decode cX8_note 11 = .ok (.iload_n 1, 1) := by decide +kernel
theorem dX8_note_12 : decode cX8_note 12 = .ok (.sipush 350, 3) := by decide +kernel
theorem dX8_note_15 : decode cX8_note 15 = .ok (.if_icmp .ge 24, 3) := by decide +kernel
theorem dX8_note_18 : decode cX8_note 18 = .ok (.aload_n 0, 1) := by decide +kernel
theorem dX8_note_19 : decode cX8_note 19 = .ok (.getfield 31, 3) := by decide +kernel
theorem dX8_note_22 : decode cX8_note 22 = .ok (.iload_n 1, 1) := by decide +kernel
theorem dX8_note_23 : decode cX8_note 23 = .ok (.aload_n 0, 1) := by decide +kernel
theorem dX8_note_24 : decode cX8_note 24 = .ok (.getfield 31, 3) := by decide +kernel
theorem dX8_note_27 : decode cX8_note 27 = .ok (.iload_n 1, 1) := by decide +kernel
theorem dX8_note_28 : decode cX8_note 28 = .ok (.bipush 50, 2) := by decide +kernel
theorem dX8_note_30 : decode cX8_note 30 = .ok (.iadd, 1) := by decide +kernel
theorem dX8_note_31 : decode cX8_note 31 = .ok (.iaload, 1) := by decide +kernel
theorem dX8_note_32 : decode cX8_note 32 = .ok (.iastore, 1) := by decide +kernel
theorem dX8_note_33 : decode cX8_note 33 = .ok (.iinc 1 1, 3) := by decide +kernel
theorem dX8_note_36 : decode cX8_note 36 = .ok (.goto (-25), 3) := by decide +kernel
theorem dX8_note_39 : decode cX8_note 39 = .ok (.aload_n 0, 1) := by decide +kernel
theorem dX8_note_40 : decode cX8_note 40 = .ok (.dup, 1) := by decide +kernel
theorem dX8_note_41 : decode cX8_note 41 = .ok (.getfield 142, 3) := by decide +kernel
theorem dX8_note_44 : decode cX8_note 44 = .ok (.iconst 1, 1) := by decide +kernel
theorem dX8_note_45 : decode cX8_note 45 = .ok (.isub, 1) := by decide +kernel
theorem dX8_note_46 : decode cX8_note 46 = .ok (.putfield 142, 3) := by decide +kernel
theorem dX8_note_49 : decode cX8_note 49 = .ok (.iconst 0, 1) := by decide +kernel
theorem dX8_note_50 : decode cX8_note 50 = .ok (.istore_n 1, 1) := by decide +kernel
theorem dX8_note_51 : decode cX8_note 51 = .ok (.iload_n 1, 1) := by decide +kernel
theorem dX8_note_52 : decode cX8_note 52 = .ok (.bipush 50, 2) := by decide +kernel
theorem dX8_note_54 : decode cX8_note 54 = .ok (.if_icmp .ge 29, 3) := by decide +kernel
theorem dX8_note_57 : decode cX8_note 57 = .ok (.aload_n 0, 1) := by decide +kernel
theorem dX8_note_58 : decode cX8_note 58 = .ok (.getfield 31, 3) := by decide +kernel
theorem dX8_note_61 : decode cX8_note 61 = .ok (.bipush 50, 2) := by decide +kernel
theorem dX8_note_63 : decode cX8_note 63 = .ok (.aload_n 0, 1) := by decide +kernel
theorem dX8_note_64 : decode cX8_note 64 = .ok (.getfield 142, 3) := by decide +kernel
theorem dX8_note_67 : decode cX8_note 67 = .ok (.imul, 1) := by decide +kernel
theorem dX8_note_68 : decode cX8_note 68 = .ok (.iload_n 1, 1) := by decide +kernel
theorem dX8_note_69 : decode cX8_note 69 = .ok (.iadd, 1) := by decide +kernel
theorem dX8_note_70 : decode cX8_note 70 = .ok (.aload_n 0, 1) := by decide +kernel
theorem dX8_note_71 : decode cX8_note 71 = .ok (.getfield 16, 3) := by decide +kernel
theorem dX8_note_74 : decode cX8_note 74 = .ok (.iload_n 1, 1) := by decide +kernel
theorem dX8_note_75 : decode cX8_note 75 = .ok (.iaload, 1) := by decide +kernel
theorem dX8_note_76 : decode cX8_note 76 = .ok (.iastore, 1) := by decide +kernel
theorem dX8_note_77 : decode cX8_note 77 = .ok (.iinc 1 1, 3) := by decide +kernel
theorem dX8_note_80 : decode cX8_note 80 = .ok (.goto (-29), 3) := by decide +kernel
theorem dX8_note_83 : decode cX8_note 83 = .ok (.aload_n 0, 1) := by decide +kernel
theorem dX8_note_84 : decode cX8_note 84 = .ok (.dup, 1) := by decide +kernel
theorem dX8_note_85 : decode cX8_note 85 = .ok (.getfield 142, 3) := by decide +kernel
theorem dX8_note_88 : decode cX8_note 88 = .ok (.iconst 1, 1) := by decide +kernel
theorem dX8_note_89 : decode cX8_note 89 = .ok (.iadd, 1) := by decide +kernel
theorem dX8_note_90 : decode cX8_note 90 = .ok (.putfield 142, 3) := by decide +kernel
theorem dX8_note_93 : decode cX8_note 93 = .ok (.return_, 1) := by decide +kernel
theorem dX8_hand_0 : decode cX8_hand 0 = .ok (.aload_n 0, 1) := by decide +kernel
theorem dX8_hand_1 : decode cX8_hand 1 = .ok (.iload_n 1, 1) := by decide +kernel
theorem dX8_hand_2 : decode cX8_hand 2 = .ok (.invokevirtual 151, 3) := by decide +kernel
theorem dX8_hand_5 : decode cX8_hand 5 = .ok (.ifCond .ne 5, 3) := by decide +kernel
theorem dX8_hand_8 : decode cX8_hand 8 = .ok (.iconst (-1), 1) := by decide +kernel
theorem dX8_hand_9 : decode cX8_hand 9 = .ok (.ireturn, 1) := by decide +kernel
theorem dX8_hand_10 : decode cX8_hand 10 = .ok (.aload_n 0, 1) := by decide +kernel
theorem dX8_hand_11 : decode cX8_hand 11 = .ok (.invokevirtual 182, 3) := by decide +kernel
theorem dX8_hand_14 : decode cX8_hand 14 = .ok (.aload_n 0, 1) := by decide +kernel
theorem dX8_hand_15 : decode cX8_hand 15 = .ok (.aload_n 0, 1) := by decide +kernel
theorem dX8_hand_16 : decode cX8_hand 16 = .ok (.getfield 136, 3) := by decide +kernel
theorem dX8_hand_19 : decode cX8_hand 19 = .ok (.aload_n 0, 1) := by decide +kernel
theorem dX8_hand_20 : decode cX8_hand 20 = .ok (.getfield 139, 3) := by decide +kernel
theorem dX8_hand_23 : decode cX8_hand 23 = .ok (.iload_n 1, 1) := by decide +kernel
theorem dX8_hand_24 : decode cX8_hand 24 = .ok (.invokevirtual 185, 3) := by decide +kernel
theorem dX8_hand_27 : decode cX8_hand 27 = .ok (.ireturn, 1) := by decide +kernel
theorem dX8_teach_0 : decode cX8_teach 0 = .ok (.aload_n 0, 1) := by decide +kernel
theorem dX8_teach_1 : decode cX8_teach 1 = .ok (.iload_n 1, 1) := by decide +kernel
theorem dX8_teach_2 : decode cX8_teach 2 = .ok (.invokevirtual 151, 3) := by decide +kernel
theorem dX8_teach_5 : decode cX8_teach 5 = .ok (.ifCond .eq 10, 3) := by decide +kernel
theorem dX8_teach_8 : decode cX8_teach 8 = .ok (.iload_n 2, 1) := by decide +kernel
theorem dX8_teach_9 : decode cX8_teach 9 = .ok (.invokestatic 103, 3) := by decide +kernel
theorem dX8_teach_12 : decode cX8_teach 12 = .ok (.ifCond .ne 5, 3) := by decide +kernel
theorem dX8_teach_15 : decode cX8_teach 15 = .ok (.iconst (-1), 1) := by decide +kernel
theorem dX8_teach_16 : decode cX8_teach 16 = .ok (.ireturn, 1) := by decide +kernel
theorem dX8_teach_17 : decode cX8_teach 17 = .ok (.aload_n 0, 1) := by decide +kernel
theorem dX8_teach_18 : decode cX8_teach 18 = .ok (.invokevirtual 182, 3) := by decide +kernel
theorem dX8_teach_21 : decode cX8_teach 21 = .ok (.aload_n 0, 1) := by decide +kernel
theorem dX8_teach_22 : decode cX8_teach 22 = .ok (.iload_n 1, 1) := by decide +kernel
theorem dX8_teach_23 : decode cX8_teach 23 = .ok (.iload_n 2, 1) := by decide +kernel
theorem dX8_teach_24 : decode cX8_teach 24 = .ok (.invokevirtual 176, 3) := by decide +kernel
theorem dX8_teach_27 : decode cX8_teach 27 = .ok (.aload_n 0, 1) := by decide +kernel
theorem dX8_teach_28 : decode cX8_teach 28 = .ok (.getfield 16, 3) := by decide +kernel
theorem dX8_teach_31 : decode cX8_teach 31 = .ok (.bipush 40, 2) := by decide +kernel
theorem dX8_teach_33 : decode cX8_teach 33 = .ok (.iaload, 1) := by decide +kernel
theorem dX8_teach_34 : decode cX8_teach 34 = .ok (.ireturn, 1) := by decide +kernel
theorem dX8_undo_0 : decode cX8_undo 0 = .ok (.aload_n 0, 1) := by decide +kernel
theorem dX8_undo_1 : decode cX8_undo 1 = .ok (.getfield 142, 3) := by decide +kernel
theorem dX8_undo_4 : decode cX8_undo 4 = .ok (.ifCond .ne 6, 3) := by decide +kernel
theorem dX8_undo_7 : decode cX8_undo 7 = .ok (.bipush (-2), 2) := by decide +kernel
theorem dX8_undo_9 : decode cX8_undo 9 = .ok (.ireturn, 1) := by decide +kernel
theorem dX8_undo_10 : decode cX8_undo 10 = .ok (.aload_n 0, 1) := by decide +kernel
theorem dX8_undo_11 : decode cX8_undo 11 = .ok (.dup, 1) := by decide +kernel
theorem dX8_undo_12 : decode cX8_undo 12 = .ok (.getfield 142, 3) := by decide +kernel
theorem dX8_undo_15 : decode cX8_undo 15 = .ok (.iconst 1, 1) := by decide +kernel
theorem dX8_undo_16 : decode cX8_undo 16 = .ok (.isub, 1) := by decide +kernel
theorem dX8_undo_17 : decode cX8_undo 17 = .ok (.putfield 142, 3) := by decide +kernel
theorem dX8_undo_20 : decode cX8_undo 20 = .ok (.iconst 0, 1) := by decide +kernel
theorem dX8_undo_21 : decode cX8_undo 21 = .ok (.istore_n 1, 1) := by decide +kernel
theorem dX8_undo_22 : decode cX8_undo 22 = .ok (.iload_n 1, 1) := by decide +kernel
theorem dX8_undo_23 : decode cX8_undo 23 = .ok (.bipush 50, 2) := by decide +kernel
theorem dX8_undo_25 : decode cX8_undo 25 = .ok (.if_icmp .ge 29, 3) := by decide +kernel
theorem dX8_undo_28 : decode cX8_undo 28 = .ok (.aload_n 0, 1) := by decide +kernel
theorem dX8_undo_29 : decode cX8_undo 29 = .ok (.getfield 16, 3) := by decide +kernel
theorem dX8_undo_32 : decode cX8_undo 32 = .ok (.iload_n 1, 1) := by decide +kernel
theorem dX8_undo_33 : decode cX8_undo 33 = .ok (.aload_n 0, 1) := by decide +kernel
theorem dX8_undo_34 : decode cX8_undo 34 = .ok (.getfield 31, 3) := by decide +kernel
theorem dX8_undo_37 : decode cX8_undo 37 = .ok (.bipush 50, 2) := by decide +kernel
theorem dX8_undo_39 : decode cX8_undo 39 = .ok (.aload_n 0, 1) := by decide +kernel
theorem dX8_undo_40 : decode cX8_undo 40 = .ok (.getfield 142, 3) := by decide +kernel
theorem dX8_undo_43 : decode cX8_undo 43 = .ok (.imul, 1) := by decide +kernel
theorem dX8_undo_44 : decode cX8_undo 44 = .ok (.iload_n 1, 1) := by decide +kernel
theorem dX8_undo_45 : decode cX8_undo 45 = .ok (.iadd, 1) := by decide +kernel
theorem dX8_undo_46 : decode cX8_undo 46 = .ok (.iaload, 1) := by decide +kernel
theorem dX8_undo_47 : decode cX8_undo 47 = .ok (.iastore, 1) := by decide +kernel
theorem dX8_undo_48 : decode cX8_undo 48 = .ok (.iinc 1 1, 3) := by decide +kernel
theorem dX8_undo_51 : decode cX8_undo 51 = .ok (.goto (-29), 3) := by decide +kernel
theorem dX8_undo_54 : decode cX8_undo 54 = .ok (.aload_n 0, 1) := by decide +kernel
theorem dX8_undo_55 : decode cX8_undo 55 = .ok (.getfield 142, 3) := by decide +kernel
theorem dX8_undo_58 : decode cX8_undo 58 = .ok (.ireturn, 1) := by decide +kernel
theorem dX8_tell_0 : decode cX8_tell 0 = .ok (.aload_n 0, 1) := by decide +kernel
theorem dX8_tell_1 : decode cX8_tell 1 = .ok (.iload_n 1, 1) := by decide +kernel
theorem dX8_tell_2 : decode cX8_tell 2 = .ok (.invokevirtual 151, 3) := by decide +kernel
theorem dX8_tell_5 : decode cX8_tell 5 = .ok (.ifCond .ne 5, 3) := by decide +kernel
theorem dX8_tell_8 : decode cX8_tell 8 = .ok (.iconst (-1), 1) := by decide +kernel
theorem dX8_tell_9 : decode cX8_tell 9 = .ok (.ireturn, 1) := by decide +kernel
theorem dX8_tell_10 : decode cX8_tell 10 = .ok (.aload_n 0, 1) := by decide +kernel
theorem dX8_tell_11 : decode cX8_tell 11 = .ok (.getfield 71, 3) := by decide +kernel
theorem dX8_tell_14 : decode cX8_tell 14 = .ok (.bipush 10, 2) := by decide +kernel
theorem dX8_tell_16 : decode cX8_tell 16 = .ok (.if_icmp .ne 6, 3) := by decide +kernel
theorem dX8_tell_19 : decode cX8_tell 19 = .ok (.bipush (-3), 2) := by decide +kernel
theorem dX8_tell_21 : decode cX8_tell 21 = .ok (.ireturn, 1) := by decide +kernel
theorem dX8_tell_22 : decode cX8_tell 22 = .ok (.aload_n 0, 1) := by decide +kernel
theorem dX8_tell_23 : decode cX8_tell 23 = .ok (.getfield 13, 3) := by decide +kernel
theorem dX8_tell_26 : decode cX8_tell 26 = .ok (.aload_n 0, 1) := by decide +kernel
theorem dX8_tell_27 : decode cX8_tell 27 = .ok (.getfield 71, 3) := by decide +kernel
theorem dX8_tell_30 : decode cX8_tell 30 = .ok (.iload_n 1, 1) := by decide +kernel
theorem dX8_tell_31 : decode cX8_tell 31 = .ok (.iastore, 1) := by decide +kernel
theorem dX8_tell_32 : decode cX8_tell 32 = .ok (.aload_n 0, 1) := by decide +kernel
theorem dX8_tell_33 : decode cX8_tell 33 = .ok (.dup, 1) := by decide +kernel
theorem dX8_tell_34 : decode cX8_tell 34 = .ok (.getfield 71, 3) := by decide +kernel
theorem dX8_tell_37 : decode cX8_tell 37 = .ok (.iconst 1, 1) := by decide +kernel
theorem dX8_tell_38 : decode cX8_tell 38 = .ok (.iadd, 1) := by decide +kernel
theorem dX8_tell_39 : decode cX8_tell 39 = .ok (.putfield 71, 3) := by decide +kernel
theorem dX8_tell_42 : decode cX8_tell 42 = .ok (.aload_n 0, 1) := by decide +kernel
theorem dX8_tell_43 : decode cX8_tell 43 = .ok (.getfield 71, 3) := by decide +kernel
theorem dX8_tell_46 : decode cX8_tell 46 = .ok (.ireturn, 1) := by decide +kernel
theorem dX8_noRow_0 : decode cX8_noRow 0 = .ok (.aload_n 0, 1) := by decide +kernel
theorem dX8_noRow_1 : decode cX8_noRow 1 = .ok (.getfield 71, 3) := by decide +kernel
theorem dX8_noRow_4 : decode cX8_noRow 4 = .ok (.istore_n 1, 1) := by decide +kernel
theorem dX8_noRow_5 : decode cX8_noRow 5 = .ok (.aload_n 0, 1) := by decide +kernel
theorem dX8_noRow_6 : decode cX8_noRow 6 = .ok (.iconst 0, 1) := by decide +kernel
theorem dX8_noRow_7 : decode cX8_noRow 7 = .ok (.putfield 71, 3) := by decide +kernel
theorem dX8_noRow_10 : decode cX8_noRow 10 = .ok (.aload_n 0, 1) := by decide +kernel
theorem dX8_noRow_11 : decode cX8_noRow 11 = .ok (.iconst 0, 1) := by decide +kernel
theorem dX8_noRow_12 : decode cX8_noRow 12 = .ok (.putfield 145, 3) := by decide +kernel
theorem dX8_noRow_15 : decode cX8_noRow 15 = .ok (.iload_n 1, 1) := by decide +kernel
theorem dX8_noRow_16 : decode cX8_noRow 16 = .ok (.ireturn, 1) := by decide +kernel
theorem dX8_putAside_0 : decode cX8_putAside 0 = .ok (.iconst 0, 1) := by decide +kernel
theorem dX8_putAside_1 : decode cX8_putAside 1 = .ok (.istore_n 1, 1) := by decide +kernel
theorem dX8_putAside_2 : decode cX8_putAside 2 = .ok (.iload_n 1, 1) := by decide +kernel
theorem dX8_putAside_3 : decode cX8_putAside 3 = .ok (.bipush 50, 2) := by decide +kernel
theorem dX8_putAside_5 : decode cX8_putAside 5 = .ok (.if_icmp .ge 21, 3) := by decide +kernel
theorem dX8_putAside_8 : decode cX8_putAside 8 = .ok (.aload_n 0, 1) := by decide +kernel
theorem dX8_putAside_9 : decode cX8_putAside 9 = .ok (.getfield 34, 3) := by decide +kernel
theorem dX8_putAside_12 : decode cX8_putAside 12 = .ok (.iload_n 1, 1) := by decide +kernel
theorem dX8_putAside_13 : decode cX8_putAside 13 = .ok (.aload_n 0, 1) := by decide +kernel
theorem dX8_putAside_14 : decode cX8_putAside 14 = .ok (.getfield 16, 3) := by decide +kernel
theorem dX8_putAside_17 : decode cX8_putAside 17 = .ok (.iload_n 1, 1) := by decide +kernel
theorem dX8_putAside_18 : decode cX8_putAside 18 = .ok (.iaload, 1) := by decide +kernel
theorem dX8_putAside_19 : decode cX8_putAside 19 = .ok (.iastore, 1) := by decide +kernel
theorem dX8_putAside_20 : decode cX8_putAside 20 = .ok (.iinc 1 1, 3) := by decide +kernel
theorem dX8_putAside_23 : decode cX8_putAside 23 = .ok (.goto (-21), 3) := by decide +kernel
theorem dX8_putAside_26 : decode cX8_putAside 26 = .ok (.return_, 1) := by decide +kernel
theorem dX8_takeBack_0 : decode cX8_takeBack 0 = .ok (.iconst 0, 1) := by decide +kernel
theorem dX8_takeBack_1 : decode cX8_takeBack 1 = .ok (.istore_n 1, 1) := by decide +kernel
theorem dX8_takeBack_2 : decode cX8_takeBack 2 = .ok (.iload_n 1, 1) := by decide +kernel
theorem dX8_takeBack_3 : decode cX8_takeBack 3 = .ok (.bipush 50, 2) := by decide +kernel
theorem dX8_takeBack_5 : decode cX8_takeBack 5 = .ok (.if_icmp .ge 21, 3) := by decide +kernel
theorem dX8_takeBack_8 : decode cX8_takeBack 8 = .ok (.aload_n 0, 1) := by decide +kernel
theorem dX8_takeBack_9 : decode cX8_takeBack 9 = .ok (.getfield 16, 3) := by decide +kernel
theorem dX8_takeBack_12 : decode cX8_takeBack 12 = .ok (.iload_n 1, 1) := by decide +kernel
theorem dX8_takeBack_13 : decode cX8_takeBack 13 = .ok (.aload_n 0, 1) := by decide +kernel
theorem dX8_takeBack_14 : decode cX8_takeBack 14 = .ok (.getfield 34, 3) := by decide +kernel
theorem dX8_takeBack_17 : decode cX8_takeBack 17 = .ok (.iload_n 1, 1) := by decide +kernel
theorem dX8_takeBack_18 : decode cX8_takeBack 18 = .ok (.iaload, 1) := by decide +kernel
theorem dX8_takeBack_19 : decode cX8_takeBack 19 = .ok (.iastore, 1) := by decide +kernel
theorem dX8_takeBack_20 : decode cX8_takeBack 20 = .ok (.iinc 1 1, 3) := by decide +kernel
theorem dX8_takeBack_23 : decode cX8_takeBack 23 = .ok (.goto (-21), 3) := by decide +kernel
theorem dX8_takeBack_26 : decode cX8_takeBack 26 = .ok (.return_, 1) := by decide +kernel
theorem dX8_runRow_0 : decode cX8_runRow 0 = .ok (.aload_n 0, 1) := by decide +kernel
theorem dX8_runRow_1 : decode cX8_runRow 1 = .ok (.getfield 16, 3) := by decide +kernel
theorem dX8_runRow_4 : decode cX8_runRow 4 = .ok (.bipush 42, 2) := by decide +kernel
theorem dX8_runRow_6 : decode cX8_runRow 6 = .ok (.iaload, 1) := by decide +kernel
theorem dX8_runRow_7 : decode cX8_runRow 7 = .ok (.istore_n 3, 1) := by decide +kernel
theorem dX8_runRow_8 : decode cX8_runRow 8 = .ok (.iconst 0, 1) := by decide +kernel
theorem dX8_runRow_9 : decode cX8_runRow 9 = .ok (.istore 4, 2) := by decide +kernel
theorem dX8_runRow_11 : decode cX8_runRow 11 = .ok (.iload 4, 2) := by decide +kernel
theorem dX8_runRow_13 : decode cX8_runRow 13 = .ok (.aload_n 0, 1) := by decide +kernel
theorem dX8_runRow_14 : decode cX8_runRow 14 = .ok (.getfield 71, 3) := by decide +kernel
theorem dX8_runRow_17 : decode cX8_runRow 17 = .ok (.if_icmp .ge 40, 3) := by decide +kernel
theorem dX8_runRow_20 : decode cX8_runRow 20 = .ok (.aload_n 0, 1) := by decide +kernel
theorem dX8_runRow_21 : decode cX8_runRow 21 = .ok (.getfield 40, 3) := by decide +kernel
theorem dX8_runRow_24 : decode cX8_runRow 24 = .ok (.iload 4, 2) := by decide +kernel
theorem dX8_runRow_26 : decode cX8_runRow 26 = .ok (.aload_n 0, 1) := by decide +kernel
theorem dX8_runRow_27 : decode cX8_runRow 27 = .ok (.iload_n 1, 1) := by decide +kernel
theorem dX8_runRow_28 : decode cX8_runRow 28 = .ok (.iload_n 2, 1) := by decide +kernel
theorem dX8_runRow_29 : decode cX8_runRow 29 = .ok (.aload_n 0, 1) := by decide +kernel
theorem dX8_runRow_30 : decode cX8_runRow 30 = .ok (.getfield 13, 3) := by decide +kernel
theorem dX8_runRow_33 : decode cX8_runRow 33 = .ok (.iload 4, 2) := by decide +kernel
theorem dX8_runRow_35 : decode cX8_runRow 35 = .ok (.iaload, 1) := by decide +kernel
theorem dX8_runRow_36 : decode cX8_runRow 36 = .ok (.invokevirtual 185, 3) := by decide +kernel
theorem dX8_runRow_39 : decode cX8_runRow 39 = .ok (.iastore, 1) := by decide +kernel
theorem dX8_runRow_40 : decode cX8_runRow 40 = .ok (.aload_n 0, 1) := by decide +kernel
theorem dX8_runRow_41 : decode cX8_runRow 41 = .ok (.getfield 37, 3) := by decide +kernel
theorem dX8_runRow_44 : decode cX8_runRow 44 = .ok (.iload 4, 2) := by decide +kernel
theorem dX8_runRow_46 : decode cX8_runRow 46 = .ok (.aload_n 0, 1) := by decide +kernel
theorem dX8_runRow_47 : decode cX8_runRow 47 = .ok (.getfield 170, 3) := by decide +kernel
theorem dX8_runRow_50 : decode cX8_runRow 50 = .ok (.iastore, 1) := by decide +kernel
theorem dX8_runRow_51 : decode cX8_runRow 51 = .ok (.iinc 4 1, 3) := by decide +kernel
theorem dX8_runRow_54 : decode cX8_runRow 54 = .ok (.goto (-43), 3) := by decide +kernel
theorem dX8_runRow_57 : decode cX8_runRow 57 = .ok (.aload_n 0, 1) := by decide +kernel
theorem dX8_runRow_58 : decode cX8_runRow 58 = .ok (.getfield 16, 3) := by decide +kernel
theorem dX8_runRow_61 : decode cX8_runRow 61 = .ok (.bipush 42, 2) := by decide +kernel
theorem dX8_runRow_63 : decode cX8_runRow 63 = .ok (.iaload, 1) := by decide +kernel
theorem dX8_runRow_64 : decode cX8_runRow 64 = .ok (.iload_n 3, 1) := by decide +kernel
theorem dX8_runRow_65 : decode cX8_runRow 65 = .ok (.isub, 1) := by decide +kernel
theorem dX8_runRow_66 : decode cX8_runRow 66 = .ok (.ireturn, 1) := by decide +kernel
theorem dX8_tryRow_0 : decode cX8_tryRow 0 = .ok (.aload_n 0, 1) := by decide +kernel
theorem dX8_tryRow_1 : decode cX8_tryRow 1 = .ok (.invokevirtual 188, 3) := by decide +kernel
theorem dX8_tryRow_4 : decode cX8_tryRow 4 = .ok (.aload_n 0, 1) := by decide +kernel
theorem dX8_tryRow_5 : decode cX8_tryRow 5 = .ok (.iload_n 1, 1) := by decide +kernel
theorem dX8_tryRow_6 : decode cX8_tryRow 6 = .ok (.aload_n 0, 1) := by decide +kernel
theorem dX8_tryRow_7 : decode cX8_tryRow 7 = .ok (.getfield 139, 3) := by decide +kernel
theorem dX8_tryRow_10 : decode cX8_tryRow 10 = .ok (.invokevirtual 191, 3) := by decide +kernel
theorem dX8_tryRow_13 : decode cX8_tryRow 13 = .ok (.istore_n 2, 1) := by decide +kernel
theorem dX8_tryRow_14 : decode cX8_tryRow 14 = .ok (.aload_n 0, 1) := by decide +kernel
theorem dX8_tryRow_15 : decode cX8_tryRow 15 = .ok (.invokevirtual 194, 3) := by decide +kernel
theorem dX8_tryRow_18 : decode cX8_tryRow 18 = .ok (.iload_n 2, 1) := by decide +kernel
theorem dX8_tryRow_19 : decode cX8_tryRow 19 = .ok (.ireturn, 1) := by decide +kernel
theorem dX8_run_0 : decode cX8_run 0 = .ok (.iload_n 1, 1) := by decide +kernel
theorem dX8_run_1 : decode cX8_run 1 = .ok (.i2l, 1) := by decide +kernel
theorem dX8_run_2 : decode cX8_run 2 = .ok (.lconst 0, 1) := by decide +kernel
theorem dX8_run_3 : decode cX8_run 3 = .ok (.ldc2_w 180, 3) := by decide +kernel
theorem dX8_run_6 : decode cX8_run 6 = .ok (.invokestatic 78, 3) := by decide +kernel
theorem dX8_run_9 : decode cX8_run 9 = .ok (.ifCond .eq 31, 3) := by decide +kernel
theorem dX8_run_12 : decode cX8_run 12 = .ok (.iload_n 2, 1) := by decide +kernel
theorem dX8_run_13 : decode cX8_run 13 = .ok (.i2l, 1) := by decide +kernel
theorem dX8_run_14 : decode cX8_run 14 = .ok (.ldc2_w 197, 3) := by decide +kernel
theorem dX8_run_17 : decode cX8_run 17 = .ok (.aload_n 0, 1) := by decide +kernel
theorem dX8_run_18 : decode cX8_run 18 = .ok (.getfield 71, 3) := by decide +kernel
theorem dX8_run_21 : decode cX8_run 21 = .ok (.iconst 1, 1) := by decide +kernel
theorem dX8_run_22 : decode cX8_run 22 = .ok (.isub, 1) := by decide +kernel
theorem dX8_run_23 : decode cX8_run 23 = .ok (.i2l, 1) := by decide +kernel
theorem dX8_run_24 : decode cX8_run 24 = .ok (.invokestatic 78, 3) := by decide +kernel
theorem dX8_run_27 : decode cX8_run 27 = .ok (.ifCond .eq 13, 3) := by decide +kernel
theorem dX8_run_30 : decode cX8_run 30 = .ok (.iload_n 3, 1) := by decide +kernel
theorem dX8_run_31 : decode cX8_run 31 = .ok (.i2l, 1) := by decide +kernel
theorem dX8_run_32 : decode cX8_run 32 = .ok (.lconst 0, 1) := by decide +kernel
theorem dX8_run_33 : decode cX8_run 33 = .ok (.lconst 1, 1) := by decide +kernel
theorem dX8_run_34 : decode cX8_run 34 = .ok (.invokestatic 78, 3) := by decide +kernel
theorem dX8_run_37 : decode cX8_run 37 = .ok (.ifCond .ne 5, 3) := by decide +kernel
theorem dX8_run_40 : decode cX8_run 40 = .ok (.iconst (-1), 1) := by decide +kernel
theorem dX8_run_41 : decode cX8_run 41 = .ok (.ireturn, 1) := by decide +kernel
theorem dX8_run_42 : decode cX8_run 42 = .ok (.aload_n 0, 1) := by decide +kernel
theorem dX8_run_43 : decode cX8_run 43 = .ok (.iload_n 1, 1) := by decide +kernel
theorem dX8_run_44 : decode cX8_run 44 = .ok (.invokevirtual 199, 3) := by decide +kernel
theorem dX8_run_47 : decode cX8_run 47 = .ok (.istore 4, 2) := by decide +kernel
theorem dX8_run_49 : decode cX8_run 49 = .ok (.iload_n 2, 1) := by decide +kernel
theorem dX8_run_50 : decode cX8_run 50 = .ok (.ifCond .lt 23, 3) := by decide +kernel
theorem dX8_run_53 : decode cX8_run 53 = .ok (.iload_n 3, 1) := by decide +kernel
theorem dX8_run_54 : decode cX8_run 54 = .ok (.ifCond .ne 12, 3) := by decide +kernel
theorem dX8_run_57 : decode cX8_run 57 = .ok (.aload_n 0, 1) := by decide +kernel
theorem dX8_run_58 : decode cX8_run 58 = .ok (.getfield 37, 3) := by decide +kernel
theorem dX8_run_61 : decode cX8_run 61 = .ok (.iload_n 2, 1) := by decide +kernel
theorem dX8_run_62 : decode cX8_run 62 = .ok (.iaload, 1) := by decide +kernel
theorem dX8_run_63 : decode cX8_run 63 = .ok (.goto 9, 3) := by decide +kernel
theorem dX8_run_66 : decode cX8_run 66 = .ok (.aload_n 0, 1) := by decide +kernel
theorem dX8_run_67 : decode cX8_run 67 = .ok (.getfield 40, 3) := by decide +kernel
theorem dX8_run_70 : decode cX8_run 70 = .ok (.iload_n 2, 1) := by decide +kernel
theorem dX8_run_71 : decode cX8_run 71 = .ok (.iaload, 1) := by decide +kernel
theorem dX8_run_72 : decode cX8_run 72 = .ok (.ireturn, 1) := by decide +kernel
theorem dX8_run_73 : decode cX8_run 73 = .ok (.bipush (-4), 2) := by decide +kernel
theorem dX8_run_75 : decode cX8_run 75 = .ok (.istore 5, 2) := by decide +kernel
theorem dX8_run_77 : decode cX8_run 77 = .ok (.aload_n 0, 1) := by decide +kernel
theorem dX8_run_78 : decode cX8_run 78 = .ok (.getfield 71, 3) := by decide +kernel
theorem dX8_run_81 : decode cX8_run 81 = .ok (.iconst 1, 1) := by decide +kernel
theorem dX8_run_82 : decode cX8_run 82 = .ok (.isub, 1) := by decide +kernel
theorem dX8_run_83 : decode cX8_run 83 = .ok (.istore 6, 2) := by decide +kernel
theorem dX8_run_85 : decode cX8_run 85 = .ok (.iload 6, 2) := by decide +kernel
theorem dX8_run_87 : decode cX8_run 87 = .ok (.ifCond .lt 28, 3) := by decide +kernel
theorem dX8_run_90 : decode cX8_run 90 = .ok (.aload_n 0, 1) := by decide +kernel
theorem dX8_run_91 : decode cX8_run 91 = .ok (.getfield 40, 3) := by decide +kernel
theorem dX8_run_94 : decode cX8_run 94 = .ok (.iload 6, 2) := by decide +kernel
theorem dX8_run_96 : decode cX8_run 96 = .ok (.iaload, 1) := by decide +kernel
theorem dX8_run_97 : decode cX8_run 97 = .ok (.ifCond .ne 8, 3) := by decide +kernel
theorem dX8_run_100 : decode cX8_run 100 = .ok (.iload 6, 2) := by decide +kernel
theorem dX8_run_102 : decode cX8_run 102 = .ok (.goto 5, 3) := by decide +kernel
theorem dX8_run_105 : decode cX8_run 105 = .ok (.iload 5, 2) := by decide +kernel
theorem dX8_run_107 : decode cX8_run 107 = .ok (.istore 5, 2) := by decide +kernel
theorem dX8_run_109 : decode cX8_run 109 = .ok (.iinc 6 (-1), 3) := by decide +kernel
theorem dX8_run_112 : decode cX8_run 112 = .ok (.goto (-27), 3) := by decide +kernel
theorem dX8_run_115 : decode cX8_run 115 = .ok (.iload_n 3, 1) := by decide +kernel
theorem dX8_run_116 : decode cX8_run 116 = .ok (.ifCond .ne 8, 3) := by decide +kernel
theorem dX8_run_119 : decode cX8_run 119 = .ok (.iload 4, 2) := by decide +kernel
theorem dX8_run_121 : decode cX8_run 121 = .ok (.goto 5, 3) := by decide +kernel
theorem dX8_run_124 : decode cX8_run 124 = .ok (.iload 5, 2) := by decide +kernel
theorem dX8_run_126 : decode cX8_run 126 = .ok (.ireturn, 1) := by decide +kernel
theorem dX8_isRound_0 : decode cX8_isRound 0 = .ok (.iconst 1, 1) := by decide +kernel
theorem dX8_isRound_1 : decode cX8_isRound 1 = .ok (.istore_n 2, 1) := by decide +kernel
theorem dX8_isRound_2 : decode cX8_isRound 2 = .ok (.iconst 0, 1) := by decide +kernel
theorem dX8_isRound_3 : decode cX8_isRound 3 = .ok (.istore_n 3, 1) := by decide +kernel
theorem dX8_isRound_4 : decode cX8_isRound 4 = .ok (.iload_n 3, 1) := by decide +kernel
theorem dX8_isRound_5 : decode cX8_isRound 5 = .ok (.iload_n 1, 1) := by decide +kernel
theorem dX8_isRound_6 : decode cX8_isRound 6 = .ok (.aload_n 0, 1) := by decide +kernel
theorem dX8_isRound_7 : decode cX8_isRound 7 = .ok (.getfield 71, 3) := by decide +kernel
theorem dX8_isRound_10 : decode cX8_isRound 10 = .ok (.imul, 1) := by decide +kernel
theorem dX8_isRound_11 : decode cX8_isRound 11 = .ok (.if_icmp .ge 80, 3) := by decide +kernel
theorem dX8_isRound_14 : decode cX8_isRound 14 = .ok (.bipush 20, 2) := by decide +kernel
theorem dX8_isRound_16 : decode cX8_isRound 16 = .ok (.aload_n 0, 1) := by decide +kernel
theorem dX8_isRound_17 : decode cX8_isRound 17 = .ok (.getfield 71, 3) := by decide +kernel
theorem dX8_isRound_20 : decode cX8_isRound 20 = .ok (.imul, 1) := by decide +kernel
theorem dX8_isRound_21 : decode cX8_isRound 21 = .ok (.iload_n 3, 1) := by decide +kernel
theorem dX8_isRound_22 : decode cX8_isRound 22 = .ok (.iadd, 1) := by decide +kernel
theorem dX8_isRound_23 : decode cX8_isRound 23 = .ok (.istore 4, 2) := by decide +kernel
theorem dX8_isRound_25 : decode cX8_isRound 25 = .ok (.iload_n 2, 1) := by decide +kernel
theorem dX8_isRound_26 : decode cX8_isRound 26 = .ok (.ifCond .eq 57, 3) := by decide +kernel
theorem dX8_isRound_29 : decode cX8_isRound 29 = .ok (.aload_n 0, 1) := by decide +kernel
theorem dX8_isRound_30 : decode cX8_isRound 30 = .ok (.getfield 43, 3) := by decide +kernel
theorem dX8_isRound_33 : decode cX8_isRound 33 = .ok (.iload 4, 2) := by decide +kernel
theorem dX8_isRound_35 : decode cX8_isRound 35 = .ok (.iaload, 1) := by decide +kernel
theorem dX8_isRound_36 : decode cX8_isRound 36 = .ok (.aload_n 0, 1) := by decide +kernel
theorem dX8_isRound_37 : decode cX8_isRound 37 = .ok (.getfield 43, 3) := by decide +kernel
theorem dX8_isRound_40 : decode cX8_isRound 40 = .ok (.iload 4, 2) := by decide +kernel
theorem dX8_isRound_42 : decode cX8_isRound 42 = .ok (.iload_n 1, 1) := by decide +kernel
theorem dX8_isRound_43 : decode cX8_isRound 43 = .ok (.aload_n 0, 1) := by decide +kernel
theorem dX8_isRound_44 : decode cX8_isRound 44 = .ok (.getfield 71, 3) := by decide +kernel
theorem dX8_isRound_47 : decode cX8_isRound 47 = .ok (.imul, 1) := by decide +kernel
theorem dX8_isRound_48 : decode cX8_isRound 48 = .ok (.iadd, 1) := by decide +kernel
theorem dX8_isRound_49 : decode cX8_isRound 49 = .ok (.iaload, 1) := by decide +kernel
theorem dX8_isRound_50 : decode cX8_isRound 50 = .ok (.if_icmp .ne 33, 3) := by decide +kernel
theorem dX8_isRound_53 : decode cX8_isRound 53 = .ok (.aload_n 0, 1) := by decide +kernel
theorem dX8_isRound_54 : decode cX8_isRound 54 = .ok (.getfield 43, 3) := by decide +kernel
theorem dX8_isRound_57 : decode cX8_isRound 57 = .ok (.iload 4, 2) := by decide +kernel
theorem dX8_isRound_59 : decode cX8_isRound 59 = .ok (.iaload, 1) := by decide +kernel
theorem dX8_isRound_60 : decode cX8_isRound 60 = .ok (.aload_n 0, 1) := by decide +kernel
theorem dX8_isRound_61 : decode cX8_isRound 61 = .ok (.getfield 43, 3) := by decide +kernel
theorem dX8_isRound_64 : decode cX8_isRound 64 = .ok (.iload 4, 2) := by decide +kernel
theorem dX8_isRound_66 : decode cX8_isRound 66 = .ok (.iconst 2, 1) := by decide +kernel
theorem dX8_isRound_67 : decode cX8_isRound 67 = .ok (.iload_n 1, 1) := by decide +kernel
theorem dX8_isRound_68 : decode cX8_isRound 68 = .ok (.imul, 1) := by decide +kernel
theorem dX8_isRound_69 : decode cX8_isRound 69 = .ok (.aload_n 0, 1) := by decide +kernel
theorem dX8_isRound_70 : decode cX8_isRound 70 = .ok (.getfield 71, 3) := by decide +kernel
theorem dX8_isRound_73 : decode cX8_isRound 73 = .ok (.imul, 1) := by decide +kernel
theorem dX8_isRound_74 : decode cX8_isRound 74 = .ok (.iadd, 1) := by decide +kernel
theorem dX8_isRound_75 : decode cX8_isRound 75 = .ok (.iaload, 1) := by decide +kernel
theorem dX8_isRound_76 : decode cX8_isRound 76 = .ok (.if_icmp .ne 7, 3) := by decide +kernel
theorem dX8_isRound_79 : decode cX8_isRound 79 = .ok (.iconst 1, 1) := by decide +kernel
theorem dX8_isRound_80 : decode cX8_isRound 80 = .ok (.goto 4, 3) := by decide +kernel
theorem dX8_isRound_83 : decode cX8_isRound 83 = .ok (.iconst 0, 1) := by decide +kernel
theorem dX8_isRound_84 : decode cX8_isRound 84 = .ok (.istore_n 2, 1) := by decide +kernel
theorem dX8_isRound_85 : decode cX8_isRound 85 = .ok (.iinc 3 1, 3) := by decide +kernel
theorem dX8_isRound_88 : decode cX8_isRound 88 = .ok (.goto (-84), 3) := by decide +kernel
theorem dX8_isRound_91 : decode cX8_isRound 91 = .ok (.iload_n 2, 1) := by decide +kernel
theorem dX8_isRound_92 : decode cX8_isRound 92 = .ok (.ireturn, 1) := by decide +kernel
theorem dX8_round_0 : decode cX8_round 0 = .ok (.aload_n 0, 1) := by decide +kernel
theorem dX8_round_1 : decode cX8_round 1 = .ok (.getfield 71, 3) := by decide +kernel
theorem dX8_round_4 : decode cX8_round 4 = .ok (.ifCond .ne 6, 3) := by decide +kernel
theorem dX8_round_7 : decode cX8_round 7 = .ok (.bipush (-4), 2) := by decide +kernel
theorem dX8_round_9 : decode cX8_round 9 = .ok (.ireturn, 1) := by decide +kernel
theorem dX8_round_10 : decode cX8_round 10 = .ok (.aload_n 0, 1) := by decide +kernel
theorem dX8_round_11 : decode cX8_round 11 = .ok (.invokevirtual 188, 3) := by decide +kernel
theorem dX8_round_14 : decode cX8_round 14 = .ok (.iconst 0, 1) := by decide +kernel
theorem dX8_round_15 : decode cX8_round 15 = .ok (.istore_n 1, 1) := by decide +kernel
theorem dX8_round_16 : decode cX8_round 16 = .ok (.iload_n 1, 1) := by decide +kernel
theorem dX8_round_17 : decode cX8_round 17 = .ok (.bipush 80, 2) := by decide +kernel
theorem dX8_round_19 : decode cX8_round 19 = .ok (.if_icmp .ge 57, 3) := by decide +kernel
theorem dX8_round_22 : decode cX8_round 22 = .ok (.aload_n 0, 1) := by decide +kernel
theorem dX8_round_23 : decode cX8_round 23 = .ok (.aload_n 0, 1) := by decide +kernel
theorem dX8_round_24 : decode cX8_round 24 = .ok (.getfield 136, 3) := by decide +kernel
theorem dX8_round_27 : decode cX8_round 27 = .ok (.aload_n 0, 1) := by decide +kernel
theorem dX8_round_28 : decode cX8_round 28 = .ok (.getfield 139, 3) := by decide +kernel
theorem dX8_round_31 : decode cX8_round 31 = .ok (.invokevirtual 191, 3) := by decide +kernel
theorem dX8_round_34 : decode cX8_round 34 = .ok (.pop, 1) := by decide +kernel
theorem dX8_round_35 : decode cX8_round 35 = .ok (.iconst 0, 1) := by decide +kernel
theorem dX8_round_36 : decode cX8_round 36 = .ok (.istore_n 2, 1) := by decide +kernel
theorem dX8_round_37 : decode cX8_round 37 = .ok (.iload_n 2, 1) := by decide +kernel
theorem dX8_round_38 : decode cX8_round 38 = .ok (.aload_n 0, 1) := by decide +kernel
theorem dX8_round_39 : decode cX8_round 39 = .ok (.getfield 71, 3) := by decide +kernel
theorem dX8_round_42 : decode cX8_round 42 = .ok (.if_icmp .ge 28, 3) := by decide +kernel
theorem dX8_round_45 : decode cX8_round 45 = .ok (.aload_n 0, 1) := by decide +kernel
theorem dX8_round_46 : decode cX8_round 46 = .ok (.getfield 43, 3) := by decide +kernel
theorem dX8_round_49 : decode cX8_round 49 = .ok (.iload_n 1, 1) := by decide +kernel
theorem dX8_round_50 : decode cX8_round 50 = .ok (.aload_n 0, 1) := by decide +kernel
theorem dX8_round_51 : decode cX8_round 51 = .ok (.getfield 71, 3) := by decide +kernel
theorem dX8_round_54 : decode cX8_round 54 = .ok (.imul, 1) := by decide +kernel
theorem dX8_round_55 : decode cX8_round 55 = .ok (.iload_n 2, 1) := by decide +kernel
theorem dX8_round_56 : decode cX8_round 56 = .ok (.iadd, 1) := by decide +kernel
theorem dX8_round_57 : decode cX8_round 57 = .ok (.aload_n 0, 1) := by decide +kernel
theorem dX8_round_58 : decode cX8_round 58 = .ok (.getfield 37, 3) := by decide +kernel
theorem dX8_round_61 : decode cX8_round 61 = .ok (.iload_n 2, 1) := by decide +kernel
theorem dX8_round_62 : decode cX8_round 62 = .ok (.iaload, 1) := by decide +kernel
theorem dX8_round_63 : decode cX8_round 63 = .ok (.iastore, 1) := by decide +kernel
theorem dX8_round_64 : decode cX8_round 64 = .ok (.iinc 2 1, 3) := by decide +kernel
theorem dX8_round_67 : decode cX8_round 67 = .ok (.goto (-30), 3) := by decide +kernel
theorem dX8_round_70 : decode cX8_round 70 = .ok (.iinc 1 1, 3) := by decide +kernel
theorem dX8_round_73 : decode cX8_round 73 = .ok (.goto (-57), 3) := by decide +kernel
theorem dX8_round_76 : decode cX8_round 76 = .ok (.aload_n 0, 1) := by decide +kernel
theorem dX8_round_77 : decode cX8_round 77 = .ok (.invokevirtual 194, 3) := by decide +kernel
theorem dX8_round_80 : decode cX8_round 80 = .ok (.iconst 1, 1) := by decide +kernel
theorem dX8_round_81 : decode cX8_round 81 = .ok (.istore_n 1, 1) := by decide +kernel
theorem dX8_round_82 : decode cX8_round 82 = .ok (.iload_n 1, 1) := by decide +kernel
theorem dX8_round_83 : decode cX8_round 83 = .ok (.bipush 20, 2) := by decide +kernel
theorem dX8_round_85 : decode cX8_round 85 = .ok (.if_icmp .gt 19, 3) := by decide +kernel
theorem dX8_round_88 : decode cX8_round 88 = .ok (.aload_n 0, 1) := by decide +kernel
theorem dX8_round_89 : decode cX8_round 89 = .ok (.iload_n 1, 1) := by decide +kernel
theorem dX8_round_90 : decode cX8_round 90 = .ok (.invokevirtual 202, 3) := by decide +kernel
theorem dX8_round_93 : decode cX8_round 93 = .ok (.ifCond .eq 5, 3) := by decide +kernel
theorem dX8_round_96 : decode cX8_round 96 = .ok (.iload_n 1, 1) := by decide +kernel
theorem dX8_round_97 : decode cX8_round 97 = .ok (.ireturn, 1) := by decide +kernel
theorem dX8_round_98 : decode cX8_round 98 = .ok (.iinc 1 1, 3) := by decide +kernel
theorem dX8_round_101 : decode cX8_round 101 = .ok (.goto (-19), 3) := by decide +kernel
theorem dX8_round_104 : decode cX8_round 104 = .ok (.bipush (-4), 2) := by decide +kernel
theorem dX8_round_106 : decode cX8_round 106 = .ok (.ireturn, 1) := by decide +kernel
theorem dX8_nextRow_0 : decode cX8_nextRow 0 = .ok (.aload_n 0, 1) := by decide +kernel
theorem dX8_nextRow_1 : decode cX8_nextRow 1 = .ok (.getfield 71, 3) := by decide +kernel
theorem dX8_nextRow_4 : decode cX8_nextRow 4 = .ok (.iconst 2, 1) := by decide +kernel
theorem dX8_nextRow_5 : decode cX8_nextRow 5 = .ok (.isub, 1) := by decide +kernel
theorem dX8_nextRow_6 : decode cX8_nextRow 6 = .ok (.istore_n 1, 1) := by decide +kernel
theorem dX8_nextRow_7 : decode cX8_nextRow 7 = .ok (.iload_n 1, 1) := by decide +kernel
theorem dX8_nextRow_8 : decode cX8_nextRow 8 = .ok (.ifCond .lt 26, 3) := by decide +kernel
theorem dX8_nextRow_11 : decode cX8_nextRow 11 = .ok (.aload_n 0, 1) := by decide +kernel
theorem dX8_nextRow_12 : decode cX8_nextRow 12 = .ok (.getfield 13, 3) := by decide +kernel
theorem dX8_nextRow_15 : decode cX8_nextRow 15 = .ok (.iload_n 1, 1) := by decide +kernel
theorem dX8_nextRow_16 : decode cX8_nextRow 16 = .ok (.iaload, 1) := by decide +kernel
theorem dX8_nextRow_17 : decode cX8_nextRow 17 = .ok (.aload_n 0, 1) := by decide +kernel
theorem dX8_nextRow_18 : decode cX8_nextRow 18 = .ok (.getfield 13, 3) := by decide +kernel
theorem dX8_nextRow_21 : decode cX8_nextRow 21 = .ok (.iload_n 1, 1) := by decide +kernel
theorem dX8_nextRow_22 : decode cX8_nextRow 22 = .ok (.iconst 1, 1) := by decide +kernel
theorem dX8_nextRow_23 : decode cX8_nextRow 23 = .ok (.iadd, 1) := by decide +kernel
theorem dX8_nextRow_24 : decode cX8_nextRow 24 = .ok (.iaload, 1) := by decide +kernel
theorem dX8_nextRow_25 : decode cX8_nextRow 25 = .ok (.if_icmp .lt 9, 3) := by decide +kernel
theorem dX8_nextRow_28 : decode cX8_nextRow 28 = .ok (.iinc 1 (-1), 3) := by decide +kernel
theorem dX8_nextRow_31 : decode cX8_nextRow 31 = .ok (.goto (-24), 3) := by decide +kernel
theorem dX8_nextRow_34 : decode cX8_nextRow 34 = .ok (.iload_n 1, 1) := by decide +kernel
theorem dX8_nextRow_35 : decode cX8_nextRow 35 = .ok (.ifCond .ge 5, 3) := by decide +kernel
theorem dX8_nextRow_38 : decode cX8_nextRow 38 = .ok (.iconst 0, 1) := by decide +kernel
theorem dX8_nextRow_39 : decode cX8_nextRow 39 = .ok (.ireturn, 1) := by decide +kernel
theorem dX8_nextRow_40 : decode cX8_nextRow 40 = .ok (.aload_n 0, 1) := by decide +kernel
theorem dX8_nextRow_41 : decode cX8_nextRow 41 = .ok (.getfield 71, 3) := by decide +kernel
theorem dX8_nextRow_44 : decode cX8_nextRow 44 = .ok (.iconst 1, 1) := by decide +kernel
theorem dX8_nextRow_45 : decode cX8_nextRow 45 = .ok (.isub, 1) := by decide +kernel
theorem dX8_nextRow_46 : decode cX8_nextRow 46 = .ok (.istore_n 2, 1) := by decide +kernel
theorem dX8_nextRow_47 : decode cX8_nextRow 47 = .ok (.aload_n 0, 1) := by decide +kernel
theorem dX8_nextRow_48 : decode cX8_nextRow 48 = .ok (.getfield 13, 3) := by decide +kernel
theorem dX8_nextRow_51 : decode cX8_nextRow 51 = .ok (.iload_n 2, 1) := by decide +kernel
theorem dX8_nextRow_52 : decode cX8_nextRow 52 = .ok (.iaload, 1) := by decide +kernel
theorem dX8_nextRow_53 : decode cX8_nextRow 53 = .ok (.aload_n 0, 1) := by decide +kernel
theorem dX8_nextRow_54 : decode cX8_nextRow 54 = .ok (.getfield 13, 3) := by decide +kernel
theorem dX8_nextRow_57 : decode cX8_nextRow 57 = .ok (.iload_n 1, 1) := by decide +kernel
theorem dX8_nextRow_58 : decode cX8_nextRow 58 = .ok (.iaload, 1) := by decide +kernel
theorem dX8_nextRow_59 : decode cX8_nextRow 59 = .ok (.if_icmp .gt 9, 3) := by decide +kernel
theorem dX8_nextRow_62 : decode cX8_nextRow 62 = .ok (.iinc 2 (-1), 3) := by decide +kernel
theorem dX8_nextRow_65 : decode cX8_nextRow 65 = .ok (.goto (-18), 3) := by decide +kernel
theorem dX8_nextRow_68 : decode cX8_nextRow 68 = .ok (.aload_n 0, 1) := by decide +kernel
theorem dX8_nextRow_69 : decode cX8_nextRow 69 = .ok (.iload_n 1, 1) := by decide +kernel
theorem dX8_nextRow_70 : decode cX8_nextRow 70 = .ok (.iload_n 2, 1) := by decide +kernel
theorem dX8_nextRow_71 : decode cX8_nextRow 71 = .ok (.invokevirtual 205, 3) := by decide +kernel
theorem dX8_nextRow_74 : decode cX8_nextRow 74 = .ok (.aload_n 0, 1) := by decide +kernel
theorem dX8_nextRow_75 : decode cX8_nextRow 75 = .ok (.getfield 71, 3) := by decide +kernel
theorem dX8_nextRow_78 : decode cX8_nextRow 78 = .ok (.iconst 1, 1) := by decide +kernel
theorem dX8_nextRow_79 : decode cX8_nextRow 79 = .ok (.isub, 1) := by decide +kernel
theorem dX8_nextRow_80 : decode cX8_nextRow 80 = .ok (.istore_n 3, 1) := by decide +kernel
theorem dX8_nextRow_81 : decode cX8_nextRow 81 = .ok (.iload_n 1, 1) := by decide +kernel
theorem dX8_nextRow_82 : decode cX8_nextRow 82 = .ok (.iconst 1, 1) := by decide +kernel
theorem dX8_nextRow_83 : decode cX8_nextRow 83 = .ok (.iadd, 1) := by decide +kernel
theorem dX8_nextRow_84 : decode cX8_nextRow 84 = .ok (.istore 4, 2) := by decide +kernel
theorem dX8_nextRow_86 : decode cX8_nextRow 86 = .ok (.iload 4, 2) := by decide +kernel
theorem dX8_nextRow_88 : decode cX8_nextRow 88 = .ok (.iload_n 3, 1) := by decide +kernel
theorem dX8_nextRow_89 : decode cX8_nextRow 89 = .ok (.if_icmp .ge 19, 3) := by decide +kernel
theorem dX8_nextRow_92 : decode cX8_nextRow 92 = .ok (.aload_n 0, 1) := by decide +kernel
theorem dX8_nextRow_93 : decode cX8_nextRow 93 = .ok (.iload 4, 2) := by decide +kernel
theorem dX8_nextRow_95 : decode cX8_nextRow 95 = .ok (.iload_n 3, 1) := by decide +kernel
theorem dX8_nextRow_96 : decode cX8_nextRow 96 = .ok (.invokevirtual 205, 3) := by decide +kernel
theorem dX8_nextRow_99 : decode cX8_nextRow 99 = .ok (.iinc 3 (-1), 3) := by decide +kernel
theorem dX8_nextRow_102 : decode cX8_nextRow 102 = .ok (.iinc 4 1, 3) := by decide +kernel
theorem dX8_nextRow_105 : decode cX8_nextRow 105 = .ok (.goto (-19), 3) := by decide +kernel
theorem dX8_nextRow_108 : decode cX8_nextRow 108 = .ok (.iconst 1, 1) := by decide +kernel
theorem dX8_nextRow_109 : decode cX8_nextRow 109 = .ok (.ireturn, 1) := by decide +kernel
theorem dX8_exchange_0 : decode cX8_exchange 0 = .ok (.aload_n 0, 1) := by decide +kernel
theorem dX8_exchange_1 : decode cX8_exchange 1 = .ok (.getfield 13, 3) := by decide +kernel
theorem dX8_exchange_4 : decode cX8_exchange 4 = .ok (.iload_n 1, 1) := by decide +kernel
theorem dX8_exchange_5 : decode cX8_exchange 5 = .ok (.iaload, 1) := by decide +kernel
theorem dX8_exchange_6 : decode cX8_exchange 6 = .ok (.istore_n 3, 1) := by decide +kernel
theorem dX8_exchange_7 : decode cX8_exchange 7 = .ok (.aload_n 0, 1) := by decide +kernel
theorem dX8_exchange_8 : decode cX8_exchange 8 = .ok (.getfield 13, 3) := by decide +kernel
theorem dX8_exchange_11 : decode cX8_exchange 11 = .ok (.iload_n 1, 1) := by decide +kernel
theorem dX8_exchange_12 : decode cX8_exchange 12 = .ok (.aload_n 0, 1) := by decide +kernel
theorem dX8_exchange_13 : decode cX8_exchange 13 = .ok (.getfield 13, 3) := by decide +kernel
theorem dX8_exchange_16 : decode cX8_exchange 16 = .ok (.iload_n 2, 1) := by decide +kernel
theorem dX8_exchange_17 : decode cX8_exchange 17 = .ok (.iaload, 1) := by decide +kernel
theorem dX8_exchange_18 : decode cX8_exchange 18 = .ok (.iastore, 1) := by decide +kernel
theorem dX8_exchange_19 : decode cX8_exchange 19 = .ok (.aload_n 0, 1) := by decide +kernel
theorem dX8_exchange_20 : decode cX8_exchange 20 = .ok (.getfield 13, 3) := by decide +kernel
theorem dX8_exchange_23 : decode cX8_exchange 23 = .ok (.iload_n 2, 1) := by decide +kernel
theorem dX8_exchange_24 : decode cX8_exchange 24 = .ok (.iload_n 3, 1) := by decide +kernel
theorem dX8_exchange_25 : decode cX8_exchange 25 = .ok (.iastore, 1) := by decide +kernel
theorem dX8_exchange_26 : decode cX8_exchange 26 = .ok (.return_, 1) := by decide +kernel
theorem dX8_order_0 : decode cX8_order 0 = .ok (.iload_n 1, 1) := by decide +kernel
theorem dX8_order_1 : decode cX8_order 1 = .ok (.i2l, 1) := by decide +kernel
theorem dX8_order_2 : decode cX8_order 2 = .ok (.ldc2_w 197, 3) := by decide +kernel
theorem dX8_order_5 : decode cX8_order 5 = .ok (.aload_n 0, 1) := by decide +kernel
theorem dX8_order_6 : decode cX8_order 6 = .ok (.getfield 71, 3) := by decide +kernel
theorem dX8_order_9 : decode cX8_order 9 = .ok (.iconst 1, 1) := by decide +kernel
theorem dX8_order_10 : decode cX8_order 10 = .ok (.isub, 1) := by decide +kernel
theorem dX8_order_11 : decode cX8_order 11 = .ok (.i2l, 1) := by decide +kernel
theorem dX8_order_12 : decode cX8_order 12 = .ok (.invokestatic 78, 3) := by decide +kernel
theorem dX8_order_15 : decode cX8_order 15 = .ok (.ifCond .ne 5, 3) := by decide +kernel
theorem dX8_order_18 : decode cX8_order 18 = .ok (.iconst (-1), 1) := by decide +kernel
theorem dX8_order_19 : decode cX8_order 19 = .ok (.ireturn, 1) := by decide +kernel
theorem dX8_order_20 : decode cX8_order 20 = .ok (.aload_n 0, 1) := by decide +kernel
theorem dX8_order_21 : decode cX8_order 21 = .ok (.getfield 71, 3) := by decide +kernel
theorem dX8_order_24 : decode cX8_order 24 = .ok (.bipush 7, 2) := by decide +kernel
theorem dX8_order_26 : decode cX8_order 26 = .ok (.if_icmp .le 6, 3) := by decide +kernel
theorem dX8_order_29 : decode cX8_order 29 = .ok (.bipush (-2), 2) := by decide +kernel
theorem dX8_order_31 : decode cX8_order 31 = .ok (.ireturn, 1) := by decide +kernel
theorem dX8_order_32 : decode cX8_order 32 = .ok (.iconst 0, 1) := by decide +kernel
theorem dX8_order_33 : decode cX8_order 33 = .ok (.istore_n 2, 1) := by decide +kernel
theorem dX8_order_34 : decode cX8_order 34 = .ok (.iload_n 2, 1) := by decide +kernel
theorem dX8_order_35 : decode cX8_order 35 = .ok (.aload_n 0, 1) := by decide +kernel
theorem dX8_order_36 : decode cX8_order 36 = .ok (.getfield 71, 3) := by decide +kernel
theorem dX8_order_39 : decode cX8_order 39 = .ok (.if_icmp .ge 21, 3) := by decide +kernel
theorem dX8_order_42 : decode cX8_order 42 = .ok (.aload_n 0, 1) := by decide +kernel
theorem dX8_order_43 : decode cX8_order 43 = .ok (.getfield 46, 3) := by decide +kernel
theorem dX8_order_46 : decode cX8_order 46 = .ok (.iload_n 2, 1) := by decide +kernel
theorem dX8_order_47 : decode cX8_order 47 = .ok (.aload_n 0, 1) := by decide +kernel
theorem dX8_order_48 : decode cX8_order 48 = .ok (.getfield 13, 3) := by decide +kernel
theorem dX8_order_51 : decode cX8_order 51 = .ok (.iload_n 2, 1) := by decide +kernel
theorem dX8_order_52 : decode cX8_order 52 = .ok (.iaload, 1) := by decide +kernel
theorem dX8_order_53 : decode cX8_order 53 = .ok (.iastore, 1) := by decide +kernel
theorem dX8_order_54 : decode cX8_order 54 = .ok (.iinc 2 1, 3) := by decide +kernel
theorem dX8_order_57 : decode cX8_order 57 = .ok (.goto (-23), 3) := by decide +kernel
theorem dX8_order_60 : decode cX8_order 60 = .ok (.iconst 0, 1) := by decide +kernel
theorem dX8_order_61 : decode cX8_order 61 = .ok (.istore_n 2, 1) := by decide +kernel
theorem dX8_order_62 : decode cX8_order 62 = .ok (.iload_n 2, 1) := by decide +kernel
theorem dX8_order_63 : decode cX8_order 63 = .ok (.aload_n 0, 1) := by decide +kernel
theorem dX8_order_64 : decode cX8_order 64 = .ok (.getfield 71, 3) := by decide +kernel
theorem dX8_order_67 : decode cX8_order 67 = .ok (.if_icmp .ge 48, 3) := by decide +kernel
theorem dX8_order_70 : decode cX8_order 70 = .ok (.iload_n 2, 1) := by decide +kernel
theorem dX8_order_71 : decode cX8_order 71 = .ok (.iconst 1, 1) := by decide +kernel
theorem dX8_order_72 : decode cX8_order 72 = .ok (.iadd, 1) := by decide +kernel
theorem dX8_order_73 : decode cX8_order 73 = .ok (.istore_n 3, 1) := by decide +kernel
theorem dX8_order_74 : decode cX8_order 74 = .ok (.iload_n 3, 1) := by decide +kernel
theorem dX8_order_75 : decode cX8_order 75 = .ok (.aload_n 0, 1) := by decide +kernel
theorem dX8_order_76 : decode cX8_order 76 = .ok (.getfield 71, 3) := by decide +kernel
theorem dX8_order_79 : decode cX8_order 79 = .ok (.if_icmp .ge 30, 3) := by decide +kernel
theorem dX8_order_82 : decode cX8_order 82 = .ok (.aload_n 0, 1) := by decide +kernel
theorem dX8_order_83 : decode cX8_order 83 = .ok (.getfield 13, 3) := by decide +kernel
theorem dX8_order_86 : decode cX8_order 86 = .ok (.iload_n 3, 1) := by decide +kernel
theorem dX8_order_87 : decode cX8_order 87 = .ok (.iaload, 1) := by decide +kernel
theorem dX8_order_88 : decode cX8_order 88 = .ok (.aload_n 0, 1) := by decide +kernel
theorem dX8_order_89 : decode cX8_order 89 = .ok (.getfield 13, 3) := by decide +kernel
theorem dX8_order_92 : decode cX8_order 92 = .ok (.iload_n 2, 1) := by decide +kernel
theorem dX8_order_93 : decode cX8_order 93 = .ok (.iaload, 1) := by decide +kernel
theorem dX8_order_94 : decode cX8_order 94 = .ok (.if_icmp .ge 9, 3) := by decide +kernel
theorem dX8_order_97 : decode cX8_order 97 = .ok (.aload_n 0, 1) := by decide +kernel
theorem dX8_order_98 : decode cX8_order 98 = .ok (.iload_n 2, 1) := by decide +kernel
theorem dX8_order_99 : decode cX8_order 99 = .ok (.iload_n 3, 1) := by decide +kernel
theorem dX8_order_100 : decode cX8_order 100 = .ok (.invokevirtual 205, 3) := by decide +kernel
theorem dX8_order_103 : decode cX8_order 103 = .ok (.iinc 3 1, 3) := by decide +kernel
theorem dX8_order_106 : decode cX8_order 106 = .ok (.goto (-32), 3) := by decide +kernel
theorem dX8_order_109 : decode cX8_order 109 = .ok (.iinc 2 1, 3) := by decide +kernel
theorem dX8_order_112 : decode cX8_order 112 = .ok (.goto (-50), 3) := by decide +kernel
theorem dX8_order_115 : decode cX8_order 115 = .ok (.iconst (-1), 1) := by decide +kernel
theorem dX8_order_116 : decode cX8_order 116 = .ok (.istore_n 2, 1) := by decide +kernel
theorem dX8_order_117 : decode cX8_order 117 = .ok (.iconst 1, 1) := by decide +kernel
theorem dX8_order_118 : decode cX8_order 118 = .ok (.istore_n 3, 1) := by decide +kernel
theorem dX8_order_119 : decode cX8_order 119 = .ok (.iload_n 3, 1) := by decide +kernel
theorem dX8_order_120 : decode cX8_order 120 = .ok (.ifCond .eq 87, 3) := by decide +kernel
theorem dX8_order_123 : decode cX8_order 123 = .ok (.aload_n 0, 1) := by decide +kernel
theorem dX8_order_124 : decode cX8_order 124 = .ok (.aload_n 0, 1) := by decide +kernel
theorem dX8_order_125 : decode cX8_order 125 = .ok (.getfield 136, 3) := by decide +kernel
theorem dX8_order_128 : decode cX8_order 128 = .ok (.invokevirtual 199, 3) := by decide +kernel
theorem dX8_order_131 : decode cX8_order 131 = .ok (.istore 4, 2) := by decide +kernel
theorem dX8_order_133 : decode cX8_order 133 = .ok (.iload_n 2, 1) := by decide +kernel
theorem dX8_order_134 : decode cX8_order 134 = .ok (.ifCond .lt 9, 3) := by decide +kernel
theorem dX8_order_137 : decode cX8_order 137 = .ok (.iload 4, 2) := by decide +kernel
theorem dX8_order_139 : decode cX8_order 139 = .ok (.iload_n 2, 1) := by decide +kernel
theorem dX8_order_140 : decode cX8_order 140 = .ok (.if_icmp .ge 7, 3) := by decide +kernel
theorem dX8_order_143 : decode cX8_order 143 = .ok (.iconst 1, 1) := by decide +kernel
theorem dX8_order_144 : decode cX8_order 144 = .ok (.goto 4, 3) := by decide +kernel
theorem dX8_order_147 : decode cX8_order 147 = .ok (.iconst 0, 1) := by decide +kernel
theorem dX8_order_148 : decode cX8_order 148 = .ok (.istore 5, 2) := by decide +kernel
theorem dX8_order_150 : decode cX8_order 150 = .ok (.iload 5, 2) := by decide +kernel
theorem dX8_order_152 : decode cX8_order 152 = .ok (.ifCond .eq 8, 3) := by decide +kernel
theorem dX8_order_155 : decode cX8_order 155 = .ok (.iload 4, 2) := by decide +kernel
theorem dX8_order_157 : decode cX8_order 157 = .ok (.goto 4, 3) := by decide +kernel
theorem dX8_order_160 : decode cX8_order 160 = .ok (.iload_n 2, 1) := by decide +kernel
theorem dX8_order_161 : decode cX8_order 161 = .ok (.istore_n 2, 1) := by decide +kernel
theorem dX8_order_162 : decode cX8_order 162 = .ok (.iconst 0, 1) := by decide +kernel
theorem dX8_order_163 : decode cX8_order 163 = .ok (.istore 6, 2) := by decide +kernel
theorem dX8_order_165 : decode cX8_order 165 = .ok (.iload 6, 2) := by decide +kernel
theorem dX8_order_167 : decode cX8_order 167 = .ok (.aload_n 0, 1) := by decide +kernel
theorem dX8_order_168 : decode cX8_order 168 = .ok (.getfield 71, 3) := by decide +kernel
theorem dX8_order_171 : decode cX8_order 171 = .ok (.if_icmp .ge 28, 3) := by decide +kernel
theorem dX8_order_174 : decode cX8_order 174 = .ok (.iload 5, 2) := by decide +kernel
theorem dX8_order_176 : decode cX8_order 176 = .ok (.ifCond .eq 23, 3) := by decide +kernel
theorem dX8_order_179 : decode cX8_order 179 = .ok (.aload_n 0, 1) := by decide +kernel
theorem dX8_order_180 : decode cX8_order 180 = .ok (.getfield 49, 3) := by decide +kernel
theorem dX8_order_183 : decode cX8_order 183 = .ok (.iload 6, 2) := by decide +kernel
theorem dX8_order_185 : decode cX8_order 185 = .ok (.aload_n 0, 1) := by decide +kernel
theorem dX8_order_186 : decode cX8_order 186 = .ok (.getfield 13, 3) := by decide +kernel
theorem dX8_order_189 : decode cX8_order 189 = .ok (.iload 6, 2) := by decide +kernel
theorem dX8_order_191 : decode cX8_order 191 = .ok (.iaload, 1) := by decide +kernel
theorem dX8_order_192 : decode cX8_order 192 = .ok (.iastore, 1) := by decide +kernel
theorem dX8_order_193 : decode cX8_order 193 = .ok (.iinc 6 1, 3) := by decide +kernel
theorem dX8_order_196 : decode cX8_order 196 = .ok (.goto (-31), 3) := by decide +kernel
theorem dX8_order_199 : decode cX8_order 199 = .ok (.aload_n 0, 1) := by decide +kernel
theorem dX8_order_200 : decode cX8_order 200 = .ok (.invokevirtual 208, 3) := by decide +kernel
theorem dX8_order_203 : decode cX8_order 203 = .ok (.istore_n 3, 1) := by decide +kernel
theorem dX8_order_204 : decode cX8_order 204 = .ok (.goto (-85), 3) := by decide +kernel
theorem dX8_order_207 : decode cX8_order 207 = .ok (.iconst 0, 1) := by decide +kernel
theorem dX8_order_208 : decode cX8_order 208 = .ok (.istore 4, 2) := by decide +kernel
theorem dX8_order_210 : decode cX8_order 210 = .ok (.iload 4, 2) := by decide +kernel
theorem dX8_order_212 : decode cX8_order 212 = .ok (.aload_n 0, 1) := by decide +kernel
theorem dX8_order_213 : decode cX8_order 213 = .ok (.getfield 71, 3) := by decide +kernel
theorem dX8_order_216 : decode cX8_order 216 = .ok (.if_icmp .ge 23, 3) := by decide +kernel
theorem dX8_order_219 : decode cX8_order 219 = .ok (.aload_n 0, 1) := by decide +kernel
theorem dX8_order_220 : decode cX8_order 220 = .ok (.getfield 13, 3) := by decide +kernel
theorem dX8_order_223 : decode cX8_order 223 = .ok (.iload 4, 2) := by decide +kernel
theorem dX8_order_225 : decode cX8_order 225 = .ok (.aload_n 0, 1) := by decide +kernel
theorem dX8_order_226 : decode cX8_order 226 = .ok (.getfield 46, 3) := by decide +kernel
theorem dX8_order_229 : decode cX8_order 229 = .ok (.iload 4, 2) := by decide +kernel
theorem dX8_order_231 : decode cX8_order 231 = .ok (.iaload, 1) := by decide +kernel
theorem dX8_order_232 : decode cX8_order 232 = .ok (.iastore, 1) := by decide +kernel
theorem dX8_order_233 : decode cX8_order 233 = .ok (.iinc 4 1, 3) := by decide +kernel
theorem dX8_order_236 : decode cX8_order 236 = .ok (.goto (-26), 3) := by decide +kernel
theorem dX8_order_239 : decode cX8_order 239 = .ok (.iload_n 1, 1) := by decide +kernel
theorem dX8_order_240 : decode cX8_order 240 = .ok (.ifCond .ge 7, 3) := by decide +kernel
theorem dX8_order_243 : decode cX8_order 243 = .ok (.iload_n 2, 1) := by decide +kernel
theorem dX8_order_244 : decode cX8_order 244 = .ok (.goto 9, 3) := by decide +kernel
theorem dX8_order_247 : decode cX8_order 247 = .ok (.aload_n 0, 1) := by decide +kernel
theorem dX8_order_248 : decode cX8_order 248 = .ok (.getfield 49, 3) := by decide +kernel
theorem dX8_order_251 : decode cX8_order 251 = .ok (.iload_n 1, 1) := by decide +kernel
theorem dX8_order_252 : decode cX8_order 252 = .ok (.iaload, 1) := by decide +kernel
theorem dX8_order_253 : decode cX8_order 253 = .ok (.ireturn, 1) := by decide +kernel
theorem dX8_tryTaught_0 : decode cX8_tryTaught 0 = .ok (.aload_n 0, 1) := by decide +kernel
theorem dX8_tryTaught_1 : decode cX8_tryTaught 1 = .ok (.invokevirtual 188, 3) := by decide +kernel
theorem dX8_tryTaught_4 : decode cX8_tryTaught 4 = .ok (.aload_n 0, 1) := by decide +kernel
theorem dX8_tryTaught_5 : decode cX8_tryTaught 5 = .ok (.iload_n 1, 1) := by decide +kernel
theorem dX8_tryTaught_6 : decode cX8_tryTaught 6 = .ok (.iload_n 2, 1) := by decide +kernel
theorem dX8_tryTaught_7 : decode cX8_tryTaught 7 = .ok (.invokevirtual 176, 3) := by decide +kernel
theorem dX8_tryTaught_10 : decode cX8_tryTaught 10 = .ok (.aload_n 0, 1) := by decide +kernel
theorem dX8_tryTaught_11 : decode cX8_tryTaught 11 = .ok (.aload_n 0, 1) := by decide +kernel
theorem dX8_tryTaught_12 : decode cX8_tryTaught 12 = .ok (.getfield 136, 3) := by decide +kernel
theorem dX8_tryTaught_15 : decode cX8_tryTaught 15 = .ok (.aload_n 0, 1) := by decide +kernel
theorem dX8_tryTaught_16 : decode cX8_tryTaught 16 = .ok (.getfield 139, 3) := by decide +kernel
theorem dX8_tryTaught_19 : decode cX8_tryTaught 19 = .ok (.invokevirtual 191, 3) := by decide +kernel
theorem dX8_tryTaught_22 : decode cX8_tryTaught 22 = .ok (.istore_n 3, 1) := by decide +kernel
theorem dX8_tryTaught_23 : decode cX8_tryTaught 23 = .ok (.aload_n 0, 1) := by decide +kernel
theorem dX8_tryTaught_24 : decode cX8_tryTaught 24 = .ok (.invokevirtual 194, 3) := by decide +kernel
theorem dX8_tryTaught_27 : decode cX8_tryTaught 27 = .ok (.iload_n 3, 1) := by decide +kernel
theorem dX8_tryTaught_28 : decode cX8_tryTaught 28 = .ok (.ireturn, 1) := by decide +kernel
theorem dX8_best_0 : decode cX8_best 0 = .ok (.iload_n 1, 1) := by decide +kernel
theorem dX8_best_1 : decode cX8_best 1 = .ok (.i2l, 1) := by decide +kernel
theorem dX8_best_2 : decode cX8_best 2 = .ok (.lconst 0, 1) := by decide +kernel
theorem dX8_best_3 : decode cX8_best 3 = .ok (.lconst 1, 1) := by decide +kernel
theorem dX8_best_4 : decode cX8_best 4 = .ok (.invokestatic 78, 3) := by decide +kernel
theorem dX8_best_7 : decode cX8_best 7 = .ok (.ifCond .ne 5, 3) := by decide +kernel
theorem dX8_best_10 : decode cX8_best 10 = .ok (.iconst (-1), 1) := by decide +kernel
theorem dX8_best_11 : decode cX8_best 11 = .ok (.ireturn, 1) := by decide +kernel
theorem dX8_best_12 : decode cX8_best 12 = .ok (.aload_n 0, 1) := by decide +kernel
theorem dX8_best_13 : decode cX8_best 13 = .ok (.aload_n 0, 1) := by decide +kernel
theorem dX8_best_14 : decode cX8_best 14 = .ok (.getfield 136, 3) := by decide +kernel
theorem dX8_best_17 : decode cX8_best 17 = .ok (.invokevirtual 199, 3) := by decide +kernel
theorem dX8_best_20 : decode cX8_best 20 = .ok (.istore_n 2, 1) := by decide +kernel
theorem dX8_best_21 : decode cX8_best 21 = .ok (.bipush (-4), 2) := by decide +kernel
theorem dX8_best_23 : decode cX8_best 23 = .ok (.istore_n 3, 1) := by decide +kernel
theorem dX8_best_24 : decode cX8_best 24 = .ok (.iconst 0, 1) := by decide +kernel
theorem dX8_best_25 : decode cX8_best 25 = .ok (.istore 4, 2) := by decide +kernel
theorem dX8_best_27 : decode cX8_best 27 = .ok (.iload 4, 2) := by decide +kernel
theorem dX8_best_29 : decode cX8_best 29 = .ok (.bipush 6, 2) := by decide +kernel
theorem dX8_best_31 : decode cX8_best 31 = .ok (.aload_n 0, 1) := by decide +kernel
theorem dX8_best_32 : decode cX8_best 32 = .ok (.getfield 75, 3) := by decide +kernel
theorem dX8_best_35 : decode cX8_best 35 = .ok (.imul, 1) := by decide +kernel
theorem dX8_best_36 : decode cX8_best 36 = .ok (.if_icmp .ge 51, 3) := by decide +kernel
theorem dX8_best_39 : decode cX8_best 39 = .ok (.aload_n 0, 1) := by decide +kernel
theorem dX8_best_40 : decode cX8_best 40 = .ok (.iload 4, 2) := by decide +kernel
theorem dX8_best_42 : decode cX8_best 42 = .ok (.bipush 6, 2) := by decide +kernel
theorem dX8_best_44 : decode cX8_best 44 = .ok (.idiv, 1) := by decide +kernel
theorem dX8_best_45 : decode cX8_best 45 = .ok (.iload 4, 2) := by decide +kernel
theorem dX8_best_47 : decode cX8_best 47 = .ok (.bipush 6, 2) := by decide +kernel
theorem dX8_best_49 : decode cX8_best 49 = .ok (.irem, 1) := by decide +kernel
theorem dX8_best_50 : decode cX8_best 50 = .ok (.invokevirtual 211, 3) := by decide +kernel
theorem dX8_best_53 : decode cX8_best 53 = .ok (.istore 5, 2) := by decide +kernel
theorem dX8_best_55 : decode cX8_best 55 = .ok (.iload 5, 2) := by decide +kernel
theorem dX8_best_57 : decode cX8_best 57 = .ok (.iload_n 2, 1) := by decide +kernel
theorem dX8_best_58 : decode cX8_best 58 = .ok (.if_icmp .ge 8, 3) := by decide +kernel
theorem dX8_best_61 : decode cX8_best 61 = .ok (.iload 4, 2) := by decide +kernel
theorem dX8_best_63 : decode cX8_best 63 = .ok (.goto 4, 3) := by decide +kernel
theorem dX8_best_66 : decode cX8_best 66 = .ok (.iload_n 3, 1) := by decide +kernel
theorem dX8_best_67 : decode cX8_best 67 = .ok (.istore_n 3, 1) := by decide +kernel
theorem dX8_best_68 : decode cX8_best 68 = .ok (.iload 5, 2) := by decide +kernel
theorem dX8_best_70 : decode cX8_best 70 = .ok (.iload_n 2, 1) := by decide +kernel
theorem dX8_best_71 : decode cX8_best 71 = .ok (.if_icmp .ge 8, 3) := by decide +kernel
theorem dX8_best_74 : decode cX8_best 74 = .ok (.iload 5, 2) := by decide +kernel
theorem dX8_best_76 : decode cX8_best 76 = .ok (.goto 4, 3) := by decide +kernel
theorem dX8_best_79 : decode cX8_best 79 = .ok (.iload_n 2, 1) := by decide +kernel
theorem dX8_best_80 : decode cX8_best 80 = .ok (.istore_n 2, 1) := by decide +kernel
theorem dX8_best_81 : decode cX8_best 81 = .ok (.iinc 4 1, 3) := by decide +kernel
theorem dX8_best_84 : decode cX8_best 84 = .ok (.goto (-57), 3) := by decide +kernel
theorem dX8_best_87 : decode cX8_best 87 = .ok (.iload_n 1, 1) := by decide +kernel
theorem dX8_best_88 : decode cX8_best 88 = .ok (.ifCond .ne 7, 3) := by decide +kernel
theorem dX8_best_91 : decode cX8_best 91 = .ok (.iload_n 3, 1) := by decide +kernel
theorem dX8_best_92 : decode cX8_best 92 = .ok (.goto 4, 3) := by decide +kernel
theorem dX8_best_95 : decode cX8_best 95 = .ok (.iload_n 2, 1) := by decide +kernel
theorem dX8_best_96 : decode cX8_best 96 = .ok (.ireturn, 1) := by decide +kernel
theorem dX8_seen_0 : decode cX8_seen 0 = .ok (.iload_n 1, 1) := by decide +kernel
theorem dX8_seen_1 : decode cX8_seen 1 = .ok (.i2l, 1) := by decide +kernel
theorem dX8_seen_2 : decode cX8_seen 2 = .ok (.lconst 0, 1) := by decide +kernel
theorem dX8_seen_3 : decode cX8_seen 3 = .ok (.aload_n 0, 1) := by decide +kernel
theorem dX8_seen_4 : decode cX8_seen 4 = .ok (.getfield 71, 3) := by decide +kernel
theorem dX8_seen_7 : decode cX8_seen 7 = .ok (.iconst 1, 1) := by decide +kernel
theorem dX8_seen_8 : decode cX8_seen 8 = .ok (.isub, 1) := by decide +kernel
theorem dX8_seen_9 : decode cX8_seen 9 = .ok (.i2l, 1) := by decide +kernel
theorem dX8_seen_10 : decode cX8_seen 10 = .ok (.invokestatic 78, 3) := by decide +kernel
theorem dX8_seen_13 : decode cX8_seen 13 = .ok (.ifCond .eq 10, 3) := by decide +kernel
theorem dX8_seen_16 : decode cX8_seen 16 = .ok (.iload_n 2, 1) := by decide +kernel
theorem dX8_seen_17 : decode cX8_seen 17 = .ok (.invokestatic 103, 3) := by decide +kernel
theorem dX8_seen_20 : decode cX8_seen 20 = .ok (.ifCond .ne 5, 3) := by decide +kernel
theorem dX8_seen_23 : decode cX8_seen 23 = .ok (.iconst (-1), 1) := by decide +kernel
theorem dX8_seen_24 : decode cX8_seen 24 = .ok (.ireturn, 1) := by decide +kernel
theorem dX8_seen_25 : decode cX8_seen 25 = .ok (.aload_n 0, 1) := by decide +kernel
theorem dX8_seen_26 : decode cX8_seen 26 = .ok (.getfield 145, 3) := by decide +kernel
theorem dX8_seen_29 : decode cX8_seen 29 = .ok (.bipush 8, 2) := by decide +kernel
theorem dX8_seen_31 : decode cX8_seen 31 = .ok (.if_icmp .ne 6, 3) := by decide +kernel
theorem dX8_seen_34 : decode cX8_seen 34 = .ok (.bipush (-3), 2) := by decide +kernel
theorem dX8_seen_36 : decode cX8_seen 36 = .ok (.ireturn, 1) := by decide +kernel
theorem dX8_seen_37 : decode cX8_seen 37 = .ok (.aload_n 0, 1) := by decide +kernel
theorem dX8_seen_38 : decode cX8_seen 38 = .ok (.getfield 52, 3) := by decide +kernel
theorem dX8_seen_41 : decode cX8_seen 41 = .ok (.aload_n 0, 1) := by decide +kernel
theorem dX8_seen_42 : decode cX8_seen 42 = .ok (.getfield 145, 3) := by decide +kernel
theorem dX8_seen_45 : decode cX8_seen 45 = .ok (.iload_n 1, 1) := by decide +kernel
theorem dX8_seen_46 : decode cX8_seen 46 = .ok (.iastore, 1) := by decide +kernel
theorem dX8_seen_47 : decode cX8_seen 47 = .ok (.aload_n 0, 1) := by decide +kernel
theorem dX8_seen_48 : decode cX8_seen 48 = .ok (.getfield 55, 3) := by decide +kernel
theorem dX8_seen_51 : decode cX8_seen 51 = .ok (.aload_n 0, 1) := by decide +kernel
theorem dX8_seen_52 : decode cX8_seen 52 = .ok (.getfield 145, 3) := by decide +kernel
theorem dX8_seen_55 : decode cX8_seen 55 = .ok (.iload_n 2, 1) := by decide +kernel
theorem dX8_seen_56 : decode cX8_seen 56 = .ok (.iastore, 1) := by decide +kernel
theorem dX8_seen_57 : decode cX8_seen 57 = .ok (.aload_n 0, 1) := by decide +kernel
theorem dX8_seen_58 : decode cX8_seen 58 = .ok (.dup, 1) := by decide +kernel
theorem dX8_seen_59 : decode cX8_seen 59 = .ok (.getfield 145, 3) := by decide +kernel
theorem dX8_seen_62 : decode cX8_seen 62 = .ok (.iconst 1, 1) := by decide +kernel
theorem dX8_seen_63 : decode cX8_seen 63 = .ok (.iadd, 1) := by decide +kernel
theorem dX8_seen_64 : decode cX8_seen 64 = .ok (.putfield 145, 3) := by decide +kernel
theorem dX8_seen_67 : decode cX8_seen 67 = .ok (.aload_n 0, 1) := by decide +kernel
theorem dX8_seen_68 : decode cX8_seen 68 = .ok (.getfield 145, 3) := by decide +kernel
theorem dX8_seen_71 : decode cX8_seen 71 = .ok (.ireturn, 1) := by decide +kernel
theorem dX8_forget_0 : decode cX8_forget 0 = .ok (.aload_n 0, 1) := by decide +kernel
theorem dX8_forget_1 : decode cX8_forget 1 = .ok (.getfield 145, 3) := by decide +kernel
theorem dX8_forget_4 : decode cX8_forget 4 = .ok (.istore_n 1, 1) := by decide +kernel
theorem dX8_forget_5 : decode cX8_forget 5 = .ok (.aload_n 0, 1) := by decide +kernel
theorem dX8_forget_6 : decode cX8_forget 6 = .ok (.iconst 0, 1) := by decide +kernel
theorem dX8_forget_7 : decode cX8_forget 7 = .ok (.putfield 145, 3) := by decide +kernel
theorem dX8_forget_10 : decode cX8_forget 10 = .ok (.iload_n 1, 1) := by decide +kernel
theorem dX8_forget_11 : decode cX8_forget 11 = .ok (.ireturn, 1) := by decide +kernel
theorem dX8_isFit_0 : decode cX8_isFit 0 = .ok (.aload_n 0, 1) := by decide +kernel
theorem dX8_isFit_1 : decode cX8_isFit 1 = .ok (.invokevirtual 188, 3) := by decide +kernel
theorem dX8_isFit_4 : decode cX8_isFit 4 = .ok (.iconst 0, 1) := by decide +kernel
theorem dX8_isFit_5 : decode cX8_isFit 5 = .ok (.istore_n 3, 1) := by decide +kernel
theorem dX8_isFit_6 : decode cX8_isFit 6 = .ok (.iload_n 3, 1) := by decide +kernel
theorem dX8_isFit_7 : decode cX8_isFit 7 = .ok (.bipush 50, 2) := by decide +kernel
theorem dX8_isFit_9 : decode cX8_isFit 9 = .ok (.if_icmp .ge 16, 3) := by decide +kernel
theorem dX8_isFit_12 : decode cX8_isFit 12 = .ok (.aload_n 0, 1) := by decide +kernel
theorem dX8_isFit_13 : decode cX8_isFit 13 = .ok (.getfield 16, 3) := by decide +kernel
theorem dX8_isFit_16 : decode cX8_isFit 16 = .ok (.iload_n 3, 1) := by decide +kernel
theorem dX8_isFit_17 : decode cX8_isFit 17 = .ok (.iconst 0, 1) := by decide +kernel
theorem dX8_isFit_18 : decode cX8_isFit 18 = .ok (.iastore, 1) := by decide +kernel
theorem dX8_isFit_19 : decode cX8_isFit 19 = .ok (.iinc 3 1, 3) := by decide +kernel
theorem dX8_isFit_22 : decode cX8_isFit 22 = .ok (.goto (-16), 3) := by decide +kernel
theorem dX8_isFit_25 : decode cX8_isFit 25 = .ok (.aload_n 0, 1) := by decide +kernel
theorem dX8_isFit_26 : decode cX8_isFit 26 = .ok (.iload_n 1, 1) := by decide +kernel
theorem dX8_isFit_27 : decode cX8_isFit 27 = .ok (.iload_n 2, 1) := by decide +kernel
theorem dX8_isFit_28 : decode cX8_isFit 28 = .ok (.invokevirtual 191, 3) := by decide +kernel
theorem dX8_isFit_31 : decode cX8_isFit 31 = .ok (.pop, 1) := by decide +kernel
theorem dX8_isFit_32 : decode cX8_isFit 32 = .ok (.aload_n 0, 1) := by decide +kernel
theorem dX8_isFit_33 : decode cX8_isFit 33 = .ok (.invokevirtual 194, 3) := by decide +kernel
theorem dX8_isFit_36 : decode cX8_isFit 36 = .ok (.iconst 1, 1) := by decide +kernel
theorem dX8_isFit_37 : decode cX8_isFit 37 = .ok (.istore_n 3, 1) := by decide +kernel
theorem dX8_isFit_38 : decode cX8_isFit 38 = .ok (.iconst 0, 1) := by decide +kernel
theorem dX8_isFit_39 : decode cX8_isFit 39 = .ok (.istore 4, 2) := by decide +kernel
theorem dX8_isFit_41 : decode cX8_isFit 41 = .ok (.iload 4, 2) := by decide +kernel
theorem dX8_isFit_43 : decode cX8_isFit 43 = .ok (.aload_n 0, 1) := by decide +kernel
theorem dX8_isFit_44 : decode cX8_isFit 44 = .ok (.getfield 145, 3) := by decide +kernel
theorem dX8_isFit_47 : decode cX8_isFit 47 = .ok (.if_icmp .ge 41, 3) := by decide +kernel
theorem dX8_isFit_50 : decode cX8_isFit 50 = .ok (.iload_n 3, 1) := by decide +kernel
theorem dX8_isFit_51 : decode cX8_isFit 51 = .ok (.ifCond .eq 29, 3) := by decide +kernel
theorem dX8_isFit_54 : decode cX8_isFit 54 = .ok (.aload_n 0, 1) := by decide +kernel
theorem dX8_isFit_55 : decode cX8_isFit 55 = .ok (.getfield 37, 3) := by decide +kernel
theorem dX8_isFit_58 : decode cX8_isFit 58 = .ok (.aload_n 0, 1) := by decide +kernel
theorem dX8_isFit_59 : decode cX8_isFit 59 = .ok (.getfield 52, 3) := by decide +kernel
theorem dX8_isFit_62 : decode cX8_isFit 62 = .ok (.iload 4, 2) := by decide +kernel
theorem dX8_isFit_64 : decode cX8_isFit 64 = .ok (.iaload, 1) := by decide +kernel
theorem dX8_isFit_65 : decode cX8_isFit 65 = .ok (.iaload, 1) := by decide +kernel
theorem dX8_isFit_66 : decode cX8_isFit 66 = .ok (.aload_n 0, 1) := by decide +kernel
theorem dX8_isFit_67 : decode cX8_isFit 67 = .ok (.getfield 55, 3) := by decide +kernel
theorem dX8_isFit_70 : decode cX8_isFit 70 = .ok (.iload 4, 2) := by decide +kernel
theorem dX8_isFit_72 : decode cX8_isFit 72 = .ok (.iaload, 1) := by decide +kernel
theorem dX8_isFit_73 : decode cX8_isFit 73 = .ok (.if_icmp .ne 7, 3) := by decide +kernel
theorem dX8_isFit_76 : decode cX8_isFit 76 = .ok (.iconst 1, 1) := by decide +kernel
theorem dX8_isFit_77 : decode cX8_isFit 77 = .ok (.goto 4, 3) := by decide +kernel
theorem dX8_isFit_80 : decode cX8_isFit 80 = .ok (.iconst 0, 1) := by decide +kernel
theorem dX8_isFit_81 : decode cX8_isFit 81 = .ok (.istore_n 3, 1) := by decide +kernel
theorem dX8_isFit_82 : decode cX8_isFit 82 = .ok (.iinc 4 1, 3) := by decide +kernel
theorem dX8_isFit_85 : decode cX8_isFit 85 = .ok (.goto (-44), 3) := by decide +kernel
theorem dX8_isFit_88 : decode cX8_isFit 88 = .ok (.iload_n 3, 1) := by decide +kernel
theorem dX8_isFit_89 : decode cX8_isFit 89 = .ok (.ireturn, 1) := by decide +kernel
theorem dX8_fits_0 : decode cX8_fits 0 = .ok (.iconst 0, 1) := by decide +kernel
theorem dX8_fits_1 : decode cX8_fits 1 = .ok (.istore_n 1, 1) := by decide +kernel
theorem dX8_fits_2 : decode cX8_fits 2 = .ok (.iconst 0, 1) := by decide +kernel
theorem dX8_fits_3 : decode cX8_fits 3 = .ok (.istore_n 2, 1) := by decide +kernel
theorem dX8_fits_4 : decode cX8_fits 4 = .ok (.iload_n 2, 1) := by decide +kernel
theorem dX8_fits_5 : decode cX8_fits 5 = .ok (.iconst 4, 1) := by decide +kernel
theorem dX8_fits_6 : decode cX8_fits 6 = .ok (.if_icmp .ge 31, 3) := by decide +kernel
theorem dX8_fits_9 : decode cX8_fits 9 = .ok (.iload_n 1, 1) := by decide +kernel
theorem dX8_fits_10 : decode cX8_fits 10 = .ok (.aload_n 0, 1) := by decide +kernel
theorem dX8_fits_11 : decode cX8_fits 11 = .ok (.iload_n 2, 1) := by decide +kernel
theorem dX8_fits_12 : decode cX8_fits 12 = .ok (.aload_n 0, 1) := by decide +kernel
theorem dX8_fits_13 : decode cX8_fits 13 = .ok (.getfield 139, 3) := by decide +kernel
theorem dX8_fits_16 : decode cX8_fits 16 = .ok (.invokevirtual 214, 3) := by decide +kernel
theorem dX8_fits_19 : decode cX8_fits 19 = .ok (.ifCond .eq 9, 3) := by decide +kernel
theorem dX8_fits_22 : decode cX8_fits 22 = .ok (.iconst 1, 1) := by decide +kernel
theorem dX8_fits_23 : decode cX8_fits 23 = .ok (.iload_n 2, 1) := by decide +kernel
theorem dX8_fits_24 : decode cX8_fits 24 = .ok (.ishl, 1) := by decide +kernel
theorem dX8_fits_25 : decode cX8_fits 25 = .ok (.goto 4, 3) := by decide +kernel
theorem dX8_fits_28 : decode cX8_fits 28 = .ok (.iconst 0, 1) := by decide +kernel
theorem dX8_fits_29 : decode cX8_fits 29 = .ok (.ior, 1) := by decide +kernel
theorem dX8_fits_30 : decode cX8_fits 30 = .ok (.istore_n 1, 1) := by decide +kernel
theorem dX8_fits_31 : decode cX8_fits 31 = .ok (.iinc 2 1, 3) := by decide +kernel
theorem dX8_fits_34 : decode cX8_fits 34 = .ok (.goto (-30), 3) := by decide +kernel
theorem dX8_fits_37 : decode cX8_fits 37 = .ok (.iload_n 1, 1) := by decide +kernel
theorem dX8_fits_38 : decode cX8_fits 38 = .ok (.ireturn, 1) := by decide +kernel
theorem dX8_firsts_0 : decode cX8_firsts 0 = .ok (.iload_n 1, 1) := by decide +kernel
theorem dX8_firsts_1 : decode cX8_firsts 1 = .ok (.i2l, 1) := by decide +kernel
theorem dX8_firsts_2 : decode cX8_firsts 2 = .ok (.lconst 0, 1) := by decide +kernel
theorem dX8_firsts_3 : decode cX8_firsts 3 = .ok (.ldc2_w 180, 3) := by decide +kernel
theorem dX8_firsts_6 : decode cX8_firsts 6 = .ok (.invokestatic 78, 3) := by decide +kernel
theorem dX8_firsts_9 : decode cX8_firsts 9 = .ok (.ifCond .ne 5, 3) := by decide +kernel
theorem dX8_firsts_12 : decode cX8_firsts 12 = .ok (.iconst (-1), 1) := by decide +kernel
theorem dX8_firsts_13 : decode cX8_firsts 13 = .ok (.ireturn, 1) := by decide +kernel
theorem dX8_firsts_14 : decode cX8_firsts 14 = .ok (.iconst 0, 1) := by decide +kernel
theorem dX8_firsts_15 : decode cX8_firsts 15 = .ok (.istore_n 2, 1) := by decide +kernel
theorem dX8_firsts_16 : decode cX8_firsts 16 = .ok (.iconst 0, 1) := by decide +kernel
theorem dX8_firsts_17 : decode cX8_firsts 17 = .ok (.istore_n 3, 1) := by decide +kernel
theorem dX8_firsts_18 : decode cX8_firsts 18 = .ok (.iload_n 3, 1) := by decide +kernel
theorem dX8_firsts_19 : decode cX8_firsts 19 = .ok (.bipush 6, 2) := by decide +kernel
theorem dX8_firsts_21 : decode cX8_firsts 21 = .ok (.if_icmp .ge 28, 3) := by decide +kernel
theorem dX8_firsts_24 : decode cX8_firsts 24 = .ok (.iload_n 2, 1) := by decide +kernel
theorem dX8_firsts_25 : decode cX8_firsts 25 = .ok (.aload_n 0, 1) := by decide +kernel
theorem dX8_firsts_26 : decode cX8_firsts 26 = .ok (.iload_n 1, 1) := by decide +kernel
theorem dX8_firsts_27 : decode cX8_firsts 27 = .ok (.iload_n 3, 1) := by decide +kernel
theorem dX8_firsts_28 : decode cX8_firsts 28 = .ok (.invokevirtual 214, 3) := by decide +kernel
theorem dX8_firsts_31 : decode cX8_firsts 31 = .ok (.ifCond .eq 9, 3) := by decide +kernel
theorem dX8_firsts_34 : decode cX8_firsts 34 = .ok (.iconst 1, 1) := by decide +kernel
theorem dX8_firsts_35 : decode cX8_firsts 35 = .ok (.iload_n 3, 1) := by decide +kernel
theorem dX8_firsts_36 : decode cX8_firsts 36 = .ok (.ishl, 1) := by decide +kernel
theorem dX8_firsts_37 : decode cX8_firsts 37 = .ok (.goto 4, 3) := by decide +kernel
theorem dX8_firsts_40 : decode cX8_firsts 40 = .ok (.iconst 0, 1) := by decide +kernel
theorem dX8_firsts_41 : decode cX8_firsts 41 = .ok (.ior, 1) := by decide +kernel
theorem dX8_firsts_42 : decode cX8_firsts 42 = .ok (.istore_n 2, 1) := by decide +kernel
theorem dX8_firsts_43 : decode cX8_firsts 43 = .ok (.iinc 3 1, 3) := by decide +kernel
theorem dX8_firsts_46 : decode cX8_firsts 46 = .ok (.goto (-28), 3) := by decide +kernel
theorem dX8_firsts_49 : decode cX8_firsts 49 = .ok (.iload_n 2, 1) := by decide +kernel
theorem dX8_firsts_50 : decode cX8_firsts 50 = .ok (.ireturn, 1) := by decide +kernel
theorem dX8_ask_0 : decode cX8_ask 0 = .ok (.iload_n 1, 1) := by decide +kernel
theorem dX8_ask_1 : decode cX8_ask 1 = .ok (.i2l, 1) := by decide +kernel
theorem dX8_ask_2 : decode cX8_ask 2 = .ok (.lconst 0, 1) := by decide +kernel
theorem dX8_ask_3 : decode cX8_ask 3 = .ok (.lconst 1, 1) := by decide +kernel
theorem dX8_ask_4 : decode cX8_ask 4 = .ok (.invokestatic 78, 3) := by decide +kernel
theorem dX8_ask_7 : decode cX8_ask 7 = .ok (.ifCond .ne 5, 3) := by decide +kernel
theorem dX8_ask_10 : decode cX8_ask 10 = .ok (.iconst (-1), 1) := by decide +kernel
theorem dX8_ask_11 : decode cX8_ask 11 = .ok (.ireturn, 1) := by decide +kernel
theorem dX8_ask_12 : decode cX8_ask 12 = .ok (.aload_n 0, 1) := by decide +kernel
theorem dX8_ask_13 : decode cX8_ask 13 = .ok (.invokevirtual 217, 3) := by decide +kernel
theorem dX8_ask_16 : decode cX8_ask 16 = .ok (.istore_n 2, 1) := by decide +kernel
theorem dX8_ask_17 : decode cX8_ask 17 = .ok (.bipush (-4), 2) := by decide +kernel
theorem dX8_ask_19 : decode cX8_ask 19 = .ok (.istore_n 3, 1) := by decide +kernel
theorem dX8_ask_20 : decode cX8_ask 20 = .ok (.bipush (-4), 2) := by decide +kernel
theorem dX8_ask_22 : decode cX8_ask 22 = .ok (.istore 4, 2) := by decide +kernel
theorem dX8_ask_24 : decode cX8_ask 24 = .ok (.iconst 0, 1) := by decide +kernel
theorem dX8_ask_25 : decode cX8_ask 25 = .ok (.istore 5, 2) := by decide +kernel
theorem dX8_ask_27 : decode cX8_ask 27 = .ok (.iload 5, 2) := by decide +kernel
theorem dX8_ask_29 : decode cX8_ask 29 = .ok (.aload_n 0, 1) := by decide +kernel
theorem dX8_ask_30 : decode cX8_ask 30 = .ok (.getfield 75, 3) := by decide +kernel
theorem dX8_ask_33 : decode cX8_ask 33 = .ok (.if_icmp .ge 135, 3) := by decide +kernel
theorem dX8_ask_36 : decode cX8_ask 36 = .ok (.iload_n 2, 1) := by decide +kernel
theorem dX8_ask_37 : decode cX8_ask 37 = .ok (.ifCond .le 131, 3) := by decide +kernel
theorem dX8_ask_40 : decode cX8_ask 40 = .ok (.iconst 0, 1) := by decide +kernel
theorem dX8_ask_41 : decode cX8_ask 41 = .ok (.istore 6, 2) := by decide +kernel
theorem dX8_ask_43 : decode cX8_ask 43 = .ok (.iconst 0, 1) := by decide +kernel
theorem dX8_ask_44 : decode cX8_ask 44 = .ok (.istore 7, 2) := by decide +kernel
theorem dX8_ask_46 : decode cX8_ask 46 = .ok (.iload 7, 2) := by decide +kernel
theorem dX8_ask_48 : decode cX8_ask 48 = .ok (.bipush 6, 2) := by decide +kernel
theorem dX8_ask_50 : decode cX8_ask 50 = .ok (.if_icmp .ge 79, 3) := by decide +kernel
theorem dX8_ask_53 : decode cX8_ask 53 = .ok (.iconst 0, 1) := by decide +kernel
theorem dX8_ask_54 : decode cX8_ask 54 = .ok (.istore 8, 2) := by decide +kernel
theorem dX8_ask_56 : decode cX8_ask 56 = .ok (.iconst 0, 1) := by decide +kernel
theorem dX8_ask_57 : decode cX8_ask 57 = .ok (.istore 9, 2) := by decide +kernel
theorem dX8_ask_59 : decode cX8_ask 59 = .ok (.iload 9, 2) := by decide +kernel
theorem dX8_ask_61 : decode cX8_ask 61 = .ok (.iconst 4, 1) := by decide +kernel
theorem dX8_ask_62 : decode cX8_ask 62 = .ok (.if_icmp .ge 45, 3) := by decide +kernel
theorem dX8_ask_65 : decode cX8_ask 65 = .ok (.iload 8, 2) := by decide +kernel
theorem dX8_ask_67 : decode cX8_ask 67 = .ok (.iload_n 2, 1) := by decide +kernel
theorem dX8_ask_68 : decode cX8_ask 68 = .ok (.iload 9, 2) := by decide +kernel
theorem dX8_ask_70 : decode cX8_ask 70 = .ok (.invokestatic 162, 3) := by decide +kernel
theorem dX8_ask_73 : decode cX8_ask 73 = .ok (.ifCond .eq 24, 3) := by decide +kernel
theorem dX8_ask_76 : decode cX8_ask 76 = .ok (.aload_n 0, 1) := by decide +kernel
theorem dX8_ask_77 : decode cX8_ask 77 = .ok (.iload 9, 2) := by decide +kernel
theorem dX8_ask_79 : decode cX8_ask 79 = .ok (.aload_n 0, 1) := by decide +kernel
theorem dX8_ask_80 : decode cX8_ask 80 = .ok (.getfield 139, 3) := by decide +kernel
theorem dX8_ask_83 : decode cX8_ask 83 = .ok (.iload 5, 2) := by decide +kernel
theorem dX8_ask_85 : decode cX8_ask 85 = .ok (.invokevirtual 166, 3) := by decide +kernel
theorem dX8_ask_88 : decode cX8_ask 88 = .ok (.iload 7, 2) := by decide +kernel
theorem dX8_ask_90 : decode cX8_ask 90 = .ok (.if_icmp .ne 7, 3) := by decide +kernel
theorem dX8_ask_93 : decode cX8_ask 93 = .ok (.iconst 1, 1) := by decide +kernel
theorem dX8_ask_94 : decode cX8_ask 94 = .ok (.goto 4, 3) := by decide +kernel
theorem dX8_ask_97 : decode cX8_ask 97 = .ok (.iconst 0, 1) := by decide +kernel
theorem dX8_ask_98 : decode cX8_ask 98 = .ok (.iadd, 1) := by decide +kernel
theorem dX8_ask_99 : decode cX8_ask 99 = .ok (.istore 8, 2) := by decide +kernel
theorem dX8_ask_101 : decode cX8_ask 101 = .ok (.iinc 9 1, 3) := by decide +kernel
theorem dX8_ask_104 : decode cX8_ask 104 = .ok (.goto (-45), 3) := by decide +kernel
theorem dX8_ask_107 : decode cX8_ask 107 = .ok (.iload 8, 2) := by decide +kernel
theorem dX8_ask_109 : decode cX8_ask 109 = .ok (.iload 6, 2) := by decide +kernel
theorem dX8_ask_111 : decode cX8_ask 111 = .ok (.if_icmp .le 8, 3) := by decide +kernel
theorem dX8_ask_114 : decode cX8_ask 114 = .ok (.iload 8, 2) := by decide +kernel
theorem dX8_ask_116 : decode cX8_ask 116 = .ok (.goto 5, 3) := by decide +kernel
theorem dX8_ask_119 : decode cX8_ask 119 = .ok (.iload 6, 2) := by decide +kernel
theorem dX8_ask_121 : decode cX8_ask 121 = .ok (.istore 6, 2) := by decide +kernel
theorem dX8_ask_123 : decode cX8_ask 123 = .ok (.iinc 7 1, 3) := by decide +kernel
theorem dX8_ask_126 : decode cX8_ask 126 = .ok (.goto (-80), 3) := by decide +kernel
theorem dX8_ask_129 : decode cX8_ask 129 = .ok (.iload_n 3, 1) := by decide +kernel
theorem dX8_ask_130 : decode cX8_ask 130 = .ok (.ifCond .lt 10, 3) := by decide +kernel
theorem dX8_ask_133 : decode cX8_ask 133 = .ok (.iload 6, 2) := by decide +kernel
theorem dX8_ask_135 : decode cX8_ask 135 = .ok (.iload 4, 2) := by decide +kernel
theorem dX8_ask_137 : decode cX8_ask 137 = .ok (.if_icmp .ge 8, 3) := by decide +kernel
theorem dX8_ask_140 : decode cX8_ask 140 = .ok (.iload 5, 2) := by decide +kernel
theorem dX8_ask_142 : decode cX8_ask 142 = .ok (.goto 4, 3) := by decide +kernel
theorem dX8_ask_145 : decode cX8_ask 145 = .ok (.iload_n 3, 1) := by decide +kernel
theorem dX8_ask_146 : decode cX8_ask 146 = .ok (.istore_n 3, 1) := by decide +kernel
theorem dX8_ask_147 : decode cX8_ask 147 = .ok (.iload_n 3, 1) := by decide +kernel
theorem dX8_ask_148 : decode cX8_ask 148 = .ok (.iload 5, 2) := by decide +kernel
theorem dX8_ask_150 : decode cX8_ask 150 = .ok (.if_icmp .ne 8, 3) := by decide +kernel
theorem dX8_ask_153 : decode cX8_ask 153 = .ok (.iload 6, 2) := by decide +kernel
theorem dX8_ask_155 : decode cX8_ask 155 = .ok (.goto 5, 3) := by decide +kernel
theorem dX8_ask_158 : decode cX8_ask 158 = .ok (.iload 4, 2) := by decide +kernel
theorem dX8_ask_160 : decode cX8_ask 160 = .ok (.istore 4, 2) := by decide +kernel
theorem dX8_ask_162 : decode cX8_ask 162 = .ok (.iinc 5 1, 3) := by decide +kernel
theorem dX8_ask_165 : decode cX8_ask 165 = .ok (.goto (-138), 3) := by decide +kernel
theorem dX8_ask_168 : decode cX8_ask 168 = .ok (.iload_n 1, 1) := by decide +kernel
theorem dX8_ask_169 : decode cX8_ask 169 = .ok (.ifCond .ne 7, 3) := by decide +kernel
theorem dX8_ask_172 : decode cX8_ask 172 = .ok (.iload_n 3, 1) := by decide +kernel
theorem dX8_ask_173 : decode cX8_ask 173 = .ok (.goto 5, 3) := by decide +kernel
theorem dX8_ask_176 : decode cX8_ask 176 = .ok (.iload 4, 2) := by decide +kernel
theorem dX8_ask_178 : decode cX8_ask 178 = .ok (.ireturn, 1) := by decide +kernel
theorem dX8_holds_0 : decode cX8_holds 0 = .ok (.aload_n 0, 1) := by decide +kernel
theorem dX8_holds_1 : decode cX8_holds 1 = .ok (.getfield 7, 3) := by decide +kernel
theorem dX8_holds_4 : decode cX8_holds 4 = .ok (.iconst 5, 1) := by decide +kernel
theorem dX8_holds_5 : decode cX8_holds 5 = .ok (.iload_n 2, 1) := by decide +kernel
theorem dX8_holds_6 : decode cX8_holds 6 = .ok (.imul, 1) := by decide +kernel
theorem dX8_holds_7 : decode cX8_holds 7 = .ok (.iaload, 1) := by decide +kernel
theorem dX8_holds_8 : decode cX8_holds 8 = .ok (.iload_n 1, 1) := by decide +kernel
theorem dX8_holds_9 : decode cX8_holds 9 = .ok (.iand, 1) := by decide +kernel
theorem dX8_holds_10 : decode cX8_holds 10 = .ok (.iload_n 1, 1) := by decide +kernel
theorem dX8_holds_11 : decode cX8_holds 11 = .ok (.if_icmp .ne 7, 3) := by decide +kernel
theorem dX8_holds_14 : decode cX8_holds 14 = .ok (.iconst 1, 1) := by decide +kernel
theorem dX8_holds_15 : decode cX8_holds 15 = .ok (.goto 4, 3) := by decide +kernel
theorem dX8_holds_18 : decode cX8_holds 18 = .ok (.iconst 0, 1) := by decide +kernel
theorem dX8_holds_19 : decode cX8_holds 19 = .ok (.ireturn, 1) := by decide +kernel
theorem dX8_rule_0 : decode cX8_rule 0 = .ok (.iload_n 1, 1) := by decide +kernel
theorem dX8_rule_1 : decode cX8_rule 1 = .ok (.invokestatic 103, 3) := by decide +kernel
theorem dX8_rule_4 : decode cX8_rule 4 = .ok (.ifCond .ne 5, 3) := by decide +kernel
theorem dX8_rule_7 : decode cX8_rule 7 = .ok (.iconst (-1), 1) := by decide +kernel
theorem dX8_rule_8 : decode cX8_rule 8 = .ok (.ireturn, 1) := by decide +kernel
theorem dX8_rule_9 : decode cX8_rule 9 = .ok (.bipush (-4), 2) := by decide +kernel
theorem dX8_rule_11 : decode cX8_rule 11 = .ok (.istore_n 2, 1) := by decide +kernel
theorem dX8_rule_12 : decode cX8_rule 12 = .ok (.iconst 0, 1) := by decide +kernel
theorem dX8_rule_13 : decode cX8_rule 13 = .ok (.istore_n 3, 1) := by decide +kernel
theorem dX8_rule_14 : decode cX8_rule 14 = .ok (.iload_n 3, 1) := by decide +kernel
theorem dX8_rule_15 : decode cX8_rule 15 = .ok (.bipush 32, 2) := by decide +kernel
theorem dX8_rule_17 : decode cX8_rule 17 = .ok (.if_icmp .ge 98, 3) := by decide +kernel
theorem dX8_rule_20 : decode cX8_rule 20 = .ok (.iconst 1, 1) := by decide +kernel
theorem dX8_rule_21 : decode cX8_rule 21 = .ok (.istore 4, 2) := by decide +kernel
theorem dX8_rule_23 : decode cX8_rule 23 = .ok (.iconst 0, 1) := by decide +kernel
theorem dX8_rule_24 : decode cX8_rule 24 = .ok (.istore 5, 2) := by decide +kernel
theorem dX8_rule_26 : decode cX8_rule 26 = .ok (.iload 5, 2) := by decide +kernel
theorem dX8_rule_28 : decode cX8_rule 28 = .ok (.aload_n 0, 1) := by decide +kernel
theorem dX8_rule_29 : decode cX8_rule 29 = .ok (.getfield 75, 3) := by decide +kernel
theorem dX8_rule_32 : decode cX8_rule 32 = .ok (.if_icmp .ge 51, 3) := by decide +kernel
theorem dX8_rule_35 : decode cX8_rule 35 = .ok (.iload 4, 2) := by decide +kernel
theorem dX8_rule_37 : decode cX8_rule 37 = .ok (.ifCond .eq 37, 3) := by decide +kernel
theorem dX8_rule_40 : decode cX8_rule 40 = .ok (.aload_n 0, 1) := by decide +kernel
theorem dX8_rule_41 : decode cX8_rule 41 = .ok (.iload_n 3, 1) := by decide +kernel
theorem dX8_rule_42 : decode cX8_rule 42 = .ok (.iload 5, 2) := by decide +kernel
theorem dX8_rule_44 : decode cX8_rule 44 = .ok (.invokevirtual 220, 3) := by decide +kernel
theorem dX8_rule_47 : decode cX8_rule 47 = .ok (.aload_n 0, 1) := by decide +kernel
theorem dX8_rule_48 : decode cX8_rule 48 = .ok (.getfield 7, 3) := by decide +kernel
theorem dX8_rule_51 : decode cX8_rule 51 = .ok (.iconst 5, 1) := by decide +kernel
theorem dX8_rule_52 : decode cX8_rule 52 = .ok (.iload 5, 2) := by decide +kernel
theorem dX8_rule_54 : decode cX8_rule 54 = .ok (.imul, 1) := by decide +kernel
theorem dX8_rule_55 : decode cX8_rule 55 = .ok (.iconst 1, 1) := by decide +kernel
theorem dX8_rule_56 : decode cX8_rule 56 = .ok (.iadd, 1) := by decide +kernel
theorem dX8_rule_57 : decode cX8_rule 57 = .ok (.iaload, 1) := by decide +kernel
theorem dX8_rule_58 : decode cX8_rule 58 = .ok (.iload_n 1, 1) := by decide +kernel
theorem dX8_rule_59 : decode cX8_rule 59 = .ok (.if_icmp .ne 7, 3) := by decide +kernel
theorem dX8_rule_62 : decode cX8_rule 62 = .ok (.iconst 1, 1) := by decide +kernel
theorem dX8_rule_63 : decode cX8_rule 63 = .ok (.goto 4, 3) := by decide +kernel
theorem dX8_rule_66 : decode cX8_rule 66 = .ok (.iconst 0, 1) := by decide +kernel
theorem dX8_rule_67 : decode cX8_rule 67 = .ok (.if_icmp .ne 7, 3) := by decide +kernel
theorem dX8_rule_70 : decode cX8_rule 70 = .ok (.iconst 1, 1) := by decide +kernel
theorem dX8_rule_71 : decode cX8_rule 71 = .ok (.goto 4, 3) := by decide +kernel
theorem dX8_rule_74 : decode cX8_rule 74 = .ok (.iconst 0, 1) := by decide +kernel
theorem dX8_rule_75 : decode cX8_rule 75 = .ok (.istore 4, 2) := by decide +kernel
theorem dX8_rule_77 : decode cX8_rule 77 = .ok (.iinc 5 1, 3) := by decide +kernel
theorem dX8_rule_80 : decode cX8_rule 80 = .ok (.goto (-54), 3) := by decide +kernel
theorem dX8_rule_83 : decode cX8_rule 83 = .ok (.iload 4, 2) := by decide +kernel
theorem dX8_rule_85 : decode cX8_rule 85 = .ok (.ifCond .eq 22, 3) := by decide +kernel
theorem dX8_rule_88 : decode cX8_rule 88 = .ok (.iload_n 2, 1) := by decide +kernel
theorem dX8_rule_89 : decode cX8_rule 89 = .ok (.ifCond .lt 14, 3) := by decide +kernel
theorem dX8_rule_92 : decode cX8_rule 92 = .ok (.iload_n 3, 1) := by decide +kernel
theorem dX8_rule_93 : decode cX8_rule 93 = .ok (.invokestatic 154, 3) := by decide +kernel
theorem dX8_rule_96 : decode cX8_rule 96 = .ok (.iload_n 2, 1) := by decide +kernel
theorem dX8_rule_97 : decode cX8_rule 97 = .ok (.invokestatic 154, 3) := by decide +kernel
theorem dX8_rule_100 : decode cX8_rule 100 = .ok (.if_icmp .ge 7, 3) := by decide +kernel
theorem dX8_rule_103 : decode cX8_rule 103 = .ok (.iload_n 3, 1) := by decide +kernel
theorem dX8_rule_104 : decode cX8_rule 104 = .ok (.goto 4, 3) := by decide +kernel
theorem dX8_rule_107 : decode cX8_rule 107 = .ok (.iload_n 2, 1) := by decide +kernel
theorem dX8_rule_108 : decode cX8_rule 108 = .ok (.istore_n 2, 1) := by decide +kernel
theorem dX8_rule_109 : decode cX8_rule 109 = .ok (.iinc 3 1, 3) := by decide +kernel
theorem dX8_rule_112 : decode cX8_rule 112 = .ok (.goto (-98), 3) := by decide +kernel
theorem dX8_rule_115 : decode cX8_rule 115 = .ok (.iload_n 2, 1) := by decide +kernel
theorem dX8_rule_116 : decode cX8_rule 116 = .ok (.ireturn, 1) := by decide +kernel
theorem dX8_wrong_0 : decode cX8_wrong 0 = .ok (.iload_n 1, 1) := by decide +kernel
theorem dX8_wrong_1 : decode cX8_wrong 1 = .ok (.invokestatic 103, 3) := by decide +kernel
theorem dX8_wrong_4 : decode cX8_wrong 4 = .ok (.ifCond .eq 15, 3) := by decide +kernel
theorem dX8_wrong_7 : decode cX8_wrong 7 = .ok (.iload_n 2, 1) := by decide +kernel
theorem dX8_wrong_8 : decode cX8_wrong 8 = .ok (.i2l, 1) := by decide +kernel
theorem dX8_wrong_9 : decode cX8_wrong 9 = .ok (.lconst 0, 1) := by decide +kernel
theorem dX8_wrong_10 : decode cX8_wrong 10 = .ok (.ldc2_w 101, 3) := by decide +kernel
theorem dX8_wrong_13 : decode cX8_wrong 13 = .ok (.invokestatic 78, 3) := by decide +kernel
theorem dX8_wrong_16 : decode cX8_wrong 16 = .ok (.ifCond .ne 5, 3) := by decide +kernel
theorem dX8_wrong_19 : decode cX8_wrong 19 = .ok (.iconst (-1), 1) := by decide +kernel
theorem dX8_wrong_20 : decode cX8_wrong 20 = .ok (.ireturn, 1) := by decide +kernel
theorem dX8_wrong_21 : decode cX8_wrong 21 = .ok (.bipush (-4), 2) := by decide +kernel
theorem dX8_wrong_23 : decode cX8_wrong 23 = .ok (.istore 4, 2) := by decide +kernel
theorem dX8_wrong_25 : decode cX8_wrong 25 = .ok (.aload_n 0, 1) := by decide +kernel
theorem dX8_wrong_26 : decode cX8_wrong 26 = .ok (.getfield 75, 3) := by decide +kernel
theorem dX8_wrong_29 : decode cX8_wrong 29 = .ok (.iconst 1, 1) := by decide +kernel
theorem dX8_wrong_30 : decode cX8_wrong 30 = .ok (.isub, 1) := by decide +kernel
theorem dX8_wrong_31 : decode cX8_wrong 31 = .ok (.istore 5, 2) := by decide +kernel
theorem dX8_wrong_33 : decode cX8_wrong 33 = .ok (.iload 5, 2) := by decide +kernel
theorem dX8_wrong_35 : decode cX8_wrong 35 = .ok (.ifCond .lt 94, 3) := by decide +kernel
theorem dX8_wrong_38 : decode cX8_wrong 38 = .ok (.aload_n 0, 1) := by decide +kernel
theorem dX8_wrong_39 : decode cX8_wrong 39 = .ok (.getfield 7, 3) := by decide +kernel
theorem dX8_wrong_42 : decode cX8_wrong 42 = .ok (.iconst 5, 1) := by decide +kernel
theorem dX8_wrong_43 : decode cX8_wrong 43 = .ok (.iload 5, 2) := by decide +kernel
theorem dX8_wrong_45 : decode cX8_wrong 45 = .ok (.imul, 1) := by decide +kernel
theorem dX8_wrong_46 : decode cX8_wrong 46 = .ok (.iconst 1, 1) := by decide +kernel
theorem dX8_wrong_47 : decode cX8_wrong 47 = .ok (.iadd, 1) := by decide +kernel
theorem dX8_wrong_48 : decode cX8_wrong 48 = .ok (.iaload, 1) := by decide +kernel
theorem dX8_wrong_49 : decode cX8_wrong 49 = .ok (.iload_n 1, 1) := by decide +kernel
theorem dX8_wrong_50 : decode cX8_wrong 50 = .ok (.if_icmp .ne 7, 3) := by decide +kernel
theorem dX8_wrong_53 : decode cX8_wrong 53 = .ok (.iconst 1, 1) := by decide +kernel
theorem dX8_wrong_54 : decode cX8_wrong 54 = .ok (.goto 4, 3) := by decide +kernel
theorem dX8_wrong_57 : decode cX8_wrong 57 = .ok (.iconst 0, 1) := by decide +kernel
theorem dX8_wrong_58 : decode cX8_wrong 58 = .ok (.istore 6, 2) := by decide +kernel
theorem dX8_wrong_60 : decode cX8_wrong 60 = .ok (.iload_n 3, 1) := by decide +kernel
theorem dX8_wrong_61 : decode cX8_wrong 61 = .ok (.ifCond .eq 26, 3) := by decide +kernel
theorem dX8_wrong_64 : decode cX8_wrong 64 = .ok (.iload 6, 2) := by decide +kernel
theorem dX8_wrong_66 : decode cX8_wrong 66 = .ok (.ifCond .eq 17, 3) := by decide +kernel
theorem dX8_wrong_69 : decode cX8_wrong 69 = .ok (.aload_n 0, 1) := by decide +kernel
theorem dX8_wrong_70 : decode cX8_wrong 70 = .ok (.iload_n 2, 1) := by decide +kernel
theorem dX8_wrong_71 : decode cX8_wrong 71 = .ok (.iload 5, 2) := by decide +kernel
theorem dX8_wrong_73 : decode cX8_wrong 73 = .ok (.invokevirtual 220, 3) := by decide +kernel
theorem dX8_wrong_76 : decode cX8_wrong 76 = .ok (.ifCond .ne 7, 3) := by decide +kernel
theorem dX8_wrong_79 : decode cX8_wrong 79 = .ok (.iconst 1, 1) := by decide +kernel
theorem dX8_wrong_80 : decode cX8_wrong 80 = .ok (.goto 27, 3) := by decide +kernel
theorem dX8_wrong_83 : decode cX8_wrong 83 = .ok (.iconst 0, 1) := by decide +kernel
theorem dX8_wrong_84 : decode cX8_wrong 84 = .ok (.goto 23, 3) := by decide +kernel
theorem dX8_wrong_87 : decode cX8_wrong 87 = .ok (.iload 6, 2) := by decide +kernel
theorem dX8_wrong_89 : decode cX8_wrong 89 = .ok (.ifCond .ne 17, 3) := by decide +kernel
theorem dX8_wrong_92 : decode cX8_wrong 92 = .ok (.aload_n 0, 1) := by decide +kernel
theorem dX8_wrong_93 : decode cX8_wrong 93 = .ok (.iload_n 2, 1) := by decide +kernel
theorem dX8_wrong_94 : decode cX8_wrong 94 = .ok (.iload 5, 2) := by decide +kernel
theorem dX8_wrong_96 : decode cX8_wrong 96 = .ok (.invokevirtual 220, 3) := by decide +kernel
theorem dX8_wrong_99 : decode cX8_wrong 99 = .ok (.ifCond .eq 7, 3) := by decide +kernel
theorem dX8_wrong_102 : decode cX8_wrong 102 = .ok (.iconst 1, 1) := by decide +kernel
theorem dX8_wrong_103 : decode cX8_wrong 103 = .ok (.goto 4, 3) := by decide +kernel
theorem dX8_wrong_106 : decode cX8_wrong 106 = .ok (.iconst 0, 1) := by decide +kernel
theorem dX8_wrong_107 : decode cX8_wrong 107 = .ok (.istore 7, 2) := by decide +kernel
theorem dX8_wrong_109 : decode cX8_wrong 109 = .ok (.iload 7, 2) := by decide +kernel
theorem dX8_wrong_111 : decode cX8_wrong 111 = .ok (.ifCond .eq 8, 3) := by decide +kernel
theorem dX8_wrong_114 : decode cX8_wrong 114 = .ok (.iload 5, 2) := by decide +kernel
theorem dX8_wrong_116 : decode cX8_wrong 116 = .ok (.goto 5, 3) := by decide +kernel
theorem dX8_wrong_119 : decode cX8_wrong 119 = .ok (.iload 4, 2) := by decide +kernel
theorem dX8_wrong_121 : decode cX8_wrong 121 = .ok (.istore 4, 2) := by decide +kernel
theorem dX8_wrong_123 : decode cX8_wrong 123 = .ok (.iinc 5 (-1), 3) := by decide +kernel
theorem dX8_wrong_126 : decode cX8_wrong 126 = .ok (.goto (-93), 3) := by decide +kernel
theorem dX8_wrong_129 : decode cX8_wrong 129 = .ok (.iload 4, 2) := by decide +kernel
theorem dX8_wrong_131 : decode cX8_wrong 131 = .ok (.ireturn, 1) := by decide +kernel
theorem dX8_copyTo_0 : decode cX8_copyTo 0 = .ok (.iconst 0, 1) := by decide +kernel
theorem dX8_copyTo_1 : decode cX8_copyTo 1 = .ok (.istore_n 3, 1) := by decide +kernel
theorem dX8_copyTo_2 : decode cX8_copyTo 2 = .ok (.iload_n 3, 1) := by decide +kernel
theorem dX8_copyTo_3 : decode cX8_copyTo 3 = .ok (.bipush 50, 2) := by decide +kernel
theorem dX8_copyTo_5 : decode cX8_copyTo 5 = .ok (.if_icmp .ge 15, 3) := by decide +kernel
theorem dX8_copyTo_8 : decode cX8_copyTo 8 = .ok (.aload_n 1, 1) := by decide +kernel
theorem dX8_copyTo_9 : decode cX8_copyTo 9 = .ok (.iload_n 3, 1) := by decide +kernel
theorem dX8_copyTo_10 : decode cX8_copyTo 10 = .ok (.aload_n 2, 1) := by decide +kernel
theorem dX8_copyTo_11 : decode cX8_copyTo 11 = .ok (.iload_n 3, 1) := by decide +kernel
theorem dX8_copyTo_12 : decode cX8_copyTo 12 = .ok (.iaload, 1) := by decide +kernel
theorem dX8_copyTo_13 : decode cX8_copyTo 13 = .ok (.iastore, 1) := by decide +kernel
theorem dX8_copyTo_14 : decode cX8_copyTo 14 = .ok (.iinc 3 1, 3) := by decide +kernel
theorem dX8_copyTo_17 : decode cX8_copyTo 17 = .ok (.goto (-15), 3) := by decide +kernel
theorem dX8_copyTo_20 : decode cX8_copyTo 20 = .ok (.return_, 1) := by decide +kernel
theorem dX8_worstDay_0 : decode cX8_worstDay 0 = .ok (.iconst 0, 1) := by decide +kernel
theorem dX8_worstDay_1 : decode cX8_worstDay 1 = .ok (.istore_n 1, 1) := by decide +kernel
theorem dX8_worstDay_2 : decode cX8_worstDay 2 = .ok (.iconst 0, 1) := by decide +kernel
theorem dX8_worstDay_3 : decode cX8_worstDay 3 = .ok (.istore_n 2, 1) := by decide +kernel
theorem dX8_worstDay_4 : decode cX8_worstDay 4 = .ok (.iload_n 2, 1) := by decide +kernel
theorem dX8_worstDay_5 : decode cX8_worstDay 5 = .ok (.aload_n 0, 1) := by decide +kernel
theorem dX8_worstDay_6 : decode cX8_worstDay 6 = .ok (.getfield 75, 3) := by decide +kernel
theorem dX8_worstDay_9 : decode cX8_worstDay 9 = .ok (.if_icmp .ge 62, 3) := by decide +kernel
theorem dX8_worstDay_12 : decode cX8_worstDay 12 = .ok (.aload_n 0, 1) := by decide +kernel
theorem dX8_worstDay_13 : decode cX8_worstDay 13 = .ok (.aload_n 0, 1) := by decide +kernel
theorem dX8_worstDay_14 : decode cX8_worstDay 14 = .ok (.getfield 136, 3) := by decide +kernel
theorem dX8_worstDay_17 : decode cX8_worstDay 17 = .ok (.aload_n 0, 1) := by decide +kernel
theorem dX8_worstDay_18 : decode cX8_worstDay 18 = .ok (.getfield 139, 3) := by decide +kernel
theorem dX8_worstDay_21 : decode cX8_worstDay 21 = .ok (.iload_n 2, 1) := by decide +kernel
theorem dX8_worstDay_22 : decode cX8_worstDay 22 = .ok (.invokevirtual 166, 3) := by decide +kernel
theorem dX8_worstDay_25 : decode cX8_worstDay 25 = .ok (.istore_n 3, 1) := by decide +kernel
theorem dX8_worstDay_26 : decode cX8_worstDay 26 = .ok (.aload_n 0, 1) := by decide +kernel
theorem dX8_worstDay_27 : decode cX8_worstDay 27 = .ok (.iload_n 2, 1) := by decide +kernel
theorem dX8_worstDay_28 : decode cX8_worstDay 28 = .ok (.iload_n 3, 1) := by decide +kernel
theorem dX8_worstDay_29 : decode cX8_worstDay 29 = .ok (.invokevirtual 173, 3) := by decide +kernel
theorem dX8_worstDay_32 : decode cX8_worstDay 32 = .ok (.iconst 1, 1) := by decide +kernel
theorem dX8_worstDay_33 : decode cX8_worstDay 33 = .ok (.if_icmp .ne 16, 3) := by decide +kernel
theorem dX8_worstDay_36 : decode cX8_worstDay 36 = .ok (.aload_n 0, 1) := by decide +kernel
theorem dX8_worstDay_37 : decode cX8_worstDay 37 = .ok (.getfield 7, 3) := by decide +kernel
theorem dX8_worstDay_40 : decode cX8_worstDay 40 = .ok (.iconst 5, 1) := by decide +kernel
theorem dX8_worstDay_41 : decode cX8_worstDay 41 = .ok (.iload_n 2, 1) := by decide +kernel
theorem dX8_worstDay_42 : decode cX8_worstDay 42 = .ok (.imul, 1) := by decide +kernel
theorem dX8_worstDay_43 : decode cX8_worstDay 43 = .ok (.iconst 3, 1) := by decide +kernel
theorem dX8_worstDay_44 : decode cX8_worstDay 44 = .ok (.iadd, 1) := by decide +kernel
theorem dX8_worstDay_45 : decode cX8_worstDay 45 = .ok (.iaload, 1) := by decide +kernel
theorem dX8_worstDay_46 : decode cX8_worstDay 46 = .ok (.goto 4, 3) := by decide +kernel
theorem dX8_worstDay_49 : decode cX8_worstDay 49 = .ok (.iconst 0, 1) := by decide +kernel
theorem dX8_worstDay_50 : decode cX8_worstDay 50 = .ok (.istore 4, 2) := by decide +kernel
theorem dX8_worstDay_52 : decode cX8_worstDay 52 = .ok (.iload 4, 2) := by decide +kernel
theorem dX8_worstDay_54 : decode cX8_worstDay 54 = .ok (.iload_n 1, 1) := by decide +kernel
theorem dX8_worstDay_55 : decode cX8_worstDay 55 = .ok (.if_icmp .le 8, 3) := by decide +kernel
theorem dX8_worstDay_58 : decode cX8_worstDay 58 = .ok (.iload 4, 2) := by decide +kernel
theorem dX8_worstDay_60 : decode cX8_worstDay 60 = .ok (.goto 4, 3) := by decide +kernel
theorem dX8_worstDay_63 : decode cX8_worstDay 63 = .ok (.iload_n 1, 1) := by decide +kernel
theorem dX8_worstDay_64 : decode cX8_worstDay 64 = .ok (.istore_n 1, 1) := by decide +kernel
theorem dX8_worstDay_65 : decode cX8_worstDay 65 = .ok (.iinc 2 1, 3) := by decide +kernel
theorem dX8_worstDay_68 : decode cX8_worstDay 68 = .ok (.goto (-64), 3) := by decide +kernel
theorem dX8_worstDay_71 : decode cX8_worstDay 71 = .ok (.iload_n 1, 1) := by decide +kernel
theorem dX8_worstDay_72 : decode cX8_worstDay 72 = .ok (.ireturn, 1) := by decide +kernel
theorem dX8_oneRound_0 : decode cX8_oneRound 0 = .ok (.aload_n 0, 1) := by decide +kernel
theorem dX8_oneRound_1 : decode cX8_oneRound 1 = .ok (.aload_n 0, 1) := by decide +kernel
theorem dX8_oneRound_2 : decode cX8_oneRound 2 = .ok (.getfield 61, 3) := by decide +kernel
theorem dX8_oneRound_5 : decode cX8_oneRound 5 = .ok (.aload_n 0, 1) := by decide +kernel
theorem dX8_oneRound_6 : decode cX8_oneRound 6 = .ok (.getfield 16, 3) := by decide +kernel
theorem dX8_oneRound_9 : decode cX8_oneRound 9 = .ok (.invokevirtual 223, 3) := by decide +kernel
theorem dX8_oneRound_12 : decode cX8_oneRound 12 = .ok (.aload_n 0, 1) := by decide +kernel
theorem dX8_oneRound_13 : decode cX8_oneRound 13 = .ok (.invokevirtual 227, 3) := by decide +kernel
theorem dX8_oneRound_16 : decode cX8_oneRound 16 = .ok (.istore_n 1, 1) := by decide +kernel
theorem dX8_oneRound_17 : decode cX8_oneRound 17 = .ok (.iconst 0, 1) := by decide +kernel
theorem dX8_oneRound_18 : decode cX8_oneRound 18 = .ok (.istore_n 2, 1) := by decide +kernel
theorem dX8_oneRound_19 : decode cX8_oneRound 19 = .ok (.iload_n 2, 1) := by decide +kernel
theorem dX8_oneRound_20 : decode cX8_oneRound 20 = .ok (.bipush 6, 2) := by decide +kernel
theorem dX8_oneRound_22 : decode cX8_oneRound 22 = .ok (.aload_n 0, 1) := by decide +kernel
theorem dX8_oneRound_23 : decode cX8_oneRound 23 = .ok (.getfield 75, 3) := by decide +kernel
theorem dX8_oneRound_26 : decode cX8_oneRound 26 = .ok (.imul, 1) := by decide +kernel
theorem dX8_oneRound_27 : decode cX8_oneRound 27 = .ok (.if_icmp .ge 53, 3) := by decide +kernel
theorem dX8_oneRound_30 : decode cX8_oneRound 30 = .ok (.iload_n 1, 1) := by decide +kernel
theorem dX8_oneRound_31 : decode cX8_oneRound 31 = .ok (.ifCond .le 49, 3) := by decide +kernel
theorem dX8_oneRound_34 : decode cX8_oneRound 34 = .ok (.aload_n 0, 1) := by decide +kernel
theorem dX8_oneRound_35 : decode cX8_oneRound 35 = .ok (.iload_n 2, 1) := by decide +kernel
theorem dX8_oneRound_36 : decode cX8_oneRound 36 = .ok (.bipush 6, 2) := by decide +kernel
theorem dX8_oneRound_38 : decode cX8_oneRound 38 = .ok (.idiv, 1) := by decide +kernel
theorem dX8_oneRound_39 : decode cX8_oneRound 39 = .ok (.iload_n 2, 1) := by decide +kernel
theorem dX8_oneRound_40 : decode cX8_oneRound 40 = .ok (.bipush 6, 2) := by decide +kernel
theorem dX8_oneRound_42 : decode cX8_oneRound 42 = .ok (.irem, 1) := by decide +kernel
theorem dX8_oneRound_43 : decode cX8_oneRound 43 = .ok (.invokevirtual 176, 3) := by decide +kernel
theorem dX8_oneRound_46 : decode cX8_oneRound 46 = .ok (.aload_n 0, 1) := by decide +kernel
theorem dX8_oneRound_47 : decode cX8_oneRound 47 = .ok (.invokevirtual 227, 3) := by decide +kernel
theorem dX8_oneRound_50 : decode cX8_oneRound 50 = .ok (.istore_n 3, 1) := by decide +kernel
theorem dX8_oneRound_51 : decode cX8_oneRound 51 = .ok (.iload_n 3, 1) := by decide +kernel
theorem dX8_oneRound_52 : decode cX8_oneRound 52 = .ok (.iload_n 1, 1) := by decide +kernel
theorem dX8_oneRound_53 : decode cX8_oneRound 53 = .ok (.if_icmp .ge 7, 3) := by decide +kernel
theorem dX8_oneRound_56 : decode cX8_oneRound 56 = .ok (.iload_n 3, 1) := by decide +kernel
theorem dX8_oneRound_57 : decode cX8_oneRound 57 = .ok (.goto 4, 3) := by decide +kernel
theorem dX8_oneRound_60 : decode cX8_oneRound 60 = .ok (.iload_n 1, 1) := by decide +kernel
theorem dX8_oneRound_61 : decode cX8_oneRound 61 = .ok (.istore_n 1, 1) := by decide +kernel
theorem dX8_oneRound_62 : decode cX8_oneRound 62 = .ok (.aload_n 0, 1) := by decide +kernel
theorem dX8_oneRound_63 : decode cX8_oneRound 63 = .ok (.aload_n 0, 1) := by decide +kernel
theorem dX8_oneRound_64 : decode cX8_oneRound 64 = .ok (.getfield 16, 3) := by decide +kernel
theorem dX8_oneRound_67 : decode cX8_oneRound 67 = .ok (.aload_n 0, 1) := by decide +kernel
theorem dX8_oneRound_68 : decode cX8_oneRound 68 = .ok (.getfield 61, 3) := by decide +kernel
theorem dX8_oneRound_71 : decode cX8_oneRound 71 = .ok (.invokevirtual 223, 3) := by decide +kernel
theorem dX8_oneRound_74 : decode cX8_oneRound 74 = .ok (.iinc 2 1, 3) := by decide +kernel
theorem dX8_oneRound_77 : decode cX8_oneRound 77 = .ok (.goto (-58), 3) := by decide +kernel
theorem dX8_oneRound_80 : decode cX8_oneRound 80 = .ok (.iload_n 1, 1) := by decide +kernel
theorem dX8_oneRound_81 : decode cX8_oneRound 81 = .ok (.ireturn, 1) := by decide +kernel
theorem dX8_worstTwo_0 : decode cX8_worstTwo 0 = .ok (.aload_n 0, 1) := by decide +kernel
theorem dX8_worstTwo_1 : decode cX8_worstTwo 1 = .ok (.invokevirtual 188, 3) := by decide +kernel
theorem dX8_worstTwo_4 : decode cX8_worstTwo 4 = .ok (.iconst 0, 1) := by decide +kernel
theorem dX8_worstTwo_5 : decode cX8_worstTwo 5 = .ok (.istore_n 1, 1) := by decide +kernel
theorem dX8_worstTwo_6 : decode cX8_worstTwo 6 = .ok (.iconst 0, 1) := by decide +kernel
theorem dX8_worstTwo_7 : decode cX8_worstTwo 7 = .ok (.istore_n 2, 1) := by decide +kernel
theorem dX8_worstTwo_8 : decode cX8_worstTwo 8 = .ok (.iload_n 2, 1) := by decide +kernel
theorem dX8_worstTwo_9 : decode cX8_worstTwo 9 = .ok (.aload_n 0, 1) := by decide +kernel
theorem dX8_worstTwo_10 : decode cX8_worstTwo 10 = .ok (.getfield 75, 3) := by decide +kernel
theorem dX8_worstTwo_13 : decode cX8_worstTwo 13 = .ok (.if_icmp .ge 68, 3) := by decide +kernel
theorem dX8_worstTwo_16 : decode cX8_worstTwo 16 = .ok (.aload_n 0, 1) := by decide +kernel
theorem dX8_worstTwo_17 : decode cX8_worstTwo 17 = .ok (.getfield 16, 3) := by decide +kernel
theorem dX8_worstTwo_20 : decode cX8_worstTwo 20 = .ok (.bipush 42, 2) := by decide +kernel
theorem dX8_worstTwo_22 : decode cX8_worstTwo 22 = .ok (.iaload, 1) := by decide +kernel
theorem dX8_worstTwo_23 : decode cX8_worstTwo 23 = .ok (.istore_n 3, 1) := by decide +kernel
theorem dX8_worstTwo_24 : decode cX8_worstTwo 24 = .ok (.aload_n 0, 1) := by decide +kernel
theorem dX8_worstTwo_25 : decode cX8_worstTwo 25 = .ok (.aload_n 0, 1) := by decide +kernel
theorem dX8_worstTwo_26 : decode cX8_worstTwo 26 = .ok (.getfield 136, 3) := by decide +kernel
theorem dX8_worstTwo_29 : decode cX8_worstTwo 29 = .ok (.aload_n 0, 1) := by decide +kernel
theorem dX8_worstTwo_30 : decode cX8_worstTwo 30 = .ok (.getfield 139, 3) := by decide +kernel
theorem dX8_worstTwo_33 : decode cX8_worstTwo 33 = .ok (.iload_n 2, 1) := by decide +kernel
theorem dX8_worstTwo_34 : decode cX8_worstTwo 34 = .ok (.invokevirtual 185, 3) := by decide +kernel
theorem dX8_worstTwo_37 : decode cX8_worstTwo 37 = .ok (.pop, 1) := by decide +kernel
theorem dX8_worstTwo_38 : decode cX8_worstTwo 38 = .ok (.aload_n 0, 1) := by decide +kernel
theorem dX8_worstTwo_39 : decode cX8_worstTwo 39 = .ok (.getfield 16, 3) := by decide +kernel
theorem dX8_worstTwo_42 : decode cX8_worstTwo 42 = .ok (.bipush 42, 2) := by decide +kernel
theorem dX8_worstTwo_44 : decode cX8_worstTwo 44 = .ok (.iaload, 1) := by decide +kernel
theorem dX8_worstTwo_45 : decode cX8_worstTwo 45 = .ok (.iload_n 3, 1) := by decide +kernel
theorem dX8_worstTwo_46 : decode cX8_worstTwo 46 = .ok (.isub, 1) := by decide +kernel
theorem dX8_worstTwo_47 : decode cX8_worstTwo 47 = .ok (.istore 4, 2) := by decide +kernel
theorem dX8_worstTwo_49 : decode cX8_worstTwo 49 = .ok (.iload 4, 2) := by decide +kernel
theorem dX8_worstTwo_51 : decode cX8_worstTwo 51 = .ok (.aload_n 0, 1) := by decide +kernel
theorem dX8_worstTwo_52 : decode cX8_worstTwo 52 = .ok (.invokevirtual 230, 3) := by decide +kernel
theorem dX8_worstTwo_55 : decode cX8_worstTwo 55 = .ok (.iadd, 1) := by decide +kernel
theorem dX8_worstTwo_56 : decode cX8_worstTwo 56 = .ok (.istore 4, 2) := by decide +kernel
theorem dX8_worstTwo_58 : decode cX8_worstTwo 58 = .ok (.aload_n 0, 1) := by decide +kernel
theorem dX8_worstTwo_59 : decode cX8_worstTwo 59 = .ok (.invokevirtual 194, 3) := by decide +kernel
theorem dX8_worstTwo_62 : decode cX8_worstTwo 62 = .ok (.iload 4, 2) := by decide +kernel
theorem dX8_worstTwo_64 : decode cX8_worstTwo 64 = .ok (.iload_n 1, 1) := by decide +kernel
theorem dX8_worstTwo_65 : decode cX8_worstTwo 65 = .ok (.if_icmp .le 8, 3) := by decide +kernel
theorem dX8_worstTwo_68 : decode cX8_worstTwo 68 = .ok (.iload 4, 2) := by decide +kernel
theorem dX8_worstTwo_70 : decode cX8_worstTwo 70 = .ok (.goto 4, 3) := by decide +kernel
theorem dX8_worstTwo_73 : decode cX8_worstTwo 73 = .ok (.iload_n 1, 1) := by decide +kernel
theorem dX8_worstTwo_74 : decode cX8_worstTwo 74 = .ok (.istore_n 1, 1) := by decide +kernel
theorem dX8_worstTwo_75 : decode cX8_worstTwo 75 = .ok (.iinc 2 1, 3) := by decide +kernel
theorem dX8_worstTwo_78 : decode cX8_worstTwo 78 = .ok (.goto (-70), 3) := by decide +kernel
theorem dX8_worstTwo_81 : decode cX8_worstTwo 81 = .ok (.iload_n 1, 1) := by decide +kernel
theorem dX8_worstTwo_82 : decode cX8_worstTwo 82 = .ok (.ireturn, 1) := by decide +kernel
theorem dX8_twoRounds_0 : decode cX8_twoRounds 0 = .ok (.aload_n 0, 1) := by decide +kernel
theorem dX8_twoRounds_1 : decode cX8_twoRounds 1 = .ok (.aload_n 0, 1) := by decide +kernel
theorem dX8_twoRounds_2 : decode cX8_twoRounds 2 = .ok (.getfield 58, 3) := by decide +kernel
theorem dX8_twoRounds_5 : decode cX8_twoRounds 5 = .ok (.aload_n 0, 1) := by decide +kernel
theorem dX8_twoRounds_6 : decode cX8_twoRounds 6 = .ok (.getfield 16, 3) := by decide +kernel
theorem dX8_twoRounds_9 : decode cX8_twoRounds 9 = .ok (.invokevirtual 223, 3) := by decide +kernel
theorem dX8_twoRounds_12 : decode cX8_twoRounds 12 = .ok (.aload_n 0, 1) := by decide +kernel
theorem dX8_twoRounds_13 : decode cX8_twoRounds 13 = .ok (.invokevirtual 233, 3) := by decide +kernel
theorem dX8_twoRounds_16 : decode cX8_twoRounds 16 = .ok (.istore_n 1, 1) := by decide +kernel
theorem dX8_twoRounds_17 : decode cX8_twoRounds 17 = .ok (.iconst 0, 1) := by decide +kernel
theorem dX8_twoRounds_18 : decode cX8_twoRounds 18 = .ok (.istore_n 2, 1) := by decide +kernel
theorem dX8_twoRounds_19 : decode cX8_twoRounds 19 = .ok (.iload_n 2, 1) := by decide +kernel
theorem dX8_twoRounds_20 : decode cX8_twoRounds 20 = .ok (.bipush 6, 2) := by decide +kernel
theorem dX8_twoRounds_22 : decode cX8_twoRounds 22 = .ok (.aload_n 0, 1) := by decide +kernel
theorem dX8_twoRounds_23 : decode cX8_twoRounds 23 = .ok (.getfield 75, 3) := by decide +kernel
theorem dX8_twoRounds_26 : decode cX8_twoRounds 26 = .ok (.imul, 1) := by decide +kernel
theorem dX8_twoRounds_27 : decode cX8_twoRounds 27 = .ok (.if_icmp .ge 53, 3) := by decide +kernel
theorem dX8_twoRounds_30 : decode cX8_twoRounds 30 = .ok (.iload_n 1, 1) := by decide +kernel
theorem dX8_twoRounds_31 : decode cX8_twoRounds 31 = .ok (.ifCond .le 49, 3) := by decide +kernel
theorem dX8_twoRounds_34 : decode cX8_twoRounds 34 = .ok (.aload_n 0, 1) := by decide +kernel
theorem dX8_twoRounds_35 : decode cX8_twoRounds 35 = .ok (.iload_n 2, 1) := by decide +kernel
theorem dX8_twoRounds_36 : decode cX8_twoRounds 36 = .ok (.bipush 6, 2) := by decide +kernel
theorem dX8_twoRounds_38 : decode cX8_twoRounds 38 = .ok (.idiv, 1) := by decide +kernel
theorem dX8_twoRounds_39 : decode cX8_twoRounds 39 = .ok (.iload_n 2, 1) := by decide +kernel
theorem dX8_twoRounds_40 : decode cX8_twoRounds 40 = .ok (.bipush 6, 2) := by decide +kernel
theorem dX8_twoRounds_42 : decode cX8_twoRounds 42 = .ok (.irem, 1) := by decide +kernel
theorem dX8_twoRounds_43 : decode cX8_twoRounds 43 = .ok (.invokevirtual 176, 3) := by decide +kernel
theorem dX8_twoRounds_46 : decode cX8_twoRounds 46 = .ok (.aload_n 0, 1) := by decide +kernel
theorem dX8_twoRounds_47 : decode cX8_twoRounds 47 = .ok (.invokevirtual 233, 3) := by decide +kernel
theorem dX8_twoRounds_50 : decode cX8_twoRounds 50 = .ok (.istore_n 3, 1) := by decide +kernel
theorem dX8_twoRounds_51 : decode cX8_twoRounds 51 = .ok (.iload_n 3, 1) := by decide +kernel
theorem dX8_twoRounds_52 : decode cX8_twoRounds 52 = .ok (.iload_n 1, 1) := by decide +kernel
theorem dX8_twoRounds_53 : decode cX8_twoRounds 53 = .ok (.if_icmp .ge 7, 3) := by decide +kernel
theorem dX8_twoRounds_56 : decode cX8_twoRounds 56 = .ok (.iload_n 3, 1) := by decide +kernel
theorem dX8_twoRounds_57 : decode cX8_twoRounds 57 = .ok (.goto 4, 3) := by decide +kernel
theorem dX8_twoRounds_60 : decode cX8_twoRounds 60 = .ok (.iload_n 1, 1) := by decide +kernel
theorem dX8_twoRounds_61 : decode cX8_twoRounds 61 = .ok (.istore_n 1, 1) := by decide +kernel
theorem dX8_twoRounds_62 : decode cX8_twoRounds 62 = .ok (.aload_n 0, 1) := by decide +kernel
theorem dX8_twoRounds_63 : decode cX8_twoRounds 63 = .ok (.aload_n 0, 1) := by decide +kernel
theorem dX8_twoRounds_64 : decode cX8_twoRounds 64 = .ok (.getfield 16, 3) := by decide +kernel
theorem dX8_twoRounds_67 : decode cX8_twoRounds 67 = .ok (.aload_n 0, 1) := by decide +kernel
theorem dX8_twoRounds_68 : decode cX8_twoRounds 68 = .ok (.getfield 58, 3) := by decide +kernel
theorem dX8_twoRounds_71 : decode cX8_twoRounds 71 = .ok (.invokevirtual 223, 3) := by decide +kernel
theorem dX8_twoRounds_74 : decode cX8_twoRounds 74 = .ok (.iinc 2 1, 3) := by decide +kernel
theorem dX8_twoRounds_77 : decode cX8_twoRounds 77 = .ok (.goto (-58), 3) := by decide +kernel
theorem dX8_twoRounds_80 : decode cX8_twoRounds 80 = .ok (.iload_n 1, 1) := by decide +kernel
theorem dX8_twoRounds_81 : decode cX8_twoRounds 81 = .ok (.ireturn, 1) := by decide +kernel
theorem dX8_byTurns_0 : decode cX8_byTurns 0 = .ok (.iload_n 1, 1) := by decide +kernel
theorem dX8_byTurns_1 : decode cX8_byTurns 1 = .ok (.i2l, 1) := by decide +kernel
theorem dX8_byTurns_2 : decode cX8_byTurns 2 = .ok (.lconst 0, 1) := by decide +kernel
theorem dX8_byTurns_3 : decode cX8_byTurns 3 = .ok (.ldc2_w 236, 3) := by decide +kernel
theorem dX8_byTurns_6 : decode cX8_byTurns 6 = .ok (.invokestatic 78, 3) := by decide +kernel
theorem dX8_byTurns_9 : decode cX8_byTurns 9 = .ok (.ifCond .ne 5, 3) := by decide +kernel
theorem dX8_byTurns_12 : decode cX8_byTurns 12 = .ok (.iconst (-1), 1) := by decide +kernel
theorem dX8_byTurns_13 : decode cX8_byTurns 13 = .ok (.ireturn, 1) := by decide +kernel
theorem dX8_byTurns_14 : decode cX8_byTurns 14 = .ok (.iload_n 1, 1) := by decide +kernel
theorem dX8_byTurns_15 : decode cX8_byTurns 15 = .ok (.ifCond .ne 7, 3) := by decide +kernel
theorem dX8_byTurns_18 : decode cX8_byTurns 18 = .ok (.iconst 0, 1) := by decide +kernel
theorem dX8_byTurns_19 : decode cX8_byTurns 19 = .ok (.goto 19, 3) := by decide +kernel
theorem dX8_byTurns_22 : decode cX8_byTurns 22 = .ok (.iload_n 1, 1) := by decide +kernel
theorem dX8_byTurns_23 : decode cX8_byTurns 23 = .ok (.iconst 1, 1) := by decide +kernel
theorem dX8_byTurns_24 : decode cX8_byTurns 24 = .ok (.if_icmp .ne 10, 3) := by decide +kernel
theorem dX8_byTurns_27 : decode cX8_byTurns 27 = .ok (.aload_n 0, 1) := by decide +kernel
theorem dX8_byTurns_28 : decode cX8_byTurns 28 = .ok (.invokevirtual 230, 3) := by decide +kernel
theorem dX8_byTurns_31 : decode cX8_byTurns 31 = .ok (.goto 7, 3) := by decide +kernel
theorem dX8_byTurns_34 : decode cX8_byTurns 34 = .ok (.aload_n 0, 1) := by decide +kernel
theorem dX8_byTurns_35 : decode cX8_byTurns 35 = .ok (.invokevirtual 238, 3) := by decide +kernel
theorem dX8_byTurns_38 : decode cX8_byTurns 38 = .ok (.ireturn, 1) := by decide +kernel
theorem dX8_common_0 : decode cX8_common 0 = .ok (.lload_n 0, 1) := by decide +kernel
theorem dX8_common_1 : decode cX8_common 1 = .ok (.lstore 4, 2) := by decide +kernel
theorem dX8_common_3 : decode cX8_common 3 = .ok (.lload_n 2, 1) := by decide +kernel
theorem dX8_common_4 : decode cX8_common 4 = .ok (.lstore 6, 2) := by decide +kernel
theorem dX8_common_6 : decode cX8_common 6 = .ok (.lload 6, 2) := by decide +kernel
theorem dX8_common_8 : decode cX8_common 8 = .ok (.lconst 0, 1) := by decide +kernel
theorem dX8_common_9 : decode cX8_common 9 = .ok (.lcmp, 1) := by decide +kernel
theorem dX8_common_10 : decode cX8_common 10 = .ok (.ifCond .eq 21, 3) := by decide +kernel
theorem dX8_common_13 : decode cX8_common 13 = .ok (.lload 4, 2) := by decide +kernel
theorem dX8_common_15 : decode cX8_common 15 = .ok (.lload 6, 2) := by decide +kernel
theorem dX8_common_17 : decode cX8_common 17 = .ok (.lrem, 1) := by decide +kernel
theorem dX8_common_18 : decode cX8_common 18 = .ok (.lstore 8, 2) := by decide +kernel
theorem dX8_common_20 : decode cX8_common 20 = .ok (.lload 6, 2) := by decide +kernel
theorem dX8_common_22 : decode cX8_common 22 = .ok (.lstore 4, 2) := by decide +kernel
theorem dX8_common_24 : decode cX8_common 24 = .ok (.lload 8, 2) := by decide +kernel
theorem dX8_common_26 : decode cX8_common 26 = .ok (.lstore 6, 2) := by decide +kernel
theorem dX8_common_28 : decode cX8_common 28 = .ok (.goto (-22), 3) := by decide +kernel
theorem dX8_common_31 : decode cX8_common 31 = .ok (.lload 4, 2) := by decide +kernel
theorem dX8_common_33 : decode cX8_common 33 = .ok (.lreturn, 1) := by decide +kernel
theorem dX8_mean_0 : decode cX8_mean 0 = .ok (.iload_n 1, 1) := by decide +kernel
theorem dX8_mean_1 : decode cX8_mean 1 = .ok (.i2l, 1) := by decide +kernel
theorem dX8_mean_2 : decode cX8_mean 2 = .ok (.lconst 0, 1) := by decide +kernel
theorem dX8_mean_3 : decode cX8_mean 3 = .ok (.ldc2_w 180, 3) := by decide +kernel
theorem dX8_mean_6 : decode cX8_mean 6 = .ok (.invokestatic 78, 3) := by decide +kernel
theorem dX8_mean_9 : decode cX8_mean 9 = .ok (.ifCond .eq 13, 3) := by decide +kernel
theorem dX8_mean_12 : decode cX8_mean 12 = .ok (.iload_n 2, 1) := by decide +kernel
theorem dX8_mean_13 : decode cX8_mean 13 = .ok (.i2l, 1) := by decide +kernel
theorem dX8_mean_14 : decode cX8_mean 14 = .ok (.lconst 0, 1) := by decide +kernel
theorem dX8_mean_15 : decode cX8_mean 15 = .ok (.lconst 1, 1) := by decide +kernel
theorem dX8_mean_16 : decode cX8_mean 16 = .ok (.invokestatic 78, 3) := by decide +kernel
theorem dX8_mean_19 : decode cX8_mean 19 = .ok (.ifCond .ne 5, 3) := by decide +kernel
theorem dX8_mean_22 : decode cX8_mean 22 = .ok (.iconst (-1), 1) := by decide +kernel
theorem dX8_mean_23 : decode cX8_mean 23 = .ok (.ireturn, 1) := by decide +kernel
theorem dX8_mean_24 : decode cX8_mean 24 = .ok (.iconst 0, 1) := by decide +kernel
theorem dX8_mean_25 : decode cX8_mean 25 = .ok (.istore_n 3, 1) := by decide +kernel
theorem dX8_mean_26 : decode cX8_mean 26 = .ok (.iconst 0, 1) := by decide +kernel
theorem dX8_mean_27 : decode cX8_mean 27 = .ok (.istore 4, 2) := by decide +kernel
theorem dX8_mean_29 : decode cX8_mean 29 = .ok (.iload 4, 2) := by decide +kernel
theorem dX8_mean_31 : decode cX8_mean 31 = .ok (.aload_n 0, 1) := by decide +kernel
theorem dX8_mean_32 : decode cX8_mean 32 = .ok (.getfield 75, 3) := by decide +kernel
theorem dX8_mean_35 : decode cX8_mean 35 = .ok (.if_icmp .ge 23, 3) := by decide +kernel
theorem dX8_mean_38 : decode cX8_mean 38 = .ok (.iload_n 3, 1) := by decide +kernel
theorem dX8_mean_39 : decode cX8_mean 39 = .ok (.aload_n 0, 1) := by decide +kernel
theorem dX8_mean_40 : decode cX8_mean 40 = .ok (.getfield 7, 3) := by decide +kernel
theorem dX8_mean_43 : decode cX8_mean 43 = .ok (.iconst 5, 1) := by decide +kernel
theorem dX8_mean_44 : decode cX8_mean 44 = .ok (.iload 4, 2) := by decide +kernel
theorem dX8_mean_46 : decode cX8_mean 46 = .ok (.imul, 1) := by decide +kernel
theorem dX8_mean_47 : decode cX8_mean 47 = .ok (.iconst 4, 1) := by decide +kernel
theorem dX8_mean_48 : decode cX8_mean 48 = .ok (.iadd, 1) := by decide +kernel
theorem dX8_mean_49 : decode cX8_mean 49 = .ok (.iaload, 1) := by decide +kernel
theorem dX8_mean_50 : decode cX8_mean 50 = .ok (.iadd, 1) := by decide +kernel
theorem dX8_mean_51 : decode cX8_mean 51 = .ok (.istore_n 3, 1) := by decide +kernel
theorem dX8_mean_52 : decode cX8_mean 52 = .ok (.iinc 4 1, 3) := by decide +kernel
theorem dX8_mean_55 : decode cX8_mean 55 = .ok (.goto (-26), 3) := by decide +kernel
theorem dX8_mean_58 : decode cX8_mean 58 = .ok (.iconst 1, 1) := by decide +kernel
theorem dX8_mean_59 : decode cX8_mean 59 = .ok (.istore 4, 2) := by decide +kernel
theorem dX8_mean_61 : decode cX8_mean 61 = .ok (.lconst 1, 1) := by decide +kernel
theorem dX8_mean_62 : decode cX8_mean 62 = .ok (.lstore 5, 2) := by decide +kernel
theorem dX8_mean_64 : decode cX8_mean 64 = .ok (.iconst 0, 1) := by decide +kernel
theorem dX8_mean_65 : decode cX8_mean 65 = .ok (.istore 7, 2) := by decide +kernel
theorem dX8_mean_67 : decode cX8_mean 67 = .ok (.iload 7, 2) := by decide +kernel
theorem dX8_mean_69 : decode cX8_mean 69 = .ok (.iload_n 1, 1) := by decide +kernel
theorem dX8_mean_70 : decode cX8_mean 70 = .ok (.if_icmp .ge 25, 3) := by decide +kernel
theorem dX8_mean_73 : decode cX8_mean 73 = .ok (.iload 4, 2) := by decide +kernel
theorem dX8_mean_75 : decode cX8_mean 75 = .ok (.aload_n 0, 1) := by decide +kernel
theorem dX8_mean_76 : decode cX8_mean 76 = .ok (.getfield 75, 3) := by decide +kernel
theorem dX8_mean_79 : decode cX8_mean 79 = .ok (.imul, 1) := by decide +kernel
theorem dX8_mean_80 : decode cX8_mean 80 = .ok (.istore 4, 2) := by decide +kernel
theorem dX8_mean_82 : decode cX8_mean 82 = .ok (.lload 5, 2) := by decide +kernel
theorem dX8_mean_84 : decode cX8_mean 84 = .ok (.iload_n 3, 1) := by decide +kernel
theorem dX8_mean_85 : decode cX8_mean 85 = .ok (.i2l, 1) := by decide +kernel
theorem dX8_mean_86 : decode cX8_mean 86 = .ok (.lmul, 1) := by decide +kernel
theorem dX8_mean_87 : decode cX8_mean 87 = .ok (.lstore 5, 2) := by decide +kernel
theorem dX8_mean_89 : decode cX8_mean 89 = .ok (.iinc 7 1, 3) := by decide +kernel
theorem dX8_mean_92 : decode cX8_mean 92 = .ok (.goto (-25), 3) := by decide +kernel
theorem dX8_mean_95 : decode cX8_mean 95 = .ok (.lconst 0, 1) := by decide +kernel
theorem dX8_mean_96 : decode cX8_mean 96 = .ok (.lstore 7, 2) := by decide +kernel
theorem dX8_mean_98 : decode cX8_mean 98 = .ok (.iconst 0, 1) := by decide +kernel
theorem dX8_mean_99 : decode cX8_mean 99 = .ok (.istore 9, 2) := by decide +kernel
theorem dX8_mean_101 : decode cX8_mean 101 = .ok (.iload 9, 2) := by decide +kernel
theorem dX8_mean_103 : decode cX8_mean 103 = .ok (.iload 4, 2) := by decide +kernel
theorem dX8_mean_105 : decode cX8_mean 105 = .ok (.if_icmp .ge 114, 3) := by decide +kernel
theorem dX8_mean_108 : decode cX8_mean 108 = .ok (.aload_n 0, 1) := by decide +kernel
theorem dX8_mean_109 : decode cX8_mean 109 = .ok (.invokevirtual 188, 3) := by decide +kernel
theorem dX8_mean_112 : decode cX8_mean 112 = .ok (.lconst 1, 1) := by decide +kernel
theorem dX8_mean_113 : decode cX8_mean 113 = .ok (.lstore 10, 2) := by decide +kernel
theorem dX8_mean_115 : decode cX8_mean 115 = .ok (.iload 9, 2) := by decide +kernel
theorem dX8_mean_117 : decode cX8_mean 117 = .ok (.istore 12, 2) := by decide +kernel
theorem dX8_mean_119 : decode cX8_mean 119 = .ok (.iconst 0, 1) := by decide +kernel
theorem dX8_mean_120 : decode cX8_mean 120 = .ok (.istore 13, 2) := by decide +kernel
theorem dX8_mean_122 : decode cX8_mean 122 = .ok (.iload 13, 2) := by decide +kernel
theorem dX8_mean_124 : decode cX8_mean 124 = .ok (.iload_n 1, 1) := by decide +kernel
theorem dX8_mean_125 : decode cX8_mean 125 = .ok (.if_icmp .ge 60, 3) := by decide +kernel
theorem dX8_mean_128 : decode cX8_mean 128 = .ok (.lload 10, 2) := by decide +kernel
theorem dX8_mean_130 : decode cX8_mean 130 = .ok (.aload_n 0, 1) := by decide +kernel
theorem dX8_mean_131 : decode cX8_mean 131 = .ok (.getfield 7, 3) := by decide +kernel
theorem dX8_mean_134 : decode cX8_mean 134 = .ok (.iconst 5, 1) := by decide +kernel
theorem dX8_mean_135 : decode cX8_mean 135 = .ok (.iload 12, 2) := by decide +kernel
theorem dX8_mean_137 : decode cX8_mean 137 = .ok (.aload_n 0, 1) := by decide +kernel
theorem dX8_mean_138 : decode cX8_mean 138 = .ok (.getfield 75, 3) := by decide +kernel
theorem dX8_mean_141 : decode cX8_mean 141 = .ok (.irem, 1) := by decide +kernel
theorem dX8_mean_142 : decode cX8_mean 142 = .ok (.imul, 1) := by decide +kernel
theorem dX8_mean_143 : decode cX8_mean 143 = .ok (.iconst 4, 1) := by decide +kernel
theorem dX8_mean_144 : decode cX8_mean 144 = .ok (.iadd, 1) := by decide +kernel
theorem dX8_mean_145 : decode cX8_mean 145 = .ok (.iaload, 1) := by decide +kernel
theorem dX8_mean_146 : decode cX8_mean 146 = .ok (.i2l, 1) := by decide +kernel
theorem dX8_mean_147 : decode cX8_mean 147 = .ok (.lmul, 1) := by decide +kernel
theorem dX8_mean_148 : decode cX8_mean 148 = .ok (.lstore 10, 2) := by decide +kernel
theorem dX8_mean_150 : decode cX8_mean 150 = .ok (.aload_n 0, 1) := by decide +kernel
theorem dX8_mean_151 : decode cX8_mean 151 = .ok (.aload_n 0, 1) := by decide +kernel
theorem dX8_mean_152 : decode cX8_mean 152 = .ok (.getfield 136, 3) := by decide +kernel
theorem dX8_mean_155 : decode cX8_mean 155 = .ok (.aload_n 0, 1) := by decide +kernel
theorem dX8_mean_156 : decode cX8_mean 156 = .ok (.getfield 139, 3) := by decide +kernel
theorem dX8_mean_159 : decode cX8_mean 159 = .ok (.iload 12, 2) := by decide +kernel
theorem dX8_mean_161 : decode cX8_mean 161 = .ok (.aload_n 0, 1) := by decide +kernel
theorem dX8_mean_162 : decode cX8_mean 162 = .ok (.getfield 75, 3) := by decide +kernel
theorem dX8_mean_165 : decode cX8_mean 165 = .ok (.irem, 1) := by decide +kernel
theorem dX8_mean_166 : decode cX8_mean 166 = .ok (.invokevirtual 185, 3) := by decide +kernel
theorem dX8_mean_169 : decode cX8_mean 169 = .ok (.pop, 1) := by decide +kernel
theorem dX8_mean_170 : decode cX8_mean 170 = .ok (.iload 12, 2) := by decide +kernel
theorem dX8_mean_172 : decode cX8_mean 172 = .ok (.aload_n 0, 1) := by decide +kernel
theorem dX8_mean_173 : decode cX8_mean 173 = .ok (.getfield 75, 3) := by decide +kernel
theorem dX8_mean_176 : decode cX8_mean 176 = .ok (.idiv, 1) := by decide +kernel
theorem dX8_mean_177 : decode cX8_mean 177 = .ok (.istore 12, 2) := by decide +kernel
theorem dX8_mean_179 : decode cX8_mean 179 = .ok (.iinc 13 1, 3) := by decide +kernel
theorem dX8_mean_182 : decode cX8_mean 182 = .ok (.goto (-60), 3) := by decide +kernel
theorem dX8_mean_185 : decode cX8_mean 185 = .ok (.lload 7, 2) := by decide +kernel
theorem dX8_mean_187 : decode cX8_mean 187 = .ok (.lload 10, 2) := by decide +kernel
theorem dX8_mean_189 : decode cX8_mean 189 = .ok (.aload_n 0, 1) := by decide +kernel
theorem dX8_mean_190 : decode cX8_mean 190 = .ok (.getfield 16, 3) := by decide +kernel
theorem dX8_mean_193 : decode cX8_mean 193 = .ok (.bipush 42, 2) := by decide +kernel
theorem dX8_mean_195 : decode cX8_mean 195 = .ok (.iaload, 1) := by decide +kernel
theorem dX8_mean_196 : decode cX8_mean 196 = .ok (.aload_n 0, 1) := by decide +kernel
theorem dX8_mean_197 : decode cX8_mean 197 = .ok (.getfield 34, 3) := by decide +kernel
theorem dX8_mean_200 : decode cX8_mean 200 = .ok (.bipush 42, 2) := by decide +kernel
theorem dX8_mean_202 : decode cX8_mean 202 = .ok (.iaload, 1) := by decide +kernel
theorem dX8_mean_203 : decode cX8_mean 203 = .ok (.isub, 1) := by decide +kernel
theorem dX8_mean_204 : decode cX8_mean 204 = .ok (.i2l, 1) := by decide +kernel
theorem dX8_mean_205 : decode cX8_mean 205 = .ok (.lmul, 1) := by decide +kernel
theorem dX8_mean_206 : decode cX8_mean 206 = .ok (.ladd, 1) := by decide +kernel
theorem dX8_mean_207 : decode cX8_mean 207 = .ok (.lstore 7, 2) := by decide +kernel
theorem dX8_mean_209 : decode cX8_mean 209 = .ok (.aload_n 0, 1) := by decide +kernel
theorem dX8_mean_210 : decode cX8_mean 210 = .ok (.invokevirtual 194, 3) := by decide +kernel
theorem dX8_mean_213 : decode cX8_mean 213 = .ok (.iinc 9 1, 3) := by decide +kernel
theorem dX8_mean_216 : decode cX8_mean 216 = .ok (.goto (-115), 3) := by decide +kernel
theorem dX8_mean_219 : decode cX8_mean 219 = .ok (.lload 7, 2) := by decide +kernel
theorem dX8_mean_221 : decode cX8_mean 221 = .ok (.lload 5, 2) := by decide +kernel
theorem dX8_mean_223 : decode cX8_mean 223 = .ok (.invokestatic 241, 3) := by decide +kernel
theorem dX8_mean_226 : decode cX8_mean 226 = .ok (.lstore 9, 2) := by decide +kernel
theorem dX8_mean_228 : decode cX8_mean 228 = .ok (.iload_n 2, 1) := by decide +kernel
theorem dX8_mean_229 : decode cX8_mean 229 = .ok (.ifCond .ne 11, 3) := by decide +kernel
theorem dX8_mean_232 : decode cX8_mean 232 = .ok (.lload 7, 2) := by decide +kernel
theorem dX8_mean_234 : decode cX8_mean 234 = .ok (.lload 9, 2) := by decide +kernel
theorem dX8_mean_236 : decode cX8_mean 236 = .ok (.ldiv, 1) := by decide +kernel
theorem dX8_mean_237 : decode cX8_mean 237 = .ok (.goto 8, 3) := by decide +kernel
theorem dX8_mean_240 : decode cX8_mean 240 = .ok (.lload 5, 2) := by decide +kernel
theorem dX8_mean_242 : decode cX8_mean 242 = .ok (.lload 9, 2) := by decide +kernel
theorem dX8_mean_244 : decode cX8_mean 244 = .ok (.ldiv, 1) := by decide +kernel
theorem dX8_mean_245 : decode cX8_mean 245 = .ok (.l2i, 1) := by decide +kernel
theorem dX8_mean_246 : decode cX8_mean 246 = .ok (.ireturn, 1) := by decide +kernel
theorem dX8_year_0 : decode cX8_year 0 = .ok (.iload_n 1, 1) := by decide +kernel
theorem dX8_year_1 : decode cX8_year 1 = .ok (.i2l, 1) := by decide +kernel
theorem dX8_year_2 : decode cX8_year 2 = .ok (.lconst 0, 1) := by decide +kernel
theorem dX8_year_3 : decode cX8_year 3 = .ok (.ldc2_w 245, 3) := by decide +kernel
theorem dX8_year_6 : decode cX8_year 6 = .ok (.invokestatic 78, 3) := by decide +kernel
theorem dX8_year_9 : decode cX8_year 9 = .ok (.ifCond .eq 25, 3) := by decide +kernel
theorem dX8_year_12 : decode cX8_year 12 = .ok (.iload_n 2, 1) := by decide +kernel
theorem dX8_year_13 : decode cX8_year 13 = .ok (.i2l, 1) := by decide +kernel
theorem dX8_year_14 : decode cX8_year 14 = .ok (.lconst 1, 1) := by decide +kernel
theorem dX8_year_15 : decode cX8_year 15 = .ok (.ldc2_w 247, 3) := by decide +kernel
theorem dX8_year_18 : decode cX8_year 18 = .ok (.invokestatic 78, 3) := by decide +kernel
theorem dX8_year_21 : decode cX8_year 21 = .ok (.ifCond .eq 13, 3) := by decide +kernel
theorem dX8_year_24 : decode cX8_year 24 = .ok (.iload_n 3, 1) := by decide +kernel
theorem dX8_year_25 : decode cX8_year 25 = .ok (.i2l, 1) := by decide +kernel
theorem dX8_year_26 : decode cX8_year 26 = .ok (.lconst 0, 1) := by decide +kernel
theorem dX8_year_27 : decode cX8_year 27 = .ok (.lconst 1, 1) := by decide +kernel
theorem dX8_year_28 : decode cX8_year 28 = .ok (.invokestatic 78, 3) := by decide +kernel
theorem dX8_year_31 : decode cX8_year 31 = .ok (.ifCond .ne 5, 3) := by decide +kernel
theorem dX8_year_34 : decode cX8_year 34 = .ok (.iconst (-1), 1) := by decide +kernel
theorem dX8_year_35 : decode cX8_year 35 = .ok (.ireturn, 1) := by decide +kernel
theorem dX8_year_36 : decode cX8_year 36 = .ok (.aload_n 0, 1) := by decide +kernel
theorem dX8_year_37 : decode cX8_year 37 = .ok (.invokevirtual 188, 3) := by decide +kernel
theorem dX8_year_40 : decode cX8_year 40 = .ok (.iconst 0, 1) := by decide +kernel
theorem dX8_year_41 : decode cX8_year 41 = .ok (.istore 4, 2) := by decide +kernel
theorem dX8_year_43 : decode cX8_year 43 = .ok (.iload 4, 2) := by decide +kernel
theorem dX8_year_45 : decode cX8_year 45 = .ok (.iload_n 2, 1) := by decide +kernel
theorem dX8_year_46 : decode cX8_year 46 = .ok (.if_icmp .ge 60, 3) := by decide +kernel
theorem dX8_year_49 : decode cX8_year 49 = .ok (.ldc2_w 249, 3) := by decide +kernel
theorem dX8_year_52 : decode cX8_year 52 = .ok (.iload_n 1, 1) := by decide +kernel
theorem dX8_year_53 : decode cX8_year 53 = .ok (.i2l, 1) := by decide +kernel
theorem dX8_year_54 : decode cX8_year 54 = .ok (.lmul, 1) := by decide +kernel
theorem dX8_year_55 : decode cX8_year 55 = .ok (.ldc2_w 251, 3) := by decide +kernel
theorem dX8_year_58 : decode cX8_year 58 = .ok (.iload 4, 2) := by decide +kernel
theorem dX8_year_60 : decode cX8_year 60 = .ok (.i2l, 1) := by decide +kernel
theorem dX8_year_61 : decode cX8_year 61 = .ok (.lmul, 1) := by decide +kernel
theorem dX8_year_62 : decode cX8_year 62 = .ok (.ladd, 1) := by decide +kernel
theorem dX8_year_63 : decode cX8_year 63 = .ok (.lconst 1, 1) := by decide +kernel
theorem dX8_year_64 : decode cX8_year 64 = .ok (.ladd, 1) := by decide +kernel
theorem dX8_year_65 : decode cX8_year 65 = .ok (.lstore 5, 2) := by decide +kernel
theorem dX8_year_67 : decode cX8_year 67 = .ok (.aload_n 0, 1) := by decide +kernel
theorem dX8_year_68 : decode cX8_year 68 = .ok (.aload_n 0, 1) := by decide +kernel
theorem dX8_year_69 : decode cX8_year 69 = .ok (.getfield 136, 3) := by decide +kernel
theorem dX8_year_72 : decode cX8_year 72 = .ok (.aload_n 0, 1) := by decide +kernel
theorem dX8_year_73 : decode cX8_year 73 = .ok (.getfield 139, 3) := by decide +kernel
theorem dX8_year_76 : decode cX8_year 76 = .ok (.lload 5, 2) := by decide +kernel
theorem dX8_year_78 : decode cX8_year 78 = .ok (.lload 5, 2) := by decide +kernel
theorem dX8_year_80 : decode cX8_year 80 = .ok (.lmul, 1) := by decide +kernel
theorem dX8_year_81 : decode cX8_year 81 = .ok (.ldc2_w 253, 3) := by decide +kernel
theorem dX8_year_84 : decode cX8_year 84 = .ok (.lrem, 1) := by decide +kernel
theorem dX8_year_85 : decode cX8_year 85 = .ok (.ldc2_w 255, 3) := by decide +kernel
theorem dX8_year_88 : decode cX8_year 88 = .ok (.ldiv, 1) := by decide +kernel
theorem dX8_year_89 : decode cX8_year 89 = .ok (.aload_n 0, 1) := by decide +kernel
theorem dX8_year_90 : decode cX8_year 90 = .ok (.getfield 75, 3) := by decide +kernel
theorem dX8_year_93 : decode cX8_year 93 = .ok (.i2l, 1) := by decide +kernel
theorem dX8_year_94 : decode cX8_year 94 = .ok (.lrem, 1) := by decide +kernel
theorem dX8_year_95 : decode cX8_year 95 = .ok (.l2i, 1) := by decide +kernel
theorem dX8_year_96 : decode cX8_year 96 = .ok (.invokevirtual 185, 3) := by decide +kernel
theorem dX8_year_99 : decode cX8_year 99 = .ok (.pop, 1) := by decide +kernel
theorem dX8_year_100 : decode cX8_year 100 = .ok (.iinc 4 1, 3) := by decide +kernel
theorem dX8_year_103 : decode cX8_year 103 = .ok (.goto (-60), 3) := by decide +kernel
theorem dX8_year_106 : decode cX8_year 106 = .ok (.iload_n 3, 1) := by decide +kernel
theorem dX8_year_107 : decode cX8_year 107 = .ok (.ifCond .ne 21, 3) := by decide +kernel
theorem dX8_year_110 : decode cX8_year 110 = .ok (.aload_n 0, 1) := by decide +kernel
theorem dX8_year_111 : decode cX8_year 111 = .ok (.getfield 16, 3) := by decide +kernel
theorem dX8_year_114 : decode cX8_year 114 = .ok (.bipush 42, 2) := by decide +kernel
theorem dX8_year_116 : decode cX8_year 116 = .ok (.iaload, 1) := by decide +kernel
theorem dX8_year_117 : decode cX8_year 117 = .ok (.aload_n 0, 1) := by decide +kernel
theorem dX8_year_118 : decode cX8_year 118 = .ok (.getfield 34, 3) := by decide +kernel
theorem dX8_year_121 : decode cX8_year 121 = .ok (.bipush 42, 2) := by decide +kernel
theorem dX8_year_123 : decode cX8_year 123 = .ok (.iaload, 1) := by decide +kernel
theorem dX8_year_124 : decode cX8_year 124 = .ok (.isub, 1) := by decide +kernel
theorem dX8_year_125 : decode cX8_year 125 = .ok (.goto 18, 3) := by decide +kernel
theorem dX8_year_128 : decode cX8_year 128 = .ok (.aload_n 0, 1) := by decide +kernel
theorem dX8_year_129 : decode cX8_year 129 = .ok (.getfield 16, 3) := by decide +kernel
theorem dX8_year_132 : decode cX8_year 132 = .ok (.bipush 43, 2) := by decide +kernel
theorem dX8_year_134 : decode cX8_year 134 = .ok (.iaload, 1) := by decide +kernel
theorem dX8_year_135 : decode cX8_year 135 = .ok (.aload_n 0, 1) := by decide +kernel
theorem dX8_year_136 : decode cX8_year 136 = .ok (.getfield 34, 3) := by decide +kernel
theorem dX8_year_139 : decode cX8_year 139 = .ok (.bipush 43, 2) := by decide +kernel
theorem dX8_year_141 : decode cX8_year 141 = .ok (.iaload, 1) := by decide +kernel
theorem dX8_year_142 : decode cX8_year 142 = .ok (.isub, 1) := by decide +kernel
theorem dX8_year_143 : decode cX8_year 143 = .ok (.istore 4, 2) := by decide +kernel
theorem dX8_year_145 : decode cX8_year 145 = .ok (.aload_n 0, 1) := by decide +kernel
theorem dX8_year_146 : decode cX8_year 146 = .ok (.invokevirtual 194, 3) := by decide +kernel
theorem dX8_year_149 : decode cX8_year 149 = .ok (.iload 4, 2) := by decide +kernel
theorem dX8_year_151 : decode cX8_year 151 = .ok (.ireturn, 1) := by decide +kernel
theorem dX8_keep_0 : decode cX8_keep 0 = .ok (.aload_n 0, 1) := by decide +kernel
theorem dX8_keep_1 : decode cX8_keep 1 = .ok (.getfield 148, 3) := by decide +kernel
theorem dX8_keep_4 : decode cX8_keep 4 = .ok (.iconst 2, 1) := by decide +kernel
theorem dX8_keep_5 : decode cX8_keep 5 = .ok (.if_icmp .ne 6, 3) := by decide +kernel
theorem dX8_keep_8 : decode cX8_keep 8 = .ok (.bipush (-3), 2) := by decide +kernel
theorem dX8_keep_10 : decode cX8_keep 10 = .ok (.ireturn, 1) := by decide +kernel
theorem dX8_keep_11 : decode cX8_keep 11 = .ok (.iconst 0, 1) := by decide +kernel
theorem dX8_keep_12 : decode cX8_keep 12 = .ok (.istore_n 1, 1) := by decide +kernel
theorem dX8_keep_13 : decode cX8_keep 13 = .ok (.iload_n 1, 1) := by decide +kernel
theorem dX8_keep_14 : decode cX8_keep 14 = .ok (.bipush 50, 2) := by decide +kernel
theorem dX8_keep_16 : decode cX8_keep 16 = .ok (.if_icmp .ge 29, 3) := by decide +kernel
theorem dX8_keep_19 : decode cX8_keep 19 = .ok (.aload_n 0, 1) := by decide +kernel
theorem dX8_keep_20 : decode cX8_keep 20 = .ok (.getfield 64, 3) := by decide +kernel
theorem dX8_keep_23 : decode cX8_keep 23 = .ok (.bipush 50, 2) := by decide +kernel
theorem dX8_keep_25 : decode cX8_keep 25 = .ok (.aload_n 0, 1) := by decide +kernel
theorem dX8_keep_26 : decode cX8_keep 26 = .ok (.getfield 148, 3) := by decide +kernel
theorem dX8_keep_29 : decode cX8_keep 29 = .ok (.imul, 1) := by decide +kernel
theorem dX8_keep_30 : decode cX8_keep 30 = .ok (.iload_n 1, 1) := by decide +kernel
theorem dX8_keep_31 : decode cX8_keep 31 = .ok (.iadd, 1) := by decide +kernel
theorem dX8_keep_32 : decode cX8_keep 32 = .ok (.aload_n 0, 1) := by decide +kernel
theorem dX8_keep_33 : decode cX8_keep 33 = .ok (.getfield 16, 3) := by decide +kernel
theorem dX8_keep_36 : decode cX8_keep 36 = .ok (.iload_n 1, 1) := by decide +kernel
theorem dX8_keep_37 : decode cX8_keep 37 = .ok (.iaload, 1) := by decide +kernel
theorem dX8_keep_38 : decode cX8_keep 38 = .ok (.iastore, 1) := by decide +kernel
theorem dX8_keep_39 : decode cX8_keep 39 = .ok (.iinc 1 1, 3) := by decide +kernel
theorem dX8_keep_42 : decode cX8_keep 42 = .ok (.goto (-29), 3) := by decide +kernel
theorem dX8_keep_45 : decode cX8_keep 45 = .ok (.aload_n 0, 1) := by decide +kernel
theorem dX8_keep_46 : decode cX8_keep 46 = .ok (.dup, 1) := by decide +kernel
theorem dX8_keep_47 : decode cX8_keep 47 = .ok (.getfield 148, 3) := by decide +kernel
theorem dX8_keep_50 : decode cX8_keep 50 = .ok (.iconst 1, 1) := by decide +kernel
theorem dX8_keep_51 : decode cX8_keep 51 = .ok (.iadd, 1) := by decide +kernel
theorem dX8_keep_52 : decode cX8_keep 52 = .ok (.putfield 148, 3) := by decide +kernel
theorem dX8_keep_55 : decode cX8_keep 55 = .ok (.aload_n 0, 1) := by decide +kernel
theorem dX8_keep_56 : decode cX8_keep 56 = .ok (.getfield 148, 3) := by decide +kernel
theorem dX8_keep_59 : decode cX8_keep 59 = .ok (.ireturn, 1) := by decide +kernel
theorem dX8_back_0 : decode cX8_back 0 = .ok (.aload_n 0, 1) := by decide +kernel
theorem dX8_back_1 : decode cX8_back 1 = .ok (.getfield 148, 3) := by decide +kernel
theorem dX8_back_4 : decode cX8_back 4 = .ok (.ifCond .ne 6, 3) := by decide +kernel
theorem dX8_back_7 : decode cX8_back 7 = .ok (.bipush (-2), 2) := by decide +kernel
theorem dX8_back_9 : decode cX8_back 9 = .ok (.ireturn, 1) := by decide +kernel
theorem dX8_back_10 : decode cX8_back 10 = .ok (.aload_n 0, 1) := by decide +kernel
theorem dX8_back_11 : decode cX8_back 11 = .ok (.dup, 1) := by decide +kernel
theorem dX8_back_12 : decode cX8_back 12 = .ok (.getfield 148, 3) := by decide +kernel
theorem dX8_back_15 : decode cX8_back 15 = .ok (.iconst 1, 1) := by decide +kernel
theorem dX8_back_16 : decode cX8_back 16 = .ok (.isub, 1) := by decide +kernel
theorem dX8_back_17 : decode cX8_back 17 = .ok (.putfield 148, 3) := by decide +kernel
theorem dX8_back_20 : decode cX8_back 20 = .ok (.iconst 0, 1) := by decide +kernel
theorem dX8_back_21 : decode cX8_back 21 = .ok (.istore_n 1, 1) := by decide +kernel
theorem dX8_back_22 : decode cX8_back 22 = .ok (.iload_n 1, 1) := by decide +kernel
theorem dX8_back_23 : decode cX8_back 23 = .ok (.bipush 50, 2) := by decide +kernel
theorem dX8_back_25 : decode cX8_back 25 = .ok (.if_icmp .ge 29, 3) := by decide +kernel
theorem dX8_back_28 : decode cX8_back 28 = .ok (.aload_n 0, 1) := by decide +kernel
theorem dX8_back_29 : decode cX8_back 29 = .ok (.getfield 16, 3) := by decide +kernel
theorem dX8_back_32 : decode cX8_back 32 = .ok (.iload_n 1, 1) := by decide +kernel
theorem dX8_back_33 : decode cX8_back 33 = .ok (.aload_n 0, 1) := by decide +kernel
theorem dX8_back_34 : decode cX8_back 34 = .ok (.getfield 64, 3) := by decide +kernel
theorem dX8_back_37 : decode cX8_back 37 = .ok (.bipush 50, 2) := by decide +kernel
theorem dX8_back_39 : decode cX8_back 39 = .ok (.aload_n 0, 1) := by decide +kernel
theorem dX8_back_40 : decode cX8_back 40 = .ok (.getfield 148, 3) := by decide +kernel
theorem dX8_back_43 : decode cX8_back 43 = .ok (.imul, 1) := by decide +kernel
theorem dX8_back_44 : decode cX8_back 44 = .ok (.iload_n 1, 1) := by decide +kernel
theorem dX8_back_45 : decode cX8_back 45 = .ok (.iadd, 1) := by decide +kernel
theorem dX8_back_46 : decode cX8_back 46 = .ok (.iaload, 1) := by decide +kernel
theorem dX8_back_47 : decode cX8_back 47 = .ok (.iastore, 1) := by decide +kernel
theorem dX8_back_48 : decode cX8_back 48 = .ok (.iinc 1 1, 3) := by decide +kernel
theorem dX8_back_51 : decode cX8_back 51 = .ok (.goto (-29), 3) := by decide +kernel
theorem dX8_back_54 : decode cX8_back 54 = .ok (.aload_n 0, 1) := by decide +kernel
theorem dX8_back_55 : decode cX8_back 55 = .ok (.iconst 0, 1) := by decide +kernel
theorem dX8_back_56 : decode cX8_back 56 = .ok (.putfield 142, 3) := by decide +kernel
theorem dX8_back_59 : decode cX8_back 59 = .ok (.aload_n 0, 1) := by decide +kernel
theorem dX8_back_60 : decode cX8_back 60 = .ok (.getfield 148, 3) := by decide +kernel
theorem dX8_back_63 : decode cX8_back 63 = .ok (.ireturn, 1) := by decide +kernel
theorem dX8_count_0 : decode cX8_count 0 = .ok (.iload_n 1, 1) := by decide +kernel
theorem dX8_count_1 : decode cX8_count 1 = .ok (.tableswitch 135 0 11 #[63, 68, 73, 78, 83, 91, 99, 107, 115, 120, 125, 130], 63) := by decide +kernel
theorem dX8_count_64 : decode cX8_count 64 = .ok (.aload_n 0, 1) := by decide +kernel
theorem dX8_count_65 : decode cX8_count 65 = .ok (.getfield 75, 3) := by decide +kernel
theorem dX8_count_68 : decode cX8_count 68 = .ok (.ireturn, 1) := by decide +kernel
theorem dX8_count_69 : decode cX8_count 69 = .ok (.aload_n 0, 1) := by decide +kernel
theorem dX8_count_70 : decode cX8_count 70 = .ok (.getfield 136, 3) := by decide +kernel
theorem dX8_count_73 : decode cX8_count 73 = .ok (.ireturn, 1) := by decide +kernel
theorem dX8_count_74 : decode cX8_count 74 = .ok (.aload_n 0, 1) := by decide +kernel
theorem dX8_count_75 : decode cX8_count 75 = .ok (.getfield 139, 3) := by decide +kernel
theorem dX8_count_78 : decode cX8_count 78 = .ok (.ireturn, 1) := by decide +kernel
theorem dX8_count_79 : decode cX8_count 79 = .ok (.aload_n 0, 1) := by decide +kernel
theorem dX8_count_80 : decode cX8_count 80 = .ok (.getfield 71, 3) := by decide +kernel
theorem dX8_count_83 : decode cX8_count 83 = .ok (.ireturn, 1) := by decide +kernel
theorem dX8_count_84 : decode cX8_count 84 = .ok (.aload_n 0, 1) := by decide +kernel
theorem dX8_count_85 : decode cX8_count 85 = .ok (.getfield 16, 3) := by decide +kernel
theorem dX8_count_88 : decode cX8_count 88 = .ok (.bipush 40, 2) := by decide +kernel
theorem dX8_count_90 : decode cX8_count 90 = .ok (.iaload, 1) := by decide +kernel
theorem dX8_count_91 : decode cX8_count 91 = .ok (.ireturn, 1) := by decide +kernel
theorem dX8_count_92 : decode cX8_count 92 = .ok (.aload_n 0, 1) := by decide +kernel
theorem dX8_count_93 : decode cX8_count 93 = .ok (.getfield 16, 3) := by decide +kernel
theorem dX8_count_96 : decode cX8_count 96 = .ok (.bipush 41, 2) := by decide +kernel
theorem dX8_count_98 : decode cX8_count 98 = .ok (.iaload, 1) := by decide +kernel
theorem dX8_count_99 : decode cX8_count 99 = .ok (.ireturn, 1) := by decide +kernel
theorem dX8_count_100 : decode cX8_count 100 = .ok (.aload_n 0, 1) := by decide +kernel
theorem dX8_count_101 : decode cX8_count 101 = .ok (.getfield 16, 3) := by decide +kernel
theorem dX8_count_104 : decode cX8_count 104 = .ok (.bipush 42, 2) := by decide +kernel
theorem dX8_count_106 : decode cX8_count 106 = .ok (.iaload, 1) := by decide +kernel
theorem dX8_count_107 : decode cX8_count 107 = .ok (.ireturn, 1) := by decide +kernel
theorem dX8_count_108 : decode cX8_count 108 = .ok (.aload_n 0, 1) := by decide +kernel
theorem dX8_count_109 : decode cX8_count 109 = .ok (.getfield 16, 3) := by decide +kernel
theorem dX8_count_112 : decode cX8_count 112 = .ok (.bipush 43, 2) := by decide +kernel
theorem dX8_count_114 : decode cX8_count 114 = .ok (.iaload, 1) := by decide +kernel
theorem dX8_count_115 : decode cX8_count 115 = .ok (.ireturn, 1) := by decide +kernel
theorem dX8_count_116 : decode cX8_count 116 = .ok (.aload_n 0, 1) := by decide +kernel
theorem dX8_count_117 : decode cX8_count 117 = .ok (.getfield 145, 3) := by decide +kernel
theorem dX8_count_120 : decode cX8_count 120 = .ok (.ireturn, 1) := by decide +kernel
theorem dX8_count_121 : decode cX8_count 121 = .ok (.aload_n 0, 1) := by decide +kernel
theorem dX8_count_122 : decode cX8_count 122 = .ok (.getfield 142, 3) := by decide +kernel
theorem dX8_count_125 : decode cX8_count 125 = .ok (.ireturn, 1) := by decide +kernel
theorem dX8_count_126 : decode cX8_count 126 = .ok (.aload_n 0, 1) := by decide +kernel
theorem dX8_count_127 : decode cX8_count 127 = .ok (.getfield 148, 3) := by decide +kernel
theorem dX8_count_130 : decode cX8_count 130 = .ok (.ireturn, 1) := by decide +kernel
theorem dX8_count_131 : decode cX8_count 131 = .ok (.aload_n 0, 1) := by decide +kernel
theorem dX8_count_132 : decode cX8_count 132 = .ok (.getfield 88, 3) := by decide +kernel
theorem dX8_count_135 : decode cX8_count 135 = .ok (.ireturn, 1) := by decide +kernel
theorem dX8_count_136 : decode cX8_count 136 = .ok (.iconst (-1), 1) := by decide +kernel
theorem dX8_count_137 : decode cX8_count 137 = .ok (.ireturn, 1) := by decide +kernel
theorem dJ6_bitCount_0f7a4_0 : decode cJ6_bitCount_0f7a4 0 = .ok (.iload_n 0, 1) := by decide +kernel
theorem dJ6_bitCount_0f7a4_1 : decode cJ6_bitCount_0f7a4 1 = .ok (.iload_n 0, 1) := by decide +kernel
theorem dJ6_bitCount_0f7a4_2 : decode cJ6_bitCount_0f7a4 2 = .ok (.iconst 1, 1) := by decide +kernel
theorem dJ6_bitCount_0f7a4_3 : decode cJ6_bitCount_0f7a4 3 = .ok (.iushr, 1) := by decide +kernel
theorem dJ6_bitCount_0f7a4_4 : decode cJ6_bitCount_0f7a4 4 = .ok (.ldc_w 265, 3) := by decide +kernel
theorem dJ6_bitCount_0f7a4_7 : decode cJ6_bitCount_0f7a4 7 = .ok (.iand, 1) := by decide +kernel
theorem dJ6_bitCount_0f7a4_8 : decode cJ6_bitCount_0f7a4 8 = .ok (.isub, 1) := by decide +kernel
theorem dJ6_bitCount_0f7a4_9 : decode cJ6_bitCount_0f7a4 9 = .ok (.istore_n 0, 1) := by decide +kernel
theorem dJ6_bitCount_0f7a4_10 : decode cJ6_bitCount_0f7a4 10 = .ok (.iload_n 0, 1) := by decide +kernel
theorem dJ6_bitCount_0f7a4_11 : decode cJ6_bitCount_0f7a4 11 = .ok (.ldc_w 266, 3) := by decide +kernel
theorem dJ6_bitCount_0f7a4_14 : decode cJ6_bitCount_0f7a4 14 = .ok (.iand, 1) := by decide +kernel
theorem dJ6_bitCount_0f7a4_15 : decode cJ6_bitCount_0f7a4 15 = .ok (.iload_n 0, 1) := by decide +kernel
theorem dJ6_bitCount_0f7a4_16 : decode cJ6_bitCount_0f7a4 16 = .ok (.iconst 2, 1) := by decide +kernel
theorem dJ6_bitCount_0f7a4_17 : decode cJ6_bitCount_0f7a4 17 = .ok (.iushr, 1) := by decide +kernel
theorem dJ6_bitCount_0f7a4_18 : decode cJ6_bitCount_0f7a4 18 = .ok (.ldc_w 266, 3) := by decide +kernel
theorem dJ6_bitCount_0f7a4_21 : decode cJ6_bitCount_0f7a4 21 = .ok (.iand, 1) := by decide +kernel
theorem dJ6_bitCount_0f7a4_22 : decode cJ6_bitCount_0f7a4 22 = .ok (.iadd, 1) := by decide +kernel
theorem dJ6_bitCount_0f7a4_23 : decode cJ6_bitCount_0f7a4 23 = .ok (.istore_n 0, 1) := by decide +kernel
theorem dJ6_bitCount_0f7a4_24 : decode cJ6_bitCount_0f7a4 24 = .ok (.iload_n 0, 1) := by decide +kernel
theorem dJ6_bitCount_0f7a4_25 : decode cJ6_bitCount_0f7a4 25 = .ok (.iload_n 0, 1) := by decide +kernel
theorem dJ6_bitCount_0f7a4_26 : decode cJ6_bitCount_0f7a4 26 = .ok (.iconst 4, 1) := by decide +kernel
theorem dJ6_bitCount_0f7a4_27 : decode cJ6_bitCount_0f7a4 27 = .ok (.iushr, 1) := by decide +kernel
theorem dJ6_bitCount_0f7a4_28 : decode cJ6_bitCount_0f7a4 28 = .ok (.iadd, 1) := by decide +kernel
theorem dJ6_bitCount_0f7a4_29 : decode cJ6_bitCount_0f7a4 29 = .ok (.ldc_w 267, 3) := by decide +kernel
theorem dJ6_bitCount_0f7a4_32 : decode cJ6_bitCount_0f7a4 32 = .ok (.iand, 1) := by decide +kernel
theorem dJ6_bitCount_0f7a4_33 : decode cJ6_bitCount_0f7a4 33 = .ok (.istore_n 0, 1) := by decide +kernel
theorem dJ6_bitCount_0f7a4_34 : decode cJ6_bitCount_0f7a4 34 = .ok (.iload_n 0, 1) := by decide +kernel
theorem dJ6_bitCount_0f7a4_35 : decode cJ6_bitCount_0f7a4 35 = .ok (.iload_n 0, 1) := by decide +kernel
theorem dJ6_bitCount_0f7a4_36 : decode cJ6_bitCount_0f7a4 36 = .ok (.bipush 8, 2) := by decide +kernel
theorem dJ6_bitCount_0f7a4_38 : decode cJ6_bitCount_0f7a4 38 = .ok (.iushr, 1) := by decide +kernel
theorem dJ6_bitCount_0f7a4_39 : decode cJ6_bitCount_0f7a4 39 = .ok (.iadd, 1) := by decide +kernel
theorem dJ6_bitCount_0f7a4_40 : decode cJ6_bitCount_0f7a4 40 = .ok (.istore_n 0, 1) := by decide +kernel
theorem dJ6_bitCount_0f7a4_41 : decode cJ6_bitCount_0f7a4 41 = .ok (.iload_n 0, 1) := by decide +kernel
theorem dJ6_bitCount_0f7a4_42 : decode cJ6_bitCount_0f7a4 42 = .ok (.iload_n 0, 1) := by decide +kernel
theorem dJ6_bitCount_0f7a4_43 : decode cJ6_bitCount_0f7a4 43 = .ok (.bipush 16, 2) := by decide +kernel
theorem dJ6_bitCount_0f7a4_45 : decode cJ6_bitCount_0f7a4 45 = .ok (.iushr, 1) := by decide +kernel
theorem dJ6_bitCount_0f7a4_46 : decode cJ6_bitCount_0f7a4 46 = .ok (.iadd, 1) := by decide +kernel
theorem dJ6_bitCount_0f7a4_47 : decode cJ6_bitCount_0f7a4 47 = .ok (.istore_n 0, 1) := by decide +kernel
theorem dJ6_bitCount_0f7a4_48 : decode cJ6_bitCount_0f7a4 48 = .ok (.iload_n 0, 1) := by decide +kernel
theorem dJ6_bitCount_0f7a4_49 : decode cJ6_bitCount_0f7a4 49 = .ok (.bipush 63, 2) := by decide +kernel
theorem dJ6_bitCount_0f7a4_51 : decode cJ6_bitCount_0f7a4 51 = .ok (.iand, 1) := by decide +kernel
theorem dJ6_bitCount_0f7a4_52 : decode cJ6_bitCount_0f7a4 52 = .ok (.ireturn, 1) := by decide +kernel
theorem dJ9_max_7cf53_0 : decode cJ9_max_7cf53 0 = .ok (.iload_n 0, 1) := by decide +kernel
theorem dJ9_max_7cf53_1 : decode cJ9_max_7cf53 1 = .ok (.iload_n 1, 1) := by decide +kernel
theorem dJ9_max_7cf53_2 : decode cJ9_max_7cf53 2 = .ok (.if_icmp .lt 7, 3) := by decide +kernel
theorem dJ9_max_7cf53_5 : decode cJ9_max_7cf53 5 = .ok (.iload_n 0, 1) := by decide +kernel
theorem dJ9_max_7cf53_6 : decode cJ9_max_7cf53 6 = .ok (.goto 4, 3) := by decide +kernel
theorem dJ9_max_7cf53_9 : decode cJ9_max_7cf53 9 = .ok (.iload_n 1, 1) := by decide +kernel
theorem dJ9_max_7cf53_10 : decode cJ9_max_7cf53 10 = .ok (.ireturn, 1) := by decide +kernel
theorem dJ9_min_7cf53_0 : decode cJ9_min_7cf53 0 = .ok (.iload_n 0, 1) := by decide +kernel
theorem dJ9_min_7cf53_1 : decode cJ9_min_7cf53 1 = .ok (.iload_n 1, 1) := by decide +kernel
theorem dJ9_min_7cf53_2 : decode cJ9_min_7cf53 2 = .ok (.if_icmp .gt 7, 3) := by decide +kernel
theorem dJ9_min_7cf53_5 : decode cJ9_min_7cf53 5 = .ok (.iload_n 0, 1) := by decide +kernel
theorem dJ9_min_7cf53_6 : decode cJ9_min_7cf53 6 = .ok (.goto 4, 3) := by decide +kernel
theorem dJ9_min_7cf53_9 : decode cJ9_min_7cf53 9 = .ok (.iload_n 1, 1) := by decide +kernel
theorem dJ9_min_7cf53_10 : decode cJ9_min_7cf53 10 = .ok (.ireturn, 1) := by decide +kernel
theorem dJ0_length_8abf5_0 : decode cJ0_length_8abf5 0 = .ok (.aload_n 0, 1) := by decide +kernel
theorem dJ0_length_8abf5_1 : decode cJ0_length_8abf5 1 = .ok (.getfield 9, 3) := by decide +kernel
theorem dJ0_length_8abf5_4 : decode cJ0_length_8abf5 4 = .ok (.arraylength, 1) := by decide +kernel
theorem dJ0_length_8abf5_5 : decode cJ0_length_8abf5 5 = .ok (.aload_n 0, 1) := by decide +kernel
theorem dJ0_length_8abf5_6 : decode cJ0_length_8abf5 6 = .ok (.invokevirtual 335, 3) := by decide +kernel
theorem dJ0_length_8abf5_9 : decode cJ0_length_8abf5 9 = .ok (.ishr, 1) := by decide +kernel
theorem dJ0_length_8abf5_10 : decode cJ0_length_8abf5 10 = .ok (.ireturn, 1) := by decide +kernel
theorem dJ0_charAt_5068e_0 : decode cJ0_charAt_5068e 0 = .ok (.aload_n 0, 1) := by decide +kernel
theorem dJ0_charAt_5068e_1 : decode cJ0_charAt_5068e 1 = .ok (.invokevirtual 492, 3) := by decide +kernel
theorem dJ0_charAt_5068e_4 : decode cJ0_charAt_5068e 4 = .ok (.ifCond .eq 12, 3) := by decide +kernel
theorem dJ0_charAt_5068e_7 : decode cJ0_charAt_5068e 7 = .ok (.aload_n 0, 1) := by decide +kernel
theorem dJ0_charAt_5068e_8 : decode cJ0_charAt_5068e 8 = .ok (.getfield 9, 3) := by decide +kernel
theorem dJ0_charAt_5068e_11 : decode cJ0_charAt_5068e 11 = .ok (.iload_n 1, 1) := by decide +kernel
theorem dJ0_charAt_5068e_12 : decode cJ0_charAt_5068e 12 = .ok (.invokestatic 495, 3) := by decide +kernel
theorem dJ0_charAt_5068e_15 : decode cJ0_charAt_5068e 15 = .ok (.ireturn, 1) := by decide +kernel
theorem dJ0_charAt_5068e_16 : decode cJ0_charAt_5068e 16 = .ok (.aload_n 0, 1) := by decide +kernel
theorem dJ0_charAt_5068e_17 : decode cJ0_charAt_5068e 17 = .ok (.getfield 9, 3) := by decide +kernel
theorem dJ0_charAt_5068e_20 : decode cJ0_charAt_5068e 20 = .ok (.iload_n 1, 1) := by decide +kernel
theorem dJ0_charAt_5068e_21 : decode cJ0_charAt_5068e 21 = .ok (.invokestatic 498, 3) := by decide +kernel
theorem dJ0_charAt_5068e_24 : decode cJ0_charAt_5068e 24 = .ok (.ireturn, 1) := by decide +kernel
theorem dJ0_coder_7d493_0 : decode cJ0_coder_7d493 0 = .ok (.getstatic 38, 3) := by decide +kernel
theorem dJ0_coder_7d493_3 : decode cJ0_coder_7d493 3 = .ok (.ifCond .eq 10, 3) := by decide +kernel
theorem dJ0_coder_7d493_6 : decode cJ0_coder_7d493 6 = .ok (.aload_n 0, 1) := by decide +kernel
theorem dJ0_coder_7d493_7 : decode cJ0_coder_7d493 7 = .ok (.getfield 15, 3) := by decide +kernel
theorem dJ0_coder_7d493_10 : decode cJ0_coder_7d493 10 = .ok (.goto 4, 3) := by decide +kernel
theorem dJ0_coder_7d493_13 : decode cJ0_coder_7d493 13 = .ok (.iconst 1, 1) := by decide +kernel
theorem dJ0_coder_7d493_14 : decode cJ0_coder_7d493 14 = .ok (.ireturn, 1) := by decide +kernel
theorem dJ0_isLatin1_aae02_0 : decode cJ0_isLatin1_aae02 0 = .ok (.getstatic 38, 3) := by decide +kernel
theorem dJ0_isLatin1_aae02_3 : decode cJ0_isLatin1_aae02 3 = .ok (.ifCond .eq 14, 3) := by decide +kernel
theorem dJ0_isLatin1_aae02_6 : decode cJ0_isLatin1_aae02 6 = .ok (.aload_n 0, 1) := by decide +kernel
theorem dJ0_isLatin1_aae02_7 : decode cJ0_isLatin1_aae02 7 = .ok (.getfield 15, 3) := by decide +kernel
theorem dJ0_isLatin1_aae02_10 : decode cJ0_isLatin1_aae02 10 = .ok (.ifCond .ne 7, 3) := by decide +kernel
theorem dJ0_isLatin1_aae02_13 : decode cJ0_isLatin1_aae02 13 = .ok (.iconst 1, 1) := by decide +kernel
theorem dJ0_isLatin1_aae02_14 : decode cJ0_isLatin1_aae02 14 = .ok (.goto 4, 3) := by decide +kernel
theorem dJ0_isLatin1_aae02_17 : decode cJ0_isLatin1_aae02 17 = .ok (.iconst 0, 1) := by decide +kernel
theorem dJ0_isLatin1_aae02_18 : decode cJ0_isLatin1_aae02 18 = .ok (.ireturn, 1) := by decide +kernel
theorem dJ0_checkIndex_df160_0 : decode cJ0_checkIndex_df160 0 = .ok (.iload_n 0, 1) := by decide +kernel
theorem dJ0_checkIndex_df160_1 : decode cJ0_checkIndex_df160 1 = .ok (.iload_n 1, 1) := by decide +kernel
theorem dJ0_checkIndex_df160_2 : decode cJ0_checkIndex_df160 2 = .ok (.getstatic 1053, 3) := by decide +kernel
theorem dJ0_checkIndex_df160_5 : decode cJ0_checkIndex_df160 5 = .ok (.invokestatic 1059, 3) := by decide +kernel
theorem dJ0_checkIndex_df160_8 : decode cJ0_checkIndex_df160 8 = .ok (.pop, 1) := by decide +kernel
theorem dJ0_checkIndex_df160_9 : decode cJ0_checkIndex_df160 9 = .ok (.return_, 1) := by decide +kernel
theorem dJ1_charAt_3b067_0 : decode cJ1_charAt_3b067 0 = .ok (.iload_n 1, 1) := by decide +kernel
theorem dJ1_charAt_3b067_1 : decode cJ1_charAt_3b067 1 = .ok (.aload_n 0, 1) := by decide +kernel
theorem dJ1_charAt_3b067_2 : decode cJ1_charAt_3b067 2 = .ok (.arraylength, 1) := by decide +kernel
theorem dJ1_charAt_3b067_3 : decode cJ1_charAt_3b067 3 = .ok (.invokestatic 9, 3) := by decide +kernel
theorem dJ1_charAt_3b067_6 : decode cJ1_charAt_3b067 6 = .ok (.aload_n 0, 1) := by decide +kernel
theorem dJ1_charAt_3b067_7 : decode cJ1_charAt_3b067 7 = .ok (.iload_n 1, 1) := by decide +kernel
theorem dJ1_charAt_3b067_8 : decode cJ1_charAt_3b067 8 = .ok (.baload, 1) := by decide +kernel
theorem dJ1_charAt_3b067_9 : decode cJ1_charAt_3b067 9 = .ok (.sipush 255, 3) := by decide +kernel
theorem dJ1_charAt_3b067_12 : decode cJ1_charAt_3b067 12 = .ok (.iand, 1) := by decide +kernel
theorem dJ1_charAt_3b067_13 : decode cJ1_charAt_3b067 13 = .ok (.i2c, 1) := by decide +kernel
theorem dJ1_charAt_3b067_14 : decode cJ1_charAt_3b067 14 = .ok (.ireturn, 1) := by decide +kernel
theorem dJ2_getChar_3b067_0 : decode cJ2_getChar_3b067 0 = .ok (.getstatic 44, 3) := by decide +kernel
theorem dJ2_getChar_3b067_3 : decode cJ2_getChar_3b067 3 = .ok (.ifCond .ne 25, 3) := by decide +kernel
theorem dJ2_getChar_3b067_6 : decode cJ2_getChar_3b067 6 = .ok (.iload_n 1, 1) := by decide +kernel
theorem dJ2_getChar_3b067_7 : decode cJ2_getChar_3b067 7 = .ok (.ifCond .lt 11, 3) := by decide +kernel
theorem dJ2_getChar_3b067_10 : decode cJ2_getChar_3b067 10 = .ok (.iload_n 1, 1) := by decide +kernel
theorem dJ2_getChar_3b067_11 : decode cJ2_getChar_3b067 11 = .ok (.aload_n 0, 1) := by decide +kernel
theorem dJ2_getChar_3b067_12 : decode cJ2_getChar_3b067 12 = .ok (.invokestatic 48, 3) := by decide +kernel
theorem dJ2_getChar_3b067_15 : decode cJ2_getChar_3b067 15 = .ok (.if_icmp .lt 13, 3) := by decide +kernel
theorem dJ2_getChar_3b067_18 : decode cJ2_getChar_3b067 18 = .ok (.new 52, 3) := by decide +kernel
theorem dJ2_getChar_3b067_21 : decode cJ2_getChar_3b067 21 = .ok (.dup, 1) := by decide +kernel
theorem dJ2_getChar_3b067_22 : decode cJ2_getChar_3b067 22 = .ok (.ldc 54, 2) := by decide +kernel
theorem dJ2_getChar_3b067_24 : decode cJ2_getChar_3b067 24 = .ok (.invokespecial 56, 3) := by decide +kernel
theorem dJ2_getChar_3b067_27 : decode cJ2_getChar_3b067 27 = .ok (.athrow, 1) := by decide +kernel
theorem dJ2_getChar_3b067_28 : decode cJ2_getChar_3b067 28 = .ok (.iload_n 1, 1) := by decide +kernel
theorem dJ2_getChar_3b067_29 : decode cJ2_getChar_3b067 29 = .ok (.iconst 1, 1) := by decide +kernel
theorem dJ2_getChar_3b067_30 : decode cJ2_getChar_3b067 30 = .ok (.ishl, 1) := by decide +kernel
theorem dJ2_getChar_3b067_31 : decode cJ2_getChar_3b067 31 = .ok (.istore_n 1, 1) := by decide +kernel
theorem dJ2_getChar_3b067_32 : decode cJ2_getChar_3b067 32 = .ok (.aload_n 0, 1) := by decide +kernel
theorem dJ2_getChar_3b067_33 : decode cJ2_getChar_3b067 33 = .ok (.iload_n 1, 1) := by decide +kernel
theorem dJ2_getChar_3b067_34 : decode cJ2_getChar_3b067 34 = .ok (.iinc 1 1, 3) := by decide +kernel
theorem dJ2_getChar_3b067_37 : decode cJ2_getChar_3b067 37 = .ok (.baload, 1) := by decide +kernel
theorem dJ2_getChar_3b067_38 : decode cJ2_getChar_3b067 38 = .ok (.sipush 255, 3) := by decide +kernel
theorem dJ2_getChar_3b067_41 : decode cJ2_getChar_3b067 41 = .ok (.iand, 1) := by decide +kernel
theorem dJ2_getChar_3b067_42 : decode cJ2_getChar_3b067 42 = .ok (.getstatic 59, 3) := by decide +kernel
theorem dJ2_getChar_3b067_45 : decode cJ2_getChar_3b067 45 = .ok (.ishl, 1) := by decide +kernel
theorem dJ2_getChar_3b067_46 : decode cJ2_getChar_3b067 46 = .ok (.aload_n 0, 1) := by decide +kernel
theorem dJ2_getChar_3b067_47 : decode cJ2_getChar_3b067 47 = .ok (.iload_n 1, 1) := by decide +kernel
theorem dJ2_getChar_3b067_48 : decode cJ2_getChar_3b067 48 = .ok (.baload, 1) := by decide +kernel
theorem dJ2_getChar_3b067_49 : decode cJ2_getChar_3b067 49 = .ok (.sipush 255, 3) := by decide +kernel
theorem dJ2_getChar_3b067_52 : decode cJ2_getChar_3b067 52 = .ok (.iand, 1) := by decide +kernel
theorem dJ2_getChar_3b067_53 : decode cJ2_getChar_3b067 53 = .ok (.getstatic 63, 3) := by decide +kernel
theorem dJ2_getChar_3b067_56 : decode cJ2_getChar_3b067 56 = .ok (.ishl, 1) := by decide +kernel
theorem dJ2_getChar_3b067_57 : decode cJ2_getChar_3b067 57 = .ok (.ior, 1) := by decide +kernel
theorem dJ2_getChar_3b067_58 : decode cJ2_getChar_3b067 58 = .ok (.i2c, 1) := by decide +kernel
theorem dJ2_getChar_3b067_59 : decode cJ2_getChar_3b067 59 = .ok (.ireturn, 1) := by decide +kernel
theorem dJ2_length_9d52b_0 : decode cJ2_length_9d52b 0 = .ok (.aload_n 0, 1) := by decide +kernel
theorem dJ2_length_9d52b_1 : decode cJ2_length_9d52b 1 = .ok (.arraylength, 1) := by decide +kernel
theorem dJ2_length_9d52b_2 : decode cJ2_length_9d52b 2 = .ok (.iconst 1, 1) := by decide +kernel
theorem dJ2_length_9d52b_3 : decode cJ2_length_9d52b 3 = .ok (.ishr, 1) := by decide +kernel
theorem dJ2_length_9d52b_4 : decode cJ2_length_9d52b 4 = .ok (.ireturn, 1) := by decide +kernel
theorem dJ2_charAt_3b067_0 : decode cJ2_charAt_3b067 0 = .ok (.iload_n 1, 1) := by decide +kernel
theorem dJ2_charAt_3b067_1 : decode cJ2_charAt_3b067 1 = .ok (.aload_n 0, 1) := by decide +kernel
theorem dJ2_charAt_3b067_2 : decode cJ2_charAt_3b067 2 = .ok (.invokestatic 67, 3) := by decide +kernel
theorem dJ2_charAt_3b067_5 : decode cJ2_charAt_3b067 5 = .ok (.aload_n 0, 1) := by decide +kernel
theorem dJ2_charAt_3b067_6 : decode cJ2_charAt_3b067 6 = .ok (.iload_n 1, 1) := by decide +kernel
theorem dJ2_charAt_3b067_7 : decode cJ2_charAt_3b067 7 = .ok (.invokestatic 71, 3) := by decide +kernel
theorem dJ2_charAt_3b067_10 : decode cJ2_charAt_3b067 10 = .ok (.ireturn, 1) := by decide +kernel
theorem dJ2_checkIndex_2214a_0 : decode cJ2_checkIndex_2214a 0 = .ok (.iload_n 0, 1) := by decide +kernel
theorem dJ2_checkIndex_2214a_1 : decode cJ2_checkIndex_2214a 1 = .ok (.aload_n 1, 1) := by decide +kernel
theorem dJ2_checkIndex_2214a_2 : decode cJ2_checkIndex_2214a 2 = .ok (.invokestatic 48, 3) := by decide +kernel
theorem dJ2_checkIndex_2214a_5 : decode cJ2_checkIndex_2214a 5 = .ok (.invokestatic 414, 3) := by decide +kernel
theorem dJ2_checkIndex_2214a_8 : decode cJ2_checkIndex_2214a 8 = .ok (.return_, 1) := by decide +kernel
theorem dJ3_checkIndex_8e157_0 : decode cJ3_checkIndex_8e157 0 = .ok (.iload_n 0, 1) := by decide +kernel
theorem dJ3_checkIndex_8e157_1 : decode cJ3_checkIndex_8e157 1 = .ok (.ifCond .lt 8, 3) := by decide +kernel
theorem dJ3_checkIndex_8e157_4 : decode cJ3_checkIndex_8e157 4 = .ok (.iload_n 0, 1) := by decide +kernel
theorem dJ3_checkIndex_8e157_5 : decode cJ3_checkIndex_8e157 5 = .ok (.iload_n 1, 1) := by decide +kernel
theorem dJ3_checkIndex_8e157_6 : decode cJ3_checkIndex_8e157 6 = .ok (.if_icmp .lt 10, 3) := by decide +kernel
theorem dJ3_checkIndex_8e157_9 : decode cJ3_checkIndex_8e157 9 = .ok (.aload_n 2, 1) := by decide +kernel
theorem dJ3_checkIndex_8e157_10 : decode cJ3_checkIndex_8e157 10 = .ok (.iload_n 0, 1) := by decide +kernel
theorem dJ3_checkIndex_8e157_11 : decode cJ3_checkIndex_8e157 11 = .ok (.iload_n 1, 1) := by decide +kernel
theorem dJ3_checkIndex_8e157_12 : decode cJ3_checkIndex_8e157 12 = .ok (.invokestatic 95, 3) := by decide +kernel
theorem dJ3_checkIndex_8e157_15 : decode cJ3_checkIndex_8e157 15 = .ok (.athrow, 1) := by decide +kernel
theorem dJ3_checkIndex_8e157_16 : decode cJ3_checkIndex_8e157 16 = .ok (.iload_n 0, 1) := by decide +kernel
theorem dJ3_checkIndex_8e157_17 : decode cJ3_checkIndex_8e157 17 = .ok (.ireturn, 1) := by decide +kernel
theorem dL_law_0 : decode cL_law 0 = .ok (.new 7, 3) := by decide +kernel
theorem dL_law_3 : decode cL_law 3 = .ok (.dup, 1) := by decide +kernel
theorem dL_law_4 : decode cL_law 4 = .ok (.invokespecial 9, 3) := by decide +kernel
theorem dL_law_7 : decode cL_law 7 = .ok (.astore_n 1, 1) := by decide +kernel
theorem dL_law_8 : decode cL_law 8 = .ok (.new 10, 3) := by decide +kernel
theorem dL_law_11 : decode cL_law 11 = .ok (.dup, 1) := by decide +kernel
theorem dL_law_12 : decode cL_law 12 = .ok (.invokespecial 12, 3) := by decide +kernel
theorem dL_law_15 : decode cL_law 15 = .ok (.astore_n 2, 1) := by decide +kernel
theorem dL_law_16 : decode cL_law 16 = .ok (.iconst 0, 1) := by decide +kernel
theorem dL_law_17 : decode cL_law 17 = .ok (.istore_n 3, 1) := by decide +kernel
theorem dL_law_18 : decode cL_law 18 = .ok (.iload_n 3, 1) := by decide +kernel
theorem dL_law_19 : decode cL_law 19 = .ok (.aload_n 0, 1) := by decide +kernel
theorem dL_law_20 : decode cL_law 20 = .ok (.arraylength, 1) := by decide +kernel
theorem dL_law_21 : decode cL_law 21 = .ok (.iconst 4, 1) := by decide +kernel
theorem dL_law_22 : decode cL_law 22 = .ok (.isub, 1) := by decide +kernel
theorem dL_law_23 : decode cL_law 23 = .ok (.if_icmp .gt 904, 3) := by decide +kernel
theorem dL_law_26 : decode cL_law 26 = .ok (.aload_n 0, 1) := by decide +kernel
theorem dL_law_27 : decode cL_law 27 = .ok (.iload_n 3, 1) := by decide +kernel
theorem dL_law_28 : decode cL_law 28 = .ok (.iaload, 1) := by decide +kernel
theorem dL_law_29 : decode cL_law 29 = .ok (.bipush 31, 2) := by decide +kernel
theorem dL_law_31 : decode cL_law 31 = .ok (.iand, 1) := by decide +kernel
theorem dL_law_32 : decode cL_law 32 = .ok (.tableswitch 889 0 30 #[140, 163, 176, 189, 202, 235, 258, 281, 314, 347, 370, 403, 416, 439, 452, 495, 508, 531, 554, 587, 600, 613, 636, 659, 682, 741, 764, 797, 840, 853, 866], 140) := by decide +kernel
theorem dL_law_172 : decode cL_law 172 = .ok (.aload_n 1, 1) := by decide +kernel
theorem dL_law_173 : decode cL_law 173 = .ok (.aload_n 0, 1) := by decide +kernel
theorem dL_law_174 : decode cL_law 174 = .ok (.iload_n 3, 1) := by decide +kernel
theorem dL_law_175 : decode cL_law 175 = .ok (.iconst 1, 1) := by decide +kernel
theorem dL_law_176 : decode cL_law 176 = .ok (.iadd, 1) := by decide +kernel
theorem dL_law_177 : decode cL_law 177 = .ok (.iaload, 1) := by decide +kernel
theorem dL_law_178 : decode cL_law 178 = .ok (.invokevirtual 13, 3) := by decide +kernel
theorem dL_law_181 : decode cL_law 181 = .ok (.aload_n 2, 1) := by decide +kernel
theorem dL_law_182 : decode cL_law 182 = .ok (.aload_n 0, 1) := by decide +kernel
theorem dL_law_183 : decode cL_law 183 = .ok (.iload_n 3, 1) := by decide +kernel
theorem dL_law_184 : decode cL_law 184 = .ok (.iconst 1, 1) := by decide +kernel
theorem dL_law_185 : decode cL_law 185 = .ok (.iadd, 1) := by decide +kernel
theorem dL_law_186 : decode cL_law 186 = .ok (.iaload, 1) := by decide +kernel
theorem dL_law_187 : decode cL_law 187 = .ok (.invokevirtual 17, 3) := by decide +kernel
theorem dL_law_190 : decode cL_law 190 = .ok (.if_icmp .eq 731, 3) := by decide +kernel
theorem dL_law_193 : decode cL_law 193 = .ok (.iconst 0, 1) := by decide +kernel
theorem dL_law_194 : decode cL_law 194 = .ok (.ireturn, 1) := by decide +kernel
theorem dL_law_195 : decode cL_law 195 = .ok (.aload_n 1, 1) := by decide +kernel
theorem dL_law_196 : decode cL_law 196 = .ok (.invokevirtual 18, 3) := by decide +kernel
theorem dL_law_199 : decode cL_law 199 = .ok (.aload_n 2, 1) := by decide +kernel
theorem dL_law_200 : decode cL_law 200 = .ok (.invokevirtual 22, 3) := by decide +kernel
theorem dL_law_203 : decode cL_law 203 = .ok (.if_icmp .eq 718, 3) := by decide +kernel
theorem dL_law_206 : decode cL_law 206 = .ok (.iconst 0, 1) := by decide +kernel
theorem dL_law_207 : decode cL_law 207 = .ok (.ireturn, 1) := by decide +kernel
theorem dL_law_208 : decode cL_law 208 = .ok (.aload_n 1, 1) := by decide +kernel
theorem dL_law_209 : decode cL_law 209 = .ok (.invokevirtual 23, 3) := by decide +kernel
theorem dL_law_212 : decode cL_law 212 = .ok (.aload_n 2, 1) := by decide +kernel
theorem dL_law_213 : decode cL_law 213 = .ok (.invokevirtual 26, 3) := by decide +kernel
theorem dL_law_216 : decode cL_law 216 = .ok (.if_icmp .eq 705, 3) := by decide +kernel
theorem dL_law_219 : decode cL_law 219 = .ok (.iconst 0, 1) := by decide +kernel
theorem dL_law_220 : decode cL_law 220 = .ok (.ireturn, 1) := by decide +kernel
theorem dL_law_221 : decode cL_law 221 = .ok (.aload_n 1, 1) := by decide +kernel
theorem dL_law_222 : decode cL_law 222 = .ok (.invokevirtual 27, 3) := by decide +kernel
theorem dL_law_225 : decode cL_law 225 = .ok (.aload_n 2, 1) := by decide +kernel
theorem dL_law_226 : decode cL_law 226 = .ok (.invokevirtual 30, 3) := by decide +kernel
theorem dL_law_229 : decode cL_law 229 = .ok (.if_icmp .eq 692, 3) := by decide +kernel
theorem dL_law_232 : decode cL_law 232 = .ok (.iconst 0, 1) := by decide +kernel
theorem dL_law_233 : decode cL_law 233 = .ok (.ireturn, 1) := by decide +kernel
theorem dL_law_234 : decode cL_law 234 = .ok (.aload_n 1, 1) := by decide +kernel
theorem dL_law_235 : decode cL_law 235 = .ok (.aload_n 0, 1) := by decide +kernel
theorem dL_law_236 : decode cL_law 236 = .ok (.iload_n 3, 1) := by decide +kernel
theorem dL_law_237 : decode cL_law 237 = .ok (.iconst 1, 1) := by decide +kernel
theorem dL_law_238 : decode cL_law 238 = .ok (.iadd, 1) := by decide +kernel
theorem dL_law_239 : decode cL_law 239 = .ok (.iaload, 1) := by decide +kernel
theorem dL_law_240 : decode cL_law 240 = .ok (.aload_n 0, 1) := by decide +kernel
theorem dL_law_241 : decode cL_law 241 = .ok (.iload_n 3, 1) := by decide +kernel
theorem dL_law_242 : decode cL_law 242 = .ok (.iconst 2, 1) := by decide +kernel
theorem dL_law_243 : decode cL_law 243 = .ok (.iadd, 1) := by decide +kernel
theorem dL_law_244 : decode cL_law 244 = .ok (.iaload, 1) := by decide +kernel
theorem dL_law_245 : decode cL_law 245 = .ok (.invokevirtual 31, 3) := by decide +kernel
theorem dL_law_248 : decode cL_law 248 = .ok (.aload_n 2, 1) := by decide +kernel
theorem dL_law_249 : decode cL_law 249 = .ok (.aload_n 0, 1) := by decide +kernel
theorem dL_law_250 : decode cL_law 250 = .ok (.iload_n 3, 1) := by decide +kernel
theorem dL_law_251 : decode cL_law 251 = .ok (.iconst 1, 1) := by decide +kernel
theorem dL_law_252 : decode cL_law 252 = .ok (.iadd, 1) := by decide +kernel
theorem dL_law_253 : decode cL_law 253 = .ok (.iaload, 1) := by decide +kernel
theorem dL_law_254 : decode cL_law 254 = .ok (.aload_n 0, 1) := by decide +kernel
theorem dL_law_255 : decode cL_law 255 = .ok (.iload_n 3, 1) := by decide +kernel
theorem dL_law_256 : decode cL_law 256 = .ok (.iconst 2, 1) := by decide +kernel
theorem dL_law_257 : decode cL_law 257 = .ok (.iadd, 1) := by decide +kernel
theorem dL_law_258 : decode cL_law 258 = .ok (.iaload, 1) := by decide +kernel
theorem dL_law_259 : decode cL_law 259 = .ok (.invokevirtual 35, 3) := by decide +kernel
theorem dL_law_262 : decode cL_law 262 = .ok (.if_icmp .eq 659, 3) := by decide +kernel
theorem dL_law_265 : decode cL_law 265 = .ok (.iconst 0, 1) := by decide +kernel
theorem dL_law_266 : decode cL_law 266 = .ok (.ireturn, 1) := by decide +kernel
theorem dL_law_267 : decode cL_law 267 = .ok (.aload_n 1, 1) := by decide +kernel
theorem dL_law_268 : decode cL_law 268 = .ok (.aload_n 0, 1) := by decide +kernel
theorem dL_law_269 : decode cL_law 269 = .ok (.iload_n 3, 1) := by decide +kernel
theorem dL_law_270 : decode cL_law 270 = .ok (.iconst 1, 1) := by decide +kernel
theorem dL_law_271 : decode cL_law 271 = .ok (.iadd, 1) := by decide +kernel
theorem dL_law_272 : decode cL_law 272 = .ok (.iaload, 1) := by decide +kernel
theorem dL_law_273 : decode cL_law 273 = .ok (.invokevirtual 36, 3) := by decide +kernel
theorem dL_law_276 : decode cL_law 276 = .ok (.aload_n 2, 1) := by decide +kernel
theorem dL_law_277 : decode cL_law 277 = .ok (.aload_n 0, 1) := by decide +kernel
theorem dL_law_278 : decode cL_law 278 = .ok (.iload_n 3, 1) := by decide +kernel
theorem dL_law_279 : decode cL_law 279 = .ok (.iconst 1, 1) := by decide +kernel
theorem dL_law_280 : decode cL_law 280 = .ok (.iadd, 1) := by decide +kernel
theorem dL_law_281 : decode cL_law 281 = .ok (.iaload, 1) := by decide +kernel
theorem dL_law_282 : decode cL_law 282 = .ok (.invokevirtual 39, 3) := by decide +kernel
theorem dL_law_285 : decode cL_law 285 = .ok (.if_icmp .eq 636, 3) := by decide +kernel
theorem dL_law_288 : decode cL_law 288 = .ok (.iconst 0, 1) := by decide +kernel
theorem dL_law_289 : decode cL_law 289 = .ok (.ireturn, 1) := by decide +kernel
theorem dL_law_290 : decode cL_law 290 = .ok (.aload_n 1, 1) := by decide +kernel
theorem dL_law_291 : decode cL_law 291 = .ok (.aload_n 0, 1) := by decide +kernel
theorem dL_law_292 : decode cL_law 292 = .ok (.iload_n 3, 1) := by decide +kernel
theorem dL_law_293 : decode cL_law 293 = .ok (.iconst 1, 1) := by decide +kernel
theorem dL_law_294 : decode cL_law 294 = .ok (.iadd, 1) := by decide +kernel
theorem dL_law_295 : decode cL_law 295 = .ok (.iaload, 1) := by decide +kernel
theorem dL_law_296 : decode cL_law 296 = .ok (.invokevirtual 40, 3) := by decide +kernel
theorem dL_law_299 : decode cL_law 299 = .ok (.aload_n 2, 1) := by decide +kernel
theorem dL_law_300 : decode cL_law 300 = .ok (.aload_n 0, 1) := by decide +kernel
theorem dL_law_301 : decode cL_law 301 = .ok (.iload_n 3, 1) := by decide +kernel
theorem dL_law_302 : decode cL_law 302 = .ok (.iconst 1, 1) := by decide +kernel
theorem dL_law_303 : decode cL_law 303 = .ok (.iadd, 1) := by decide +kernel
theorem dL_law_304 : decode cL_law 304 = .ok (.iaload, 1) := by decide +kernel
theorem dL_law_305 : decode cL_law 305 = .ok (.invokevirtual 43, 3) := by decide +kernel
theorem dL_law_308 : decode cL_law 308 = .ok (.if_icmp .eq 613, 3) := by decide +kernel
theorem dL_law_311 : decode cL_law 311 = .ok (.iconst 0, 1) := by decide +kernel
theorem dL_law_312 : decode cL_law 312 = .ok (.ireturn, 1) := by decide +kernel
theorem dL_law_313 : decode cL_law 313 = .ok (.aload_n 1, 1) := by decide +kernel
theorem dL_law_314 : decode cL_law 314 = .ok (.aload_n 0, 1) := by decide +kernel
theorem dL_law_315 : decode cL_law 315 = .ok (.iload_n 3, 1) := by decide +kernel
theorem dL_law_316 : decode cL_law 316 = .ok (.iconst 1, 1) := by decide +kernel
theorem dL_law_317 : decode cL_law 317 = .ok (.iadd, 1) := by decide +kernel
theorem dL_law_318 : decode cL_law 318 = .ok (.iaload, 1) := by decide +kernel
theorem dL_law_319 : decode cL_law 319 = .ok (.aload_n 0, 1) := by decide +kernel
theorem dL_law_320 : decode cL_law 320 = .ok (.iload_n 3, 1) := by decide +kernel
theorem dL_law_321 : decode cL_law 321 = .ok (.iconst 2, 1) := by decide +kernel
theorem dL_law_322 : decode cL_law 322 = .ok (.iadd, 1) := by decide +kernel
theorem dL_law_323 : decode cL_law 323 = .ok (.iaload, 1) := by decide +kernel
theorem dL_law_324 : decode cL_law 324 = .ok (.invokevirtual 44, 3) := by decide +kernel
theorem dL_law_327 : decode cL_law 327 = .ok (.aload_n 2, 1) := by decide +kernel
theorem dL_law_328 : decode cL_law 328 = .ok (.aload_n 0, 1) := by decide +kernel
theorem dL_law_329 : decode cL_law 329 = .ok (.iload_n 3, 1) := by decide +kernel
theorem dL_law_330 : decode cL_law 330 = .ok (.iconst 1, 1) := by decide +kernel
theorem dL_law_331 : decode cL_law 331 = .ok (.iadd, 1) := by decide +kernel
theorem dL_law_332 : decode cL_law 332 = .ok (.iaload, 1) := by decide +kernel
theorem dL_law_333 : decode cL_law 333 = .ok (.aload_n 0, 1) := by decide +kernel
theorem dL_law_334 : decode cL_law 334 = .ok (.iload_n 3, 1) := by decide +kernel
theorem dL_law_335 : decode cL_law 335 = .ok (.iconst 2, 1) := by decide +kernel
theorem dL_law_336 : decode cL_law 336 = .ok (.iadd, 1) := by decide +kernel
theorem dL_law_337 : decode cL_law 337 = .ok (.iaload, 1) := by decide +kernel
theorem dL_law_338 : decode cL_law 338 = .ok (.invokevirtual 47, 3) := by decide +kernel
theorem dL_law_341 : decode cL_law 341 = .ok (.if_icmp .eq 580, 3) := by decide +kernel
theorem dL_law_344 : decode cL_law 344 = .ok (.iconst 0, 1) := by decide +kernel
theorem dL_law_345 : decode cL_law 345 = .ok (.ireturn, 1) := by decide +kernel
theorem dL_law_346 : decode cL_law 346 = .ok (.aload_n 1, 1) := by decide +kernel
theorem dL_law_347 : decode cL_law 347 = .ok (.aload_n 0, 1) := by decide +kernel
theorem dL_law_348 : decode cL_law 348 = .ok (.iload_n 3, 1) := by decide +kernel
theorem dL_law_349 : decode cL_law 349 = .ok (.iconst 1, 1) := by decide +kernel
theorem dL_law_350 : decode cL_law 350 = .ok (.iadd, 1) := by decide +kernel
theorem dL_law_351 : decode cL_law 351 = .ok (.iaload, 1) := by decide +kernel
theorem dL_law_352 : decode cL_law 352 = .ok (.aload_n 0, 1) := by decide +kernel
theorem dL_law_353 : decode cL_law 353 = .ok (.iload_n 3, 1) := by decide +kernel
theorem dL_law_354 : decode cL_law 354 = .ok (.iconst 2, 1) := by decide +kernel
theorem dL_law_355 : decode cL_law 355 = .ok (.iadd, 1) := by decide +kernel
theorem dL_law_356 : decode cL_law 356 = .ok (.iaload, 1) := by decide +kernel
theorem dL_law_357 : decode cL_law 357 = .ok (.invokevirtual 48, 3) := by decide +kernel
theorem dL_law_360 : decode cL_law 360 = .ok (.aload_n 2, 1) := by decide +kernel
theorem dL_law_361 : decode cL_law 361 = .ok (.aload_n 0, 1) := by decide +kernel
theorem dL_law_362 : decode cL_law 362 = .ok (.iload_n 3, 1) := by decide +kernel
theorem dL_law_363 : decode cL_law 363 = .ok (.iconst 1, 1) := by decide +kernel
theorem dL_law_364 : decode cL_law 364 = .ok (.iadd, 1) := by decide +kernel
theorem dL_law_365 : decode cL_law 365 = .ok (.iaload, 1) := by decide +kernel
theorem dL_law_366 : decode cL_law 366 = .ok (.aload_n 0, 1) := by decide +kernel
theorem dL_law_367 : decode cL_law 367 = .ok (.iload_n 3, 1) := by decide +kernel
theorem dL_law_368 : decode cL_law 368 = .ok (.iconst 2, 1) := by decide +kernel
theorem dL_law_369 : decode cL_law 369 = .ok (.iadd, 1) := by decide +kernel
theorem dL_law_370 : decode cL_law 370 = .ok (.iaload, 1) := by decide +kernel
theorem dL_law_371 : decode cL_law 371 = .ok (.invokevirtual 51, 3) := by decide +kernel
theorem dL_law_374 : decode cL_law 374 = .ok (.if_icmp .eq 547, 3) := by decide +kernel
theorem dL_law_377 : decode cL_law 377 = .ok (.iconst 0, 1) := by decide +kernel
theorem dL_law_378 : decode cL_law 378 = .ok (.ireturn, 1) := by decide +kernel
theorem dL_law_379 : decode cL_law 379 = .ok (.aload_n 1, 1) := by decide +kernel
theorem dL_law_380 : decode cL_law 380 = .ok (.aload_n 0, 1) := by decide +kernel
theorem dL_law_381 : decode cL_law 381 = .ok (.iload_n 3, 1) := by decide +kernel
theorem dL_law_382 : decode cL_law 382 = .ok (.iconst 1, 1) := by decide +kernel
theorem dL_law_383 : decode cL_law 383 = .ok (.iadd, 1) := by decide +kernel
theorem dL_law_384 : decode cL_law 384 = .ok (.iaload, 1) := by decide +kernel
theorem dL_law_385 : decode cL_law 385 = .ok (.invokevirtual 52, 3) := by decide +kernel
theorem dL_law_388 : decode cL_law 388 = .ok (.aload_n 2, 1) := by decide +kernel
theorem dL_law_389 : decode cL_law 389 = .ok (.aload_n 0, 1) := by decide +kernel
theorem dL_law_390 : decode cL_law 390 = .ok (.iload_n 3, 1) := by decide +kernel
theorem dL_law_391 : decode cL_law 391 = .ok (.iconst 1, 1) := by decide +kernel
theorem dL_law_392 : decode cL_law 392 = .ok (.iadd, 1) := by decide +kernel
theorem dL_law_393 : decode cL_law 393 = .ok (.iaload, 1) := by decide +kernel
theorem dL_law_394 : decode cL_law 394 = .ok (.invokevirtual 55, 3) := by decide +kernel
theorem dL_law_397 : decode cL_law 397 = .ok (.if_icmp .eq 524, 3) := by decide +kernel
theorem dL_law_400 : decode cL_law 400 = .ok (.iconst 0, 1) := by decide +kernel
theorem dL_law_401 : decode cL_law 401 = .ok (.ireturn, 1) := by decide +kernel
theorem dL_law_402 : decode cL_law 402 = .ok (.aload_n 1, 1) := by decide +kernel
theorem dL_law_403 : decode cL_law 403 = .ok (.aload_n 0, 1) := by decide +kernel
theorem dL_law_404 : decode cL_law 404 = .ok (.iload_n 3, 1) := by decide +kernel
theorem dL_law_405 : decode cL_law 405 = .ok (.iconst 1, 1) := by decide +kernel
theorem dL_law_406 : decode cL_law 406 = .ok (.iadd, 1) := by decide +kernel
theorem dL_law_407 : decode cL_law 407 = .ok (.iaload, 1) := by decide +kernel
theorem dL_law_408 : decode cL_law 408 = .ok (.aload_n 0, 1) := by decide +kernel
theorem dL_law_409 : decode cL_law 409 = .ok (.iload_n 3, 1) := by decide +kernel
theorem dL_law_410 : decode cL_law 410 = .ok (.iconst 2, 1) := by decide +kernel
theorem dL_law_411 : decode cL_law 411 = .ok (.iadd, 1) := by decide +kernel
theorem dL_law_412 : decode cL_law 412 = .ok (.iaload, 1) := by decide +kernel
theorem dL_law_413 : decode cL_law 413 = .ok (.invokevirtual 56, 3) := by decide +kernel
theorem dL_law_416 : decode cL_law 416 = .ok (.aload_n 2, 1) := by decide +kernel
theorem dL_law_417 : decode cL_law 417 = .ok (.aload_n 0, 1) := by decide +kernel
theorem dL_law_418 : decode cL_law 418 = .ok (.iload_n 3, 1) := by decide +kernel
theorem dL_law_419 : decode cL_law 419 = .ok (.iconst 1, 1) := by decide +kernel
theorem dL_law_420 : decode cL_law 420 = .ok (.iadd, 1) := by decide +kernel
theorem dL_law_421 : decode cL_law 421 = .ok (.iaload, 1) := by decide +kernel
theorem dL_law_422 : decode cL_law 422 = .ok (.aload_n 0, 1) := by decide +kernel
theorem dL_law_423 : decode cL_law 423 = .ok (.iload_n 3, 1) := by decide +kernel
theorem dL_law_424 : decode cL_law 424 = .ok (.iconst 2, 1) := by decide +kernel
theorem dL_law_425 : decode cL_law 425 = .ok (.iadd, 1) := by decide +kernel
theorem dL_law_426 : decode cL_law 426 = .ok (.iaload, 1) := by decide +kernel
theorem dL_law_427 : decode cL_law 427 = .ok (.invokevirtual 59, 3) := by decide +kernel
theorem dL_law_430 : decode cL_law 430 = .ok (.if_icmp .eq 491, 3) := by decide +kernel
theorem dL_law_433 : decode cL_law 433 = .ok (.iconst 0, 1) := by decide +kernel
theorem dL_law_434 : decode cL_law 434 = .ok (.ireturn, 1) := by decide +kernel
theorem dL_law_435 : decode cL_law 435 = .ok (.aload_n 1, 1) := by decide +kernel
theorem dL_law_436 : decode cL_law 436 = .ok (.invokevirtual 60, 3) := by decide +kernel
theorem dL_law_439 : decode cL_law 439 = .ok (.aload_n 2, 1) := by decide +kernel
theorem dL_law_440 : decode cL_law 440 = .ok (.invokevirtual 63, 3) := by decide +kernel
theorem dL_law_443 : decode cL_law 443 = .ok (.if_icmp .eq 478, 3) := by decide +kernel
theorem dL_law_446 : decode cL_law 446 = .ok (.iconst 0, 1) := by decide +kernel
theorem dL_law_447 : decode cL_law 447 = .ok (.ireturn, 1) := by decide +kernel
theorem dL_law_448 : decode cL_law 448 = .ok (.aload_n 1, 1) := by decide +kernel
theorem dL_law_449 : decode cL_law 449 = .ok (.aload_n 0, 1) := by decide +kernel
theorem dL_law_450 : decode cL_law 450 = .ok (.iload_n 3, 1) := by decide +kernel
theorem dL_law_451 : decode cL_law 451 = .ok (.iconst 1, 1) := by decide +kernel
theorem dL_law_452 : decode cL_law 452 = .ok (.iadd, 1) := by decide +kernel
theorem dL_law_453 : decode cL_law 453 = .ok (.iaload, 1) := by decide +kernel
theorem dL_law_454 : decode cL_law 454 = .ok (.invokevirtual 64, 3) := by decide +kernel
theorem dL_law_457 : decode cL_law 457 = .ok (.aload_n 2, 1) := by decide +kernel
theorem dL_law_458 : decode cL_law 458 = .ok (.aload_n 0, 1) := by decide +kernel
theorem dL_law_459 : decode cL_law 459 = .ok (.iload_n 3, 1) := by decide +kernel
theorem dL_law_460 : decode cL_law 460 = .ok (.iconst 1, 1) := by decide +kernel
theorem dL_law_461 : decode cL_law 461 = .ok (.iadd, 1) := by decide +kernel
theorem dL_law_462 : decode cL_law 462 = .ok (.iaload, 1) := by decide +kernel
theorem dL_law_463 : decode cL_law 463 = .ok (.invokevirtual 67, 3) := by decide +kernel
theorem dL_law_466 : decode cL_law 466 = .ok (.if_icmp .eq 455, 3) := by decide +kernel
theorem dL_law_469 : decode cL_law 469 = .ok (.iconst 0, 1) := by decide +kernel
theorem dL_law_470 : decode cL_law 470 = .ok (.ireturn, 1) := by decide +kernel
theorem dL_law_471 : decode cL_law 471 = .ok (.aload_n 1, 1) := by decide +kernel
theorem dL_law_472 : decode cL_law 472 = .ok (.invokevirtual 68, 3) := by decide +kernel
theorem dL_law_475 : decode cL_law 475 = .ok (.aload_n 2, 1) := by decide +kernel
theorem dL_law_476 : decode cL_law 476 = .ok (.invokevirtual 71, 3) := by decide +kernel
theorem dL_law_479 : decode cL_law 479 = .ok (.if_icmp .eq 442, 3) := by decide +kernel
theorem dL_law_482 : decode cL_law 482 = .ok (.iconst 0, 1) := by decide +kernel
theorem dL_law_483 : decode cL_law 483 = .ok (.ireturn, 1) := by decide +kernel
theorem dL_law_484 : decode cL_law 484 = .ok (.aload_n 1, 1) := by decide +kernel
theorem dL_law_485 : decode cL_law 485 = .ok (.aload_n 0, 1) := by decide +kernel
theorem dL_law_486 : decode cL_law 486 = .ok (.iload_n 3, 1) := by decide +kernel
theorem dL_law_487 : decode cL_law 487 = .ok (.iconst 1, 1) := by decide +kernel
theorem dL_law_488 : decode cL_law 488 = .ok (.iadd, 1) := by decide +kernel
theorem dL_law_489 : decode cL_law 489 = .ok (.iaload, 1) := by decide +kernel
theorem dL_law_490 : decode cL_law 490 = .ok (.aload_n 0, 1) := by decide +kernel
theorem dL_law_491 : decode cL_law 491 = .ok (.iload_n 3, 1) := by decide +kernel
theorem dL_law_492 : decode cL_law 492 = .ok (.iconst 2, 1) := by decide +kernel
theorem dL_law_493 : decode cL_law 493 = .ok (.iadd, 1) := by decide +kernel
theorem dL_law_494 : decode cL_law 494 = .ok (.iaload, 1) := by decide +kernel
theorem dL_law_495 : decode cL_law 495 = .ok (.aload_n 0, 1) := by decide +kernel
theorem dL_law_496 : decode cL_law 496 = .ok (.iload_n 3, 1) := by decide +kernel
theorem dL_law_497 : decode cL_law 497 = .ok (.iconst 3, 1) := by decide +kernel
theorem dL_law_498 : decode cL_law 498 = .ok (.iadd, 1) := by decide +kernel
theorem dL_law_499 : decode cL_law 499 = .ok (.iaload, 1) := by decide +kernel
theorem dL_law_500 : decode cL_law 500 = .ok (.invokevirtual 72, 3) := by decide +kernel
theorem dL_law_503 : decode cL_law 503 = .ok (.aload_n 2, 1) := by decide +kernel
theorem dL_law_504 : decode cL_law 504 = .ok (.aload_n 0, 1) := by decide +kernel
theorem dL_law_505 : decode cL_law 505 = .ok (.iload_n 3, 1) := by decide +kernel
theorem dL_law_506 : decode cL_law 506 = .ok (.iconst 1, 1) := by decide +kernel
theorem dL_law_507 : decode cL_law 507 = .ok (.iadd, 1) := by decide +kernel
theorem dL_law_508 : decode cL_law 508 = .ok (.iaload, 1) := by decide +kernel
theorem dL_law_509 : decode cL_law 509 = .ok (.aload_n 0, 1) := by decide +kernel
theorem dL_law_510 : decode cL_law 510 = .ok (.iload_n 3, 1) := by decide +kernel
theorem dL_law_511 : decode cL_law 511 = .ok (.iconst 2, 1) := by decide +kernel
theorem dL_law_512 : decode cL_law 512 = .ok (.iadd, 1) := by decide +kernel
theorem dL_law_513 : decode cL_law 513 = .ok (.iaload, 1) := by decide +kernel
theorem dL_law_514 : decode cL_law 514 = .ok (.aload_n 0, 1) := by decide +kernel
theorem dL_law_515 : decode cL_law 515 = .ok (.iload_n 3, 1) := by decide +kernel
theorem dL_law_516 : decode cL_law 516 = .ok (.iconst 3, 1) := by decide +kernel
theorem dL_law_517 : decode cL_law 517 = .ok (.iadd, 1) := by decide +kernel
theorem dL_law_518 : decode cL_law 518 = .ok (.iaload, 1) := by decide +kernel
theorem dL_law_519 : decode cL_law 519 = .ok (.invokevirtual 76, 3) := by decide +kernel
theorem dL_law_522 : decode cL_law 522 = .ok (.if_icmp .eq 399, 3) := by decide +kernel
theorem dL_law_525 : decode cL_law 525 = .ok (.iconst 0, 1) := by decide +kernel
theorem dL_law_526 : decode cL_law 526 = .ok (.ireturn, 1) := by decide +kernel
theorem dL_law_527 : decode cL_law 527 = .ok (.aload_n 1, 1) := by decide +kernel
theorem dL_law_528 : decode cL_law 528 = .ok (.invokevirtual 77, 3) := by decide +kernel
theorem dL_law_531 : decode cL_law 531 = .ok (.aload_n 2, 1) := by decide +kernel
theorem dL_law_532 : decode cL_law 532 = .ok (.invokevirtual 80, 3) := by decide +kernel
theorem dL_law_535 : decode cL_law 535 = .ok (.if_icmp .eq 386, 3) := by decide +kernel
theorem dL_law_538 : decode cL_law 538 = .ok (.iconst 0, 1) := by decide +kernel
theorem dL_law_539 : decode cL_law 539 = .ok (.ireturn, 1) := by decide +kernel
theorem dL_law_540 : decode cL_law 540 = .ok (.aload_n 1, 1) := by decide +kernel
theorem dL_law_541 : decode cL_law 541 = .ok (.aload_n 0, 1) := by decide +kernel
theorem dL_law_542 : decode cL_law 542 = .ok (.iload_n 3, 1) := by decide +kernel
theorem dL_law_543 : decode cL_law 543 = .ok (.iconst 1, 1) := by decide +kernel
theorem dL_law_544 : decode cL_law 544 = .ok (.iadd, 1) := by decide +kernel
theorem dL_law_545 : decode cL_law 545 = .ok (.iaload, 1) := by decide +kernel
theorem dL_law_546 : decode cL_law 546 = .ok (.invokevirtual 81, 3) := by decide +kernel
theorem dL_law_549 : decode cL_law 549 = .ok (.aload_n 2, 1) := by decide +kernel
theorem dL_law_550 : decode cL_law 550 = .ok (.aload_n 0, 1) := by decide +kernel
theorem dL_law_551 : decode cL_law 551 = .ok (.iload_n 3, 1) := by decide +kernel
theorem dL_law_552 : decode cL_law 552 = .ok (.iconst 1, 1) := by decide +kernel
theorem dL_law_553 : decode cL_law 553 = .ok (.iadd, 1) := by decide +kernel
theorem dL_law_554 : decode cL_law 554 = .ok (.iaload, 1) := by decide +kernel
theorem dL_law_555 : decode cL_law 555 = .ok (.invokevirtual 84, 3) := by decide +kernel
theorem dL_law_558 : decode cL_law 558 = .ok (.if_icmp .eq 363, 3) := by decide +kernel
theorem dL_law_561 : decode cL_law 561 = .ok (.iconst 0, 1) := by decide +kernel
theorem dL_law_562 : decode cL_law 562 = .ok (.ireturn, 1) := by decide +kernel
theorem dL_law_563 : decode cL_law 563 = .ok (.aload_n 1, 1) := by decide +kernel
theorem dL_law_564 : decode cL_law 564 = .ok (.aload_n 0, 1) := by decide +kernel
theorem dL_law_565 : decode cL_law 565 = .ok (.iload_n 3, 1) := by decide +kernel
theorem dL_law_566 : decode cL_law 566 = .ok (.iconst 1, 1) := by decide +kernel
theorem dL_law_567 : decode cL_law 567 = .ok (.iadd, 1) := by decide +kernel
theorem dL_law_568 : decode cL_law 568 = .ok (.iaload, 1) := by decide +kernel
theorem dL_law_569 : decode cL_law 569 = .ok (.invokevirtual 85, 3) := by decide +kernel
theorem dL_law_572 : decode cL_law 572 = .ok (.aload_n 2, 1) := by decide +kernel
theorem dL_law_573 : decode cL_law 573 = .ok (.aload_n 0, 1) := by decide +kernel
theorem dL_law_574 : decode cL_law 574 = .ok (.iload_n 3, 1) := by decide +kernel
theorem dL_law_575 : decode cL_law 575 = .ok (.iconst 1, 1) := by decide +kernel
theorem dL_law_576 : decode cL_law 576 = .ok (.iadd, 1) := by decide +kernel
theorem dL_law_577 : decode cL_law 577 = .ok (.iaload, 1) := by decide +kernel
theorem dL_law_578 : decode cL_law 578 = .ok (.invokevirtual 88, 3) := by decide +kernel
theorem dL_law_581 : decode cL_law 581 = .ok (.if_icmp .eq 340, 3) := by decide +kernel
theorem dL_law_584 : decode cL_law 584 = .ok (.iconst 0, 1) := by decide +kernel
theorem dL_law_585 : decode cL_law 585 = .ok (.ireturn, 1) := by decide +kernel
theorem dL_law_586 : decode cL_law 586 = .ok (.aload_n 1, 1) := by decide +kernel
theorem dL_law_587 : decode cL_law 587 = .ok (.aload_n 0, 1) := by decide +kernel
theorem dL_law_588 : decode cL_law 588 = .ok (.iload_n 3, 1) := by decide +kernel
theorem dL_law_589 : decode cL_law 589 = .ok (.iconst 1, 1) := by decide +kernel
theorem dL_law_590 : decode cL_law 590 = .ok (.iadd, 1) := by decide +kernel
theorem dL_law_591 : decode cL_law 591 = .ok (.iaload, 1) := by decide +kernel
theorem dL_law_592 : decode cL_law 592 = .ok (.aload_n 0, 1) := by decide +kernel
theorem dL_law_593 : decode cL_law 593 = .ok (.iload_n 3, 1) := by decide +kernel
theorem dL_law_594 : decode cL_law 594 = .ok (.iconst 2, 1) := by decide +kernel
theorem dL_law_595 : decode cL_law 595 = .ok (.iadd, 1) := by decide +kernel
theorem dL_law_596 : decode cL_law 596 = .ok (.iaload, 1) := by decide +kernel
theorem dL_law_597 : decode cL_law 597 = .ok (.invokevirtual 89, 3) := by decide +kernel
theorem dL_law_600 : decode cL_law 600 = .ok (.aload_n 2, 1) := by decide +kernel
theorem dL_law_601 : decode cL_law 601 = .ok (.aload_n 0, 1) := by decide +kernel
theorem dL_law_602 : decode cL_law 602 = .ok (.iload_n 3, 1) := by decide +kernel
theorem dL_law_603 : decode cL_law 603 = .ok (.iconst 1, 1) := by decide +kernel
theorem dL_law_604 : decode cL_law 604 = .ok (.iadd, 1) := by decide +kernel
theorem dL_law_605 : decode cL_law 605 = .ok (.iaload, 1) := by decide +kernel
theorem dL_law_606 : decode cL_law 606 = .ok (.aload_n 0, 1) := by decide +kernel
theorem dL_law_607 : decode cL_law 607 = .ok (.iload_n 3, 1) := by decide +kernel
theorem dL_law_608 : decode cL_law 608 = .ok (.iconst 2, 1) := by decide +kernel
theorem dL_law_609 : decode cL_law 609 = .ok (.iadd, 1) := by decide +kernel
theorem dL_law_610 : decode cL_law 610 = .ok (.iaload, 1) := by decide +kernel
theorem dL_law_611 : decode cL_law 611 = .ok (.invokevirtual 92, 3) := by decide +kernel
theorem dL_law_614 : decode cL_law 614 = .ok (.if_icmp .eq 307, 3) := by decide +kernel
theorem dL_law_617 : decode cL_law 617 = .ok (.iconst 0, 1) := by decide +kernel
theorem dL_law_618 : decode cL_law 618 = .ok (.ireturn, 1) := by decide +kernel
theorem dL_law_619 : decode cL_law 619 = .ok (.aload_n 1, 1) := by decide +kernel
theorem dL_law_620 : decode cL_law 620 = .ok (.invokevirtual 93, 3) := by decide +kernel
theorem dL_law_623 : decode cL_law 623 = .ok (.aload_n 2, 1) := by decide +kernel
theorem dL_law_624 : decode cL_law 624 = .ok (.invokevirtual 96, 3) := by decide +kernel
theorem dL_law_627 : decode cL_law 627 = .ok (.if_icmp .eq 294, 3) := by decide +kernel
theorem dL_law_630 : decode cL_law 630 = .ok (.iconst 0, 1) := by decide +kernel
theorem dL_law_631 : decode cL_law 631 = .ok (.ireturn, 1) := by decide +kernel
theorem dL_law_632 : decode cL_law 632 = .ok (.aload_n 1, 1) := by decide +kernel
theorem dL_law_633 : decode cL_law 633 = .ok (.invokevirtual 97, 3) := by decide +kernel
theorem dL_law_636 : decode cL_law 636 = .ok (.aload_n 2, 1) := by decide +kernel
theorem dL_law_637 : decode cL_law 637 = .ok (.invokevirtual 100, 3) := by decide +kernel
theorem dL_law_640 : decode cL_law 640 = .ok (.if_icmp .eq 281, 3) := by decide +kernel
theorem dL_law_643 : decode cL_law 643 = .ok (.iconst 0, 1) := by decide +kernel
theorem dL_law_644 : decode cL_law 644 = .ok (.ireturn, 1) := by decide +kernel
theorem dL_law_645 : decode cL_law 645 = .ok (.aload_n 1, 1) := by decide +kernel
theorem dL_law_646 : decode cL_law 646 = .ok (.aload_n 0, 1) := by decide +kernel
theorem dL_law_647 : decode cL_law 647 = .ok (.iload_n 3, 1) := by decide +kernel
theorem dL_law_648 : decode cL_law 648 = .ok (.iconst 1, 1) := by decide +kernel
theorem dL_law_649 : decode cL_law 649 = .ok (.iadd, 1) := by decide +kernel
theorem dL_law_650 : decode cL_law 650 = .ok (.iaload, 1) := by decide +kernel
theorem dL_law_651 : decode cL_law 651 = .ok (.invokevirtual 101, 3) := by decide +kernel
theorem dL_law_654 : decode cL_law 654 = .ok (.aload_n 2, 1) := by decide +kernel
theorem dL_law_655 : decode cL_law 655 = .ok (.aload_n 0, 1) := by decide +kernel
theorem dL_law_656 : decode cL_law 656 = .ok (.iload_n 3, 1) := by decide +kernel
theorem dL_law_657 : decode cL_law 657 = .ok (.iconst 1, 1) := by decide +kernel
theorem dL_law_658 : decode cL_law 658 = .ok (.iadd, 1) := by decide +kernel
theorem dL_law_659 : decode cL_law 659 = .ok (.iaload, 1) := by decide +kernel
theorem dL_law_660 : decode cL_law 660 = .ok (.invokevirtual 104, 3) := by decide +kernel
theorem dL_law_663 : decode cL_law 663 = .ok (.if_icmp .eq 258, 3) := by decide +kernel
theorem dL_law_666 : decode cL_law 666 = .ok (.iconst 0, 1) := by decide +kernel
theorem dL_law_667 : decode cL_law 667 = .ok (.ireturn, 1) := by decide +kernel
theorem dL_law_668 : decode cL_law 668 = .ok (.aload_n 1, 1) := by decide +kernel
theorem dL_law_669 : decode cL_law 669 = .ok (.aload_n 0, 1) := by decide +kernel
theorem dL_law_670 : decode cL_law 670 = .ok (.iload_n 3, 1) := by decide +kernel
theorem dL_law_671 : decode cL_law 671 = .ok (.iconst 1, 1) := by decide +kernel
theorem dL_law_672 : decode cL_law 672 = .ok (.iadd, 1) := by decide +kernel
theorem dL_law_673 : decode cL_law 673 = .ok (.iaload, 1) := by decide +kernel
theorem dL_law_674 : decode cL_law 674 = .ok (.invokevirtual 105, 3) := by decide +kernel
theorem dL_law_677 : decode cL_law 677 = .ok (.aload_n 2, 1) := by decide +kernel
theorem dL_law_678 : decode cL_law 678 = .ok (.aload_n 0, 1) := by decide +kernel
theorem dL_law_679 : decode cL_law 679 = .ok (.iload_n 3, 1) := by decide +kernel
theorem dL_law_680 : decode cL_law 680 = .ok (.iconst 1, 1) := by decide +kernel
theorem dL_law_681 : decode cL_law 681 = .ok (.iadd, 1) := by decide +kernel
theorem dL_law_682 : decode cL_law 682 = .ok (.iaload, 1) := by decide +kernel
theorem dL_law_683 : decode cL_law 683 = .ok (.invokevirtual 108, 3) := by decide +kernel
theorem dL_law_686 : decode cL_law 686 = .ok (.if_icmp .eq 235, 3) := by decide +kernel
theorem dL_law_689 : decode cL_law 689 = .ok (.iconst 0, 1) := by decide +kernel
theorem dL_law_690 : decode cL_law 690 = .ok (.ireturn, 1) := by decide +kernel
theorem dL_law_691 : decode cL_law 691 = .ok (.aload_n 1, 1) := by decide +kernel
theorem dL_law_692 : decode cL_law 692 = .ok (.aload_n 0, 1) := by decide +kernel
theorem dL_law_693 : decode cL_law 693 = .ok (.iload_n 3, 1) := by decide +kernel
theorem dL_law_694 : decode cL_law 694 = .ok (.iconst 1, 1) := by decide +kernel
theorem dL_law_695 : decode cL_law 695 = .ok (.iadd, 1) := by decide +kernel
theorem dL_law_696 : decode cL_law 696 = .ok (.iaload, 1) := by decide +kernel
theorem dL_law_697 : decode cL_law 697 = .ok (.invokevirtual 109, 3) := by decide +kernel
theorem dL_law_700 : decode cL_law 700 = .ok (.aload_n 2, 1) := by decide +kernel
theorem dL_law_701 : decode cL_law 701 = .ok (.aload_n 0, 1) := by decide +kernel
theorem dL_law_702 : decode cL_law 702 = .ok (.iload_n 3, 1) := by decide +kernel
theorem dL_law_703 : decode cL_law 703 = .ok (.iconst 1, 1) := by decide +kernel
theorem dL_law_704 : decode cL_law 704 = .ok (.iadd, 1) := by decide +kernel
theorem dL_law_705 : decode cL_law 705 = .ok (.iaload, 1) := by decide +kernel
theorem dL_law_706 : decode cL_law 706 = .ok (.invokevirtual 112, 3) := by decide +kernel
theorem dL_law_709 : decode cL_law 709 = .ok (.if_icmp .eq 212, 3) := by decide +kernel
theorem dL_law_712 : decode cL_law 712 = .ok (.iconst 0, 1) := by decide +kernel
theorem dL_law_713 : decode cL_law 713 = .ok (.ireturn, 1) := by decide +kernel
theorem dL_law_714 : decode cL_law 714 = .ok (.aload_n 1, 1) := by decide +kernel
theorem dL_law_715 : decode cL_law 715 = .ok (.aload_n 0, 1) := by decide +kernel
theorem dL_law_716 : decode cL_law 716 = .ok (.iload_n 3, 1) := by decide +kernel
theorem dL_law_717 : decode cL_law 717 = .ok (.iconst 1, 1) := by decide +kernel
theorem dL_law_718 : decode cL_law 718 = .ok (.iadd, 1) := by decide +kernel
theorem dL_law_719 : decode cL_law 719 = .ok (.iaload, 1) := by decide +kernel
theorem dL_law_720 : decode cL_law 720 = .ok (.aload_n 0, 1) := by decide +kernel
theorem dL_law_721 : decode cL_law 721 = .ok (.iload_n 3, 1) := by decide +kernel
theorem dL_law_722 : decode cL_law 722 = .ok (.iconst 2, 1) := by decide +kernel
theorem dL_law_723 : decode cL_law 723 = .ok (.iadd, 1) := by decide +kernel
theorem dL_law_724 : decode cL_law 724 = .ok (.iaload, 1) := by decide +kernel
theorem dL_law_725 : decode cL_law 725 = .ok (.aload_n 0, 1) := by decide +kernel
theorem dL_law_726 : decode cL_law 726 = .ok (.iload_n 3, 1) := by decide +kernel
theorem dL_law_727 : decode cL_law 727 = .ok (.iconst 3, 1) := by decide +kernel
theorem dL_law_728 : decode cL_law 728 = .ok (.iadd, 1) := by decide +kernel
theorem dL_law_729 : decode cL_law 729 = .ok (.iaload, 1) := by decide +kernel
theorem dL_law_730 : decode cL_law 730 = .ok (.ifCond .eq 7, 3) := by decide +kernel
theorem dL_law_733 : decode cL_law 733 = .ok (.iconst 1, 1) := by decide +kernel
theorem dL_law_734 : decode cL_law 734 = .ok (.goto 4, 3) := by decide +kernel
theorem dL_law_737 : decode cL_law 737 = .ok (.iconst 0, 1) := by decide +kernel
theorem dL_law_738 : decode cL_law 738 = .ok (.invokevirtual 113, 3) := by decide +kernel
theorem dL_law_741 : decode cL_law 741 = .ok (.aload_n 2, 1) := by decide +kernel
theorem dL_law_742 : decode cL_law 742 = .ok (.aload_n 0, 1) := by decide +kernel
theorem dL_law_743 : decode cL_law 743 = .ok (.iload_n 3, 1) := by decide +kernel
theorem dL_law_744 : decode cL_law 744 = .ok (.iconst 1, 1) := by decide +kernel
theorem dL_law_745 : decode cL_law 745 = .ok (.iadd, 1) := by decide +kernel
theorem dL_law_746 : decode cL_law 746 = .ok (.iaload, 1) := by decide +kernel
theorem dL_law_747 : decode cL_law 747 = .ok (.aload_n 0, 1) := by decide +kernel
theorem dL_law_748 : decode cL_law 748 = .ok (.iload_n 3, 1) := by decide +kernel
theorem dL_law_749 : decode cL_law 749 = .ok (.iconst 2, 1) := by decide +kernel
theorem dL_law_750 : decode cL_law 750 = .ok (.iadd, 1) := by decide +kernel
theorem dL_law_751 : decode cL_law 751 = .ok (.iaload, 1) := by decide +kernel
theorem dL_law_752 : decode cL_law 752 = .ok (.aload_n 0, 1) := by decide +kernel
theorem dL_law_753 : decode cL_law 753 = .ok (.iload_n 3, 1) := by decide +kernel
theorem dL_law_754 : decode cL_law 754 = .ok (.iconst 3, 1) := by decide +kernel
theorem dL_law_755 : decode cL_law 755 = .ok (.iadd, 1) := by decide +kernel
theorem dL_law_756 : decode cL_law 756 = .ok (.iaload, 1) := by decide +kernel
theorem dL_law_757 : decode cL_law 757 = .ok (.ifCond .eq 7, 3) := by decide +kernel
theorem dL_law_760 : decode cL_law 760 = .ok (.iconst 1, 1) := by decide +kernel
theorem dL_law_761 : decode cL_law 761 = .ok (.goto 4, 3) := by decide +kernel
theorem dL_law_764 : decode cL_law 764 = .ok (.iconst 0, 1) := by decide +kernel
theorem dL_law_765 : decode cL_law 765 = .ok (.invokevirtual 117, 3) := by decide +kernel
theorem dL_law_768 : decode cL_law 768 = .ok (.if_icmp .eq 153, 3) := by decide +kernel
theorem dL_law_771 : decode cL_law 771 = .ok (.iconst 0, 1) := by decide +kernel
theorem dL_law_772 : decode cL_law 772 = .ok (.ireturn, 1) := by decide +kernel
theorem dL_law_773 : decode cL_law 773 = .ok (.aload_n 1, 1) := by decide +kernel
theorem dL_law_774 : decode cL_law 774 = .ok (.aload_n 0, 1) := by decide +kernel
theorem dL_law_775 : decode cL_law 775 = .ok (.iload_n 3, 1) := by decide +kernel
theorem dL_law_776 : decode cL_law 776 = .ok (.iconst 1, 1) := by decide +kernel
theorem dL_law_777 : decode cL_law 777 = .ok (.iadd, 1) := by decide +kernel
theorem dL_law_778 : decode cL_law 778 = .ok (.iaload, 1) := by decide +kernel
theorem dL_law_779 : decode cL_law 779 = .ok (.invokevirtual 118, 3) := by decide +kernel
theorem dL_law_782 : decode cL_law 782 = .ok (.aload_n 2, 1) := by decide +kernel
theorem dL_law_783 : decode cL_law 783 = .ok (.aload_n 0, 1) := by decide +kernel
theorem dL_law_784 : decode cL_law 784 = .ok (.iload_n 3, 1) := by decide +kernel
theorem dL_law_785 : decode cL_law 785 = .ok (.iconst 1, 1) := by decide +kernel
theorem dL_law_786 : decode cL_law 786 = .ok (.iadd, 1) := by decide +kernel
theorem dL_law_787 : decode cL_law 787 = .ok (.iaload, 1) := by decide +kernel
theorem dL_law_788 : decode cL_law 788 = .ok (.invokevirtual 121, 3) := by decide +kernel
theorem dL_law_791 : decode cL_law 791 = .ok (.if_icmp .eq 130, 3) := by decide +kernel
theorem dL_law_794 : decode cL_law 794 = .ok (.iconst 0, 1) := by decide +kernel
theorem dL_law_795 : decode cL_law 795 = .ok (.ireturn, 1) := by decide +kernel
theorem dL_law_796 : decode cL_law 796 = .ok (.aload_n 1, 1) := by decide +kernel
theorem dL_law_797 : decode cL_law 797 = .ok (.aload_n 0, 1) := by decide +kernel
theorem dL_law_798 : decode cL_law 798 = .ok (.iload_n 3, 1) := by decide +kernel
theorem dL_law_799 : decode cL_law 799 = .ok (.iconst 1, 1) := by decide +kernel
theorem dL_law_800 : decode cL_law 800 = .ok (.iadd, 1) := by decide +kernel
theorem dL_law_801 : decode cL_law 801 = .ok (.iaload, 1) := by decide +kernel
theorem dL_law_802 : decode cL_law 802 = .ok (.aload_n 0, 1) := by decide +kernel
theorem dL_law_803 : decode cL_law 803 = .ok (.iload_n 3, 1) := by decide +kernel
theorem dL_law_804 : decode cL_law 804 = .ok (.iconst 2, 1) := by decide +kernel
theorem dL_law_805 : decode cL_law 805 = .ok (.iadd, 1) := by decide +kernel
theorem dL_law_806 : decode cL_law 806 = .ok (.iaload, 1) := by decide +kernel
theorem dL_law_807 : decode cL_law 807 = .ok (.invokevirtual 122, 3) := by decide +kernel
theorem dL_law_810 : decode cL_law 810 = .ok (.aload_n 2, 1) := by decide +kernel
theorem dL_law_811 : decode cL_law 811 = .ok (.aload_n 0, 1) := by decide +kernel
theorem dL_law_812 : decode cL_law 812 = .ok (.iload_n 3, 1) := by decide +kernel
theorem dL_law_813 : decode cL_law 813 = .ok (.iconst 1, 1) := by decide +kernel
theorem dL_law_814 : decode cL_law 814 = .ok (.iadd, 1) := by decide +kernel
theorem dL_law_815 : decode cL_law 815 = .ok (.iaload, 1) := by decide +kernel
theorem dL_law_816 : decode cL_law 816 = .ok (.aload_n 0, 1) := by decide +kernel
theorem dL_law_817 : decode cL_law 817 = .ok (.iload_n 3, 1) := by decide +kernel
theorem dL_law_818 : decode cL_law 818 = .ok (.iconst 2, 1) := by decide +kernel
theorem dL_law_819 : decode cL_law 819 = .ok (.iadd, 1) := by decide +kernel
theorem dL_law_820 : decode cL_law 820 = .ok (.iaload, 1) := by decide +kernel
theorem dL_law_821 : decode cL_law 821 = .ok (.invokevirtual 125, 3) := by decide +kernel
theorem dL_law_824 : decode cL_law 824 = .ok (.if_icmp .eq 97, 3) := by decide +kernel
theorem dL_law_827 : decode cL_law 827 = .ok (.iconst 0, 1) := by decide +kernel
theorem dL_law_828 : decode cL_law 828 = .ok (.ireturn, 1) := by decide +kernel
theorem dL_law_829 : decode cL_law 829 = .ok (.aload_n 1, 1) := by decide +kernel
theorem dL_law_830 : decode cL_law 830 = .ok (.aload_n 0, 1) := by decide +kernel
theorem dL_law_831 : decode cL_law 831 = .ok (.iload_n 3, 1) := by decide +kernel
theorem dL_law_832 : decode cL_law 832 = .ok (.iconst 1, 1) := by decide +kernel
theorem dL_law_833 : decode cL_law 833 = .ok (.iadd, 1) := by decide +kernel
theorem dL_law_834 : decode cL_law 834 = .ok (.iaload, 1) := by decide +kernel
theorem dL_law_835 : decode cL_law 835 = .ok (.aload_n 0, 1) := by decide +kernel
theorem dL_law_836 : decode cL_law 836 = .ok (.iload_n 3, 1) := by decide +kernel
theorem dL_law_837 : decode cL_law 837 = .ok (.iconst 2, 1) := by decide +kernel
theorem dL_law_838 : decode cL_law 838 = .ok (.iadd, 1) := by decide +kernel
theorem dL_law_839 : decode cL_law 839 = .ok (.iaload, 1) := by decide +kernel
theorem dL_law_840 : decode cL_law 840 = .ok (.aload_n 0, 1) := by decide +kernel
theorem dL_law_841 : decode cL_law 841 = .ok (.iload_n 3, 1) := by decide +kernel
theorem dL_law_842 : decode cL_law 842 = .ok (.iconst 3, 1) := by decide +kernel
theorem dL_law_843 : decode cL_law 843 = .ok (.iadd, 1) := by decide +kernel
theorem dL_law_844 : decode cL_law 844 = .ok (.iaload, 1) := by decide +kernel
theorem dL_law_845 : decode cL_law 845 = .ok (.invokevirtual 126, 3) := by decide +kernel
theorem dL_law_848 : decode cL_law 848 = .ok (.aload_n 2, 1) := by decide +kernel
theorem dL_law_849 : decode cL_law 849 = .ok (.aload_n 0, 1) := by decide +kernel
theorem dL_law_850 : decode cL_law 850 = .ok (.iload_n 3, 1) := by decide +kernel
theorem dL_law_851 : decode cL_law 851 = .ok (.iconst 1, 1) := by decide +kernel
theorem dL_law_852 : decode cL_law 852 = .ok (.iadd, 1) := by decide +kernel
theorem dL_law_853 : decode cL_law 853 = .ok (.iaload, 1) := by decide +kernel
theorem dL_law_854 : decode cL_law 854 = .ok (.aload_n 0, 1) := by decide +kernel
theorem dL_law_855 : decode cL_law 855 = .ok (.iload_n 3, 1) := by decide +kernel
theorem dL_law_856 : decode cL_law 856 = .ok (.iconst 2, 1) := by decide +kernel
theorem dL_law_857 : decode cL_law 857 = .ok (.iadd, 1) := by decide +kernel
theorem dL_law_858 : decode cL_law 858 = .ok (.iaload, 1) := by decide +kernel
theorem dL_law_859 : decode cL_law 859 = .ok (.aload_n 0, 1) := by decide +kernel
theorem dL_law_860 : decode cL_law 860 = .ok (.iload_n 3, 1) := by decide +kernel
theorem dL_law_861 : decode cL_law 861 = .ok (.iconst 3, 1) := by decide +kernel
theorem dL_law_862 : decode cL_law 862 = .ok (.iadd, 1) := by decide +kernel
theorem dL_law_863 : decode cL_law 863 = .ok (.iaload, 1) := by decide +kernel
theorem dL_law_864 : decode cL_law 864 = .ok (.invokevirtual 129, 3) := by decide +kernel
theorem dL_law_867 : decode cL_law 867 = .ok (.if_icmp .eq 54, 3) := by decide +kernel
theorem dL_law_870 : decode cL_law 870 = .ok (.iconst 0, 1) := by decide +kernel
theorem dL_law_871 : decode cL_law 871 = .ok (.ireturn, 1) := by decide +kernel
theorem dL_law_872 : decode cL_law 872 = .ok (.aload_n 1, 1) := by decide +kernel
theorem dL_law_873 : decode cL_law 873 = .ok (.invokevirtual 130, 3) := by decide +kernel
theorem dL_law_876 : decode cL_law 876 = .ok (.aload_n 2, 1) := by decide +kernel
theorem dL_law_877 : decode cL_law 877 = .ok (.invokevirtual 133, 3) := by decide +kernel
theorem dL_law_880 : decode cL_law 880 = .ok (.if_icmp .eq 41, 3) := by decide +kernel
theorem dL_law_883 : decode cL_law 883 = .ok (.iconst 0, 1) := by decide +kernel
theorem dL_law_884 : decode cL_law 884 = .ok (.ireturn, 1) := by decide +kernel
theorem dL_law_885 : decode cL_law 885 = .ok (.aload_n 1, 1) := by decide +kernel
theorem dL_law_886 : decode cL_law 886 = .ok (.invokevirtual 134, 3) := by decide +kernel
theorem dL_law_889 : decode cL_law 889 = .ok (.aload_n 2, 1) := by decide +kernel
theorem dL_law_890 : decode cL_law 890 = .ok (.invokevirtual 137, 3) := by decide +kernel
theorem dL_law_893 : decode cL_law 893 = .ok (.if_icmp .eq 28, 3) := by decide +kernel
theorem dL_law_896 : decode cL_law 896 = .ok (.iconst 0, 1) := by decide +kernel
theorem dL_law_897 : decode cL_law 897 = .ok (.ireturn, 1) := by decide +kernel
theorem dL_law_898 : decode cL_law 898 = .ok (.aload_n 1, 1) := by decide +kernel
theorem dL_law_899 : decode cL_law 899 = .ok (.aload_n 0, 1) := by decide +kernel
theorem dL_law_900 : decode cL_law 900 = .ok (.iload_n 3, 1) := by decide +kernel
theorem dL_law_901 : decode cL_law 901 = .ok (.iconst 1, 1) := by decide +kernel
theorem dL_law_902 : decode cL_law 902 = .ok (.iadd, 1) := by decide +kernel
theorem dL_law_903 : decode cL_law 903 = .ok (.iaload, 1) := by decide +kernel
theorem dL_law_904 : decode cL_law 904 = .ok (.invokevirtual 138, 3) := by decide +kernel
theorem dL_law_907 : decode cL_law 907 = .ok (.aload_n 2, 1) := by decide +kernel
theorem dL_law_908 : decode cL_law 908 = .ok (.aload_n 0, 1) := by decide +kernel
theorem dL_law_909 : decode cL_law 909 = .ok (.iload_n 3, 1) := by decide +kernel
theorem dL_law_910 : decode cL_law 910 = .ok (.iconst 1, 1) := by decide +kernel
theorem dL_law_911 : decode cL_law 911 = .ok (.iadd, 1) := by decide +kernel
theorem dL_law_912 : decode cL_law 912 = .ok (.iaload, 1) := by decide +kernel
theorem dL_law_913 : decode cL_law 913 = .ok (.invokevirtual 141, 3) := by decide +kernel
theorem dL_law_916 : decode cL_law 916 = .ok (.if_icmp .eq 5, 3) := by decide +kernel
theorem dL_law_919 : decode cL_law 919 = .ok (.iconst 0, 1) := by decide +kernel
theorem dL_law_920 : decode cL_law 920 = .ok (.ireturn, 1) := by decide +kernel
theorem dL_law_921 : decode cL_law 921 = .ok (.iinc 3 4, 3) := by decide +kernel
theorem dL_law_924 : decode cL_law 924 = .ok (.goto (-906), 3) := by decide +kernel
theorem dL_law_927 : decode cL_law 927 = .ok (.iconst 1, 1) := by decide +kernel
theorem dL_law_928 : decode cL_law 928 = .ok (.ireturn, 1) := by decide +kernel
