theorem d_Desk_init_0 : decode prog_1_method_1_code 0 = .ok (.aload_n 0, 1) := by decide +kernel
theorem d_Desk_init_1 : decode prog_1_method_1_code 1 = .ok (.invokespecial 1, 3) := by decide +kernel
theorem d_Desk_init_4 : decode prog_1_method_1_code 4 = .ok (.aload_n 0, 1) := by decide +kernel
theorem d_Desk_init_5 : decode prog_1_method_1_code 5 = .ok (.iconst 4, 1) := by decide +kernel
theorem d_Desk_init_6 : decode prog_1_method_1_code 6 = .ok (.anewarray 9, 3) := by decide +kernel
theorem d_Desk_init_9 : decode prog_1_method_1_code 9 = .ok (.putfield 11, 3) := by decide +kernel
theorem d_Desk_init_12 : decode prog_1_method_1_code 12 = .ok (.aload_n 0, 1) := by decide +kernel
theorem d_Desk_init_13 : decode prog_1_method_1_code 13 = .ok (.new 15, 3) := by decide +kernel
theorem d_Desk_init_16 : decode prog_1_method_1_code 16 = .ok (.dup, 1) := by decide +kernel
theorem d_Desk_init_17 : decode prog_1_method_1_code 17 = .ok (.invokespecial 17, 3) := by decide +kernel
theorem d_Desk_init_20 : decode prog_1_method_1_code 20 = .ok (.putfield 18, 3) := by decide +kernel
theorem d_Desk_init_23 : decode prog_1_method_1_code 23 = .ok (.aload_n 0, 1) := by decide +kernel
theorem d_Desk_init_24 : decode prog_1_method_1_code 24 = .ok (.aload_n 0, 1) := by decide +kernel
theorem d_Desk_init_25 : decode prog_1_method_1_code 25 = .ok (.getfield 18, 3) := by decide +kernel
theorem d_Desk_init_28 : decode prog_1_method_1_code 28 = .ok (.getfield 22, 3) := by decide +kernel
theorem d_Desk_init_31 : decode prog_1_method_1_code 31 = .ok (.putfield 26, 3) := by decide +kernel
theorem d_Desk_init_34 : decode prog_1_method_1_code 34 = .ok (.aload_n 0, 1) := by decide +kernel
theorem d_Desk_init_35 : decode prog_1_method_1_code 35 = .ok (.bipush 16, 2) := by decide +kernel
theorem d_Desk_init_37 : decode prog_1_method_1_code 37 = .ok (.anewarray 27, 3) := by decide +kernel
theorem d_Desk_init_40 : decode prog_1_method_1_code 40 = .ok (.putfield 29, 3) := by decide +kernel
theorem d_Desk_init_43 : decode prog_1_method_1_code 43 = .ok (.aload_n 0, 1) := by decide +kernel
theorem d_Desk_init_44 : decode prog_1_method_1_code 44 = .ok (.bipush 8, 2) := by decide +kernel
theorem d_Desk_init_46 : decode prog_1_method_1_code 46 = .ok (.anewarray 33, 3) := by decide +kernel
theorem d_Desk_init_49 : decode prog_1_method_1_code 49 = .ok (.putfield 35, 3) := by decide +kernel
theorem d_Desk_init_52 : decode prog_1_method_1_code 52 = .ok (.aload_n 0, 1) := by decide +kernel
theorem d_Desk_init_53 : decode prog_1_method_1_code 53 = .ok (.new 39, 3) := by decide +kernel
theorem d_Desk_init_56 : decode prog_1_method_1_code 56 = .ok (.dup, 1) := by decide +kernel
theorem d_Desk_init_57 : decode prog_1_method_1_code 57 = .ok (.bipush 8, 2) := by decide +kernel
theorem d_Desk_init_59 : decode prog_1_method_1_code 59 = .ok (.invokespecial 41, 3) := by decide +kernel
theorem d_Desk_init_62 : decode prog_1_method_1_code 62 = .ok (.putfield 44, 3) := by decide +kernel
theorem d_Desk_init_65 : decode prog_1_method_1_code 65 = .ok (.aload_n 0, 1) := by decide +kernel
theorem d_Desk_init_66 : decode prog_1_method_1_code 66 = .ok (.new 39, 3) := by decide +kernel
theorem d_Desk_init_69 : decode prog_1_method_1_code 69 = .ok (.dup, 1) := by decide +kernel
theorem d_Desk_init_70 : decode prog_1_method_1_code 70 = .ok (.bipush 8, 2) := by decide +kernel
theorem d_Desk_init_72 : decode prog_1_method_1_code 72 = .ok (.invokespecial 41, 3) := by decide +kernel
theorem d_Desk_init_75 : decode prog_1_method_1_code 75 = .ok (.putfield 48, 3) := by decide +kernel
theorem d_Desk_init_78 : decode prog_1_method_1_code 78 = .ok (.iconst 0, 1) := by decide +kernel
theorem d_Desk_init_79 : decode prog_1_method_1_code 79 = .ok (.istore_n 1, 1) := by decide +kernel
theorem d_Desk_init_80 : decode prog_1_method_1_code 80 = .ok (.iload_n 1, 1) := by decide +kernel
theorem d_Desk_init_81 : decode prog_1_method_1_code 81 = .ok (.iconst 4, 1) := by decide +kernel
theorem d_Desk_init_82 : decode prog_1_method_1_code 82 = .ok (.if_icmp .ge 22, 3) := by decide +kernel
theorem d_Desk_init_85 : decode prog_1_method_1_code 85 = .ok (.aload_n 0, 1) := by decide +kernel
theorem d_Desk_init_86 : decode prog_1_method_1_code 86 = .ok (.getfield 11, 3) := by decide +kernel
theorem d_Desk_init_89 : decode prog_1_method_1_code 89 = .ok (.iload_n 1, 1) := by decide +kernel
theorem d_Desk_init_90 : decode prog_1_method_1_code 90 = .ok (.new 9, 3) := by decide +kernel
theorem d_Desk_init_93 : decode prog_1_method_1_code 93 = .ok (.dup, 1) := by decide +kernel
theorem d_Desk_init_94 : decode prog_1_method_1_code 94 = .ok (.invokespecial 51, 3) := by decide +kernel
theorem d_Desk_init_97 : decode prog_1_method_1_code 97 = .ok (.aastore, 1) := by decide +kernel
theorem d_Desk_init_98 : decode prog_1_method_1_code 98 = .ok (.iinc 1 1, 3) := by decide +kernel
theorem d_Desk_init_101 : decode prog_1_method_1_code 101 = .ok (.goto (-21), 3) := by decide +kernel
theorem d_Desk_init_104 : decode prog_1_method_1_code 104 = .ok (.iconst 0, 1) := by decide +kernel
theorem d_Desk_init_105 : decode prog_1_method_1_code 105 = .ok (.istore_n 1, 1) := by decide +kernel
theorem d_Desk_init_106 : decode prog_1_method_1_code 106 = .ok (.iload_n 1, 1) := by decide +kernel
theorem d_Desk_init_107 : decode prog_1_method_1_code 107 = .ok (.bipush 16, 2) := by decide +kernel
theorem d_Desk_init_109 : decode prog_1_method_1_code 109 = .ok (.if_icmp .ge 22, 3) := by decide +kernel
theorem d_Desk_init_112 : decode prog_1_method_1_code 112 = .ok (.aload_n 0, 1) := by decide +kernel
theorem d_Desk_init_113 : decode prog_1_method_1_code 113 = .ok (.getfield 29, 3) := by decide +kernel
theorem d_Desk_init_116 : decode prog_1_method_1_code 116 = .ok (.iload_n 1, 1) := by decide +kernel
theorem d_Desk_init_117 : decode prog_1_method_1_code 117 = .ok (.new 27, 3) := by decide +kernel
theorem d_Desk_init_120 : decode prog_1_method_1_code 120 = .ok (.dup, 1) := by decide +kernel
theorem d_Desk_init_121 : decode prog_1_method_1_code 121 = .ok (.invokespecial 52, 3) := by decide +kernel
theorem d_Desk_init_124 : decode prog_1_method_1_code 124 = .ok (.aastore, 1) := by decide +kernel
theorem d_Desk_init_125 : decode prog_1_method_1_code 125 = .ok (.iinc 1 1, 3) := by decide +kernel
theorem d_Desk_init_128 : decode prog_1_method_1_code 128 = .ok (.goto (-22), 3) := by decide +kernel
theorem d_Desk_init_131 : decode prog_1_method_1_code 131 = .ok (.iconst 0, 1) := by decide +kernel
theorem d_Desk_init_132 : decode prog_1_method_1_code 132 = .ok (.istore_n 1, 1) := by decide +kernel
theorem d_Desk_init_133 : decode prog_1_method_1_code 133 = .ok (.iload_n 1, 1) := by decide +kernel
theorem d_Desk_init_134 : decode prog_1_method_1_code 134 = .ok (.bipush 8, 2) := by decide +kernel
theorem d_Desk_init_136 : decode prog_1_method_1_code 136 = .ok (.if_icmp .ge 22, 3) := by decide +kernel
theorem d_Desk_init_139 : decode prog_1_method_1_code 139 = .ok (.aload_n 0, 1) := by decide +kernel
theorem d_Desk_init_140 : decode prog_1_method_1_code 140 = .ok (.getfield 35, 3) := by decide +kernel
theorem d_Desk_init_143 : decode prog_1_method_1_code 143 = .ok (.iload_n 1, 1) := by decide +kernel
theorem d_Desk_init_144 : decode prog_1_method_1_code 144 = .ok (.new 33, 3) := by decide +kernel
theorem d_Desk_init_147 : decode prog_1_method_1_code 147 = .ok (.dup, 1) := by decide +kernel
theorem d_Desk_init_148 : decode prog_1_method_1_code 148 = .ok (.invokespecial 53, 3) := by decide +kernel
theorem d_Desk_init_151 : decode prog_1_method_1_code 151 = .ok (.aastore, 1) := by decide +kernel
theorem d_Desk_init_152 : decode prog_1_method_1_code 152 = .ok (.iinc 1 1, 3) := by decide +kernel
theorem d_Desk_init_155 : decode prog_1_method_1_code 155 = .ok (.goto (-22), 3) := by decide +kernel
theorem d_Desk_init_158 : decode prog_1_method_1_code 158 = .ok (.return_, 1) := by decide +kernel
theorem d_Sched_init_0 : decode prog_6_method_1_code 0 = .ok (.aload_n 0, 1) := by decide +kernel
theorem d_Sched_init_1 : decode prog_6_method_1_code 1 = .ok (.invokespecial 3, 3) := by decide +kernel
theorem d_Sched_init_4 : decode prog_6_method_1_code 4 = .ok (.aload_n 0, 1) := by decide +kernel
theorem d_Sched_init_5 : decode prog_6_method_1_code 5 = .ok (.bipush 8, 2) := by decide +kernel
theorem d_Sched_init_7 : decode prog_6_method_1_code 7 = .ok (.anewarray 9, 3) := by decide +kernel
theorem d_Sched_init_10 : decode prog_6_method_1_code 10 = .ok (.putfield 11, 3) := by decide +kernel
theorem d_Sched_init_13 : decode prog_6_method_1_code 13 = .ok (.aload_n 0, 1) := by decide +kernel
theorem d_Sched_init_14 : decode prog_6_method_1_code 14 = .ok (.bipush 8, 2) := by decide +kernel
theorem d_Sched_init_16 : decode prog_6_method_1_code 16 = .ok (.anewarray 17, 3) := by decide +kernel
theorem d_Sched_init_19 : decode prog_6_method_1_code 19 = .ok (.putfield 19, 3) := by decide +kernel
theorem d_Sched_init_22 : decode prog_6_method_1_code 22 = .ok (.aload_n 0, 1) := by decide +kernel
theorem d_Sched_init_23 : decode prog_6_method_1_code 23 = .ok (.iconst (-1), 1) := by decide +kernel
theorem d_Sched_init_24 : decode prog_6_method_1_code 24 = .ok (.putfield 23, 3) := by decide +kernel
theorem d_Sched_init_27 : decode prog_6_method_1_code 27 = .ok (.aload_n 0, 1) := by decide +kernel
theorem d_Sched_init_28 : decode prog_6_method_1_code 28 = .ok (.iconst (-1), 1) := by decide +kernel
theorem d_Sched_init_29 : decode prog_6_method_1_code 29 = .ok (.putfield 27, 3) := by decide +kernel
theorem d_Sched_init_32 : decode prog_6_method_1_code 32 = .ok (.iconst 0, 1) := by decide +kernel
theorem d_Sched_init_33 : decode prog_6_method_1_code 33 = .ok (.istore_n 1, 1) := by decide +kernel
theorem d_Sched_init_34 : decode prog_6_method_1_code 34 = .ok (.iload_n 1, 1) := by decide +kernel
theorem d_Sched_init_35 : decode prog_6_method_1_code 35 = .ok (.bipush 8, 2) := by decide +kernel
theorem d_Sched_init_37 : decode prog_6_method_1_code 37 = .ok (.if_icmp .ge 22, 3) := by decide +kernel
theorem d_Sched_init_40 : decode prog_6_method_1_code 40 = .ok (.aload_n 0, 1) := by decide +kernel
theorem d_Sched_init_41 : decode prog_6_method_1_code 41 = .ok (.getfield 11, 3) := by decide +kernel
theorem d_Sched_init_44 : decode prog_6_method_1_code 44 = .ok (.iload_n 1, 1) := by decide +kernel
theorem d_Sched_init_45 : decode prog_6_method_1_code 45 = .ok (.new 9, 3) := by decide +kernel
theorem d_Sched_init_48 : decode prog_6_method_1_code 48 = .ok (.dup, 1) := by decide +kernel
theorem d_Sched_init_49 : decode prog_6_method_1_code 49 = .ok (.invokespecial 30, 3) := by decide +kernel
theorem d_Sched_init_52 : decode prog_6_method_1_code 52 = .ok (.aastore, 1) := by decide +kernel
theorem d_Sched_init_53 : decode prog_6_method_1_code 53 = .ok (.iinc 1 1, 3) := by decide +kernel
theorem d_Sched_init_56 : decode prog_6_method_1_code 56 = .ok (.goto (-22), 3) := by decide +kernel
theorem d_Sched_init_59 : decode prog_6_method_1_code 59 = .ok (.iconst 0, 1) := by decide +kernel
theorem d_Sched_init_60 : decode prog_6_method_1_code 60 = .ok (.istore_n 1, 1) := by decide +kernel
theorem d_Sched_init_61 : decode prog_6_method_1_code 61 = .ok (.iload_n 1, 1) := by decide +kernel
theorem d_Sched_init_62 : decode prog_6_method_1_code 62 = .ok (.bipush 8, 2) := by decide +kernel
theorem d_Sched_init_64 : decode prog_6_method_1_code 64 = .ok (.if_icmp .ge 24, 3) := by decide +kernel
theorem d_Sched_init_67 : decode prog_6_method_1_code 67 = .ok (.aload_n 0, 1) := by decide +kernel
theorem d_Sched_init_68 : decode prog_6_method_1_code 68 = .ok (.getfield 19, 3) := by decide +kernel
theorem d_Sched_init_71 : decode prog_6_method_1_code 71 = .ok (.iload_n 1, 1) := by decide +kernel
theorem d_Sched_init_72 : decode prog_6_method_1_code 72 = .ok (.new 17, 3) := by decide +kernel
theorem d_Sched_init_75 : decode prog_6_method_1_code 75 = .ok (.dup, 1) := by decide +kernel
theorem d_Sched_init_76 : decode prog_6_method_1_code 76 = .ok (.bipush 8, 2) := by decide +kernel
theorem d_Sched_init_78 : decode prog_6_method_1_code 78 = .ok (.invokespecial 31, 3) := by decide +kernel
theorem d_Sched_init_81 : decode prog_6_method_1_code 81 = .ok (.aastore, 1) := by decide +kernel
theorem d_Sched_init_82 : decode prog_6_method_1_code 82 = .ok (.iinc 1 1, 3) := by decide +kernel
theorem d_Sched_init_85 : decode prog_6_method_1_code 85 = .ok (.goto (-24), 3) := by decide +kernel
theorem d_Sched_init_88 : decode prog_6_method_1_code 88 = .ok (.return_, 1) := by decide +kernel
theorem d_Thr_init_0 : decode prog_7_method_1_code 0 = .ok (.aload_n 0, 1) := by decide +kernel
theorem d_Thr_init_1 : decode prog_7_method_1_code 1 = .ok (.invokespecial 3, 3) := by decide +kernel
theorem d_Thr_init_4 : decode prog_7_method_1_code 4 = .ok (.aload_n 0, 1) := by decide +kernel
theorem d_Thr_init_5 : decode prog_7_method_1_code 5 = .ok (.new 9, 3) := by decide +kernel
theorem d_Thr_init_8 : decode prog_7_method_1_code 8 = .ok (.dup, 1) := by decide +kernel
theorem d_Thr_init_9 : decode prog_7_method_1_code 9 = .ok (.iconst 4, 1) := by decide +kernel
theorem d_Thr_init_10 : decode prog_7_method_1_code 10 = .ok (.invokespecial 11, 3) := by decide +kernel
theorem d_Thr_init_13 : decode prog_7_method_1_code 13 = .ok (.putfield 14, 3) := by decide +kernel
theorem d_Thr_init_16 : decode prog_7_method_1_code 16 = .ok (.aload_n 0, 1) := by decide +kernel
theorem d_Thr_init_17 : decode prog_7_method_1_code 17 = .ok (.iconst 3, 1) := by decide +kernel
theorem d_Thr_init_18 : decode prog_7_method_1_code 18 = .ok (.newarray .int, 2) := by decide +kernel
theorem d_Thr_init_20 : decode prog_7_method_1_code 20 = .ok (.putfield 20, 3) := by decide +kernel
theorem d_Thr_init_23 : decode prog_7_method_1_code 23 = .ok (.aload_n 0, 1) := by decide +kernel
theorem d_Thr_init_24 : decode prog_7_method_1_code 24 = .ok (.iconst 1, 1) := by decide +kernel
theorem d_Thr_init_25 : decode prog_7_method_1_code 25 = .ok (.putfield 24, 3) := by decide +kernel
theorem d_Thr_init_28 : decode prog_7_method_1_code 28 = .ok (.aload_n 0, 1) := by decide +kernel
theorem d_Thr_init_29 : decode prog_7_method_1_code 29 = .ok (.bipush (-10), 2) := by decide +kernel
theorem d_Thr_init_31 : decode prog_7_method_1_code 31 = .ok (.putfield 28, 3) := by decide +kernel
theorem d_Thr_init_34 : decode prog_7_method_1_code 34 = .ok (.aload_n 0, 1) := by decide +kernel
theorem d_Thr_init_35 : decode prog_7_method_1_code 35 = .ok (.iconst (-1), 1) := by decide +kernel
theorem d_Thr_init_36 : decode prog_7_method_1_code 36 = .ok (.putfield 31, 3) := by decide +kernel
theorem d_Thr_init_39 : decode prog_7_method_1_code 39 = .ok (.return_, 1) := by decide +kernel
theorem d_Row_init_0 : decode prog_4_method_1_code 0 = .ok (.aload_n 0, 1) := by decide +kernel
theorem d_Row_init_1 : decode prog_4_method_1_code 1 = .ok (.invokespecial 3, 3) := by decide +kernel
theorem d_Row_init_4 : decode prog_4_method_1_code 4 = .ok (.aload_n 0, 1) := by decide +kernel
theorem d_Row_init_5 : decode prog_4_method_1_code 5 = .ok (.iload_n 1, 1) := by decide +kernel
theorem d_Row_init_6 : decode prog_4_method_1_code 6 = .ok (.newarray .int, 2) := by decide +kernel
theorem d_Row_init_8 : decode prog_4_method_1_code 8 = .ok (.putfield 9, 3) := by decide +kernel
theorem d_Row_init_11 : decode prog_4_method_1_code 11 = .ok (.return_, 1) := by decide +kernel
theorem d_Proc_init_0 : decode prog_3_method_1_code 0 = .ok (.aload_n 0, 1) := by decide +kernel
theorem d_Proc_init_1 : decode prog_3_method_1_code 1 = .ok (.invokespecial 3, 3) := by decide +kernel
theorem d_Proc_init_4 : decode prog_3_method_1_code 4 = .ok (.aload_n 0, 1) := by decide +kernel
theorem d_Proc_init_5 : decode prog_3_method_1_code 5 = .ok (.bipush 8, 2) := by decide +kernel
theorem d_Proc_init_7 : decode prog_3_method_1_code 7 = .ok (.newarray .int, 2) := by decide +kernel
theorem d_Proc_init_9 : decode prog_3_method_1_code 9 = .ok (.putfield 9, 3) := by decide +kernel
theorem d_Proc_init_12 : decode prog_3_method_1_code 12 = .ok (.aload_n 0, 1) := by decide +kernel
theorem d_Proc_init_13 : decode prog_3_method_1_code 13 = .ok (.bipush 8, 2) := by decide +kernel
theorem d_Proc_init_15 : decode prog_3_method_1_code 15 = .ok (.newarray .int, 2) := by decide +kernel
theorem d_Proc_init_17 : decode prog_3_method_1_code 17 = .ok (.putfield 15, 3) := by decide +kernel
theorem d_Proc_init_20 : decode prog_3_method_1_code 20 = .ok (.iconst 0, 1) := by decide +kernel
theorem d_Proc_init_21 : decode prog_3_method_1_code 21 = .ok (.istore_n 1, 1) := by decide +kernel
theorem d_Proc_init_22 : decode prog_3_method_1_code 22 = .ok (.iload_n 1, 1) := by decide +kernel
theorem d_Proc_init_23 : decode prog_3_method_1_code 23 = .ok (.bipush 8, 2) := by decide +kernel
theorem d_Proc_init_25 : decode prog_3_method_1_code 25 = .ok (.if_icmp .ge 16, 3) := by decide +kernel
theorem d_Proc_init_28 : decode prog_3_method_1_code 28 = .ok (.aload_n 0, 1) := by decide +kernel
theorem d_Proc_init_29 : decode prog_3_method_1_code 29 = .ok (.getfield 9, 3) := by decide +kernel
theorem d_Proc_init_32 : decode prog_3_method_1_code 32 = .ok (.iload_n 1, 1) := by decide +kernel
theorem d_Proc_init_33 : decode prog_3_method_1_code 33 = .ok (.iconst (-1), 1) := by decide +kernel
theorem d_Proc_init_34 : decode prog_3_method_1_code 34 = .ok (.iastore, 1) := by decide +kernel
theorem d_Proc_init_35 : decode prog_3_method_1_code 35 = .ok (.iinc 1 1, 3) := by decide +kernel
theorem d_Proc_init_38 : decode prog_3_method_1_code 38 = .ok (.goto (-16), 3) := by decide +kernel
theorem d_Proc_init_41 : decode prog_3_method_1_code 41 = .ok (.return_, 1) := by decide +kernel
theorem d_Obj_init_0 : decode prog_2_method_1_code 0 = .ok (.aload_n 0, 1) := by decide +kernel
theorem d_Obj_init_1 : decode prog_2_method_1_code 1 = .ok (.invokespecial 3, 3) := by decide +kernel
theorem d_Obj_init_4 : decode prog_2_method_1_code 4 = .ok (.aload_n 0, 1) := by decide +kernel
theorem d_Obj_init_5 : decode prog_2_method_1_code 5 = .ok (.new 9, 3) := by decide +kernel
theorem d_Obj_init_8 : decode prog_2_method_1_code 8 = .ok (.dup, 1) := by decide +kernel
theorem d_Obj_init_9 : decode prog_2_method_1_code 9 = .ok (.invokespecial 11, 3) := by decide +kernel
theorem d_Obj_init_12 : decode prog_2_method_1_code 12 = .ok (.putfield 12, 3) := by decide +kernel
theorem d_Obj_init_15 : decode prog_2_method_1_code 15 = .ok (.aload_n 0, 1) := by decide +kernel
theorem d_Obj_init_16 : decode prog_2_method_1_code 16 = .ok (.new 18, 3) := by decide +kernel
theorem d_Obj_init_19 : decode prog_2_method_1_code 19 = .ok (.dup, 1) := by decide +kernel
theorem d_Obj_init_20 : decode prog_2_method_1_code 20 = .ok (.bipush 8, 2) := by decide +kernel
theorem d_Obj_init_22 : decode prog_2_method_1_code 22 = .ok (.invokespecial 20, 3) := by decide +kernel
theorem d_Obj_init_25 : decode prog_2_method_1_code 25 = .ok (.putfield 23, 3) := by decide +kernel
theorem d_Obj_init_28 : decode prog_2_method_1_code 28 = .ok (.aload_n 0, 1) := by decide +kernel
theorem d_Obj_init_29 : decode prog_2_method_1_code 29 = .ok (.iconst (-1), 1) := by decide +kernel
theorem d_Obj_init_30 : decode prog_2_method_1_code 30 = .ok (.putfield 27, 3) := by decide +kernel
theorem d_Obj_init_33 : decode prog_2_method_1_code 33 = .ok (.aload_n 0, 1) := by decide +kernel
theorem d_Obj_init_34 : decode prog_2_method_1_code 34 = .ok (.iconst (-1), 1) := by decide +kernel
theorem d_Obj_init_35 : decode prog_2_method_1_code 35 = .ok (.putfield 31, 3) := by decide +kernel
theorem d_Obj_init_38 : decode prog_2_method_1_code 38 = .ok (.aload_n 0, 1) := by decide +kernel
theorem d_Obj_init_39 : decode prog_2_method_1_code 39 = .ok (.iconst (-1), 1) := by decide +kernel
theorem d_Obj_init_40 : decode prog_2_method_1_code 40 = .ok (.putfield 34, 3) := by decide +kernel
theorem d_Obj_init_43 : decode prog_2_method_1_code 43 = .ok (.return_, 1) := by decide +kernel
theorem d_Rul_init_0 : decode prog_5_method_1_code 0 = .ok (.aload_n 0, 1) := by decide +kernel
theorem d_Rul_init_1 : decode prog_5_method_1_code 1 = .ok (.invokespecial 3, 3) := by decide +kernel
theorem d_Rul_init_4 : decode prog_5_method_1_code 4 = .ok (.aload_n 0, 1) := by decide +kernel
theorem d_Rul_init_5 : decode prog_5_method_1_code 5 = .ok (.iconst 4, 1) := by decide +kernel
theorem d_Rul_init_6 : decode prog_5_method_1_code 6 = .ok (.newarray .int, 2) := by decide +kernel
theorem d_Rul_init_8 : decode prog_5_method_1_code 8 = .ok (.putfield 9, 3) := by decide +kernel
theorem d_Rul_init_11 : decode prog_5_method_1_code 11 = .ok (.aload_n 0, 1) := by decide +kernel
theorem d_Rul_init_12 : decode prog_5_method_1_code 12 = .ok (.iconst 4, 1) := by decide +kernel
theorem d_Rul_init_13 : decode prog_5_method_1_code 13 = .ok (.newarray .int, 2) := by decide +kernel
theorem d_Rul_init_15 : decode prog_5_method_1_code 15 = .ok (.putfield 15, 3) := by decide +kernel
theorem d_Rul_init_18 : decode prog_5_method_1_code 18 = .ok (.aload_n 0, 1) := by decide +kernel
theorem d_Rul_init_19 : decode prog_5_method_1_code 19 = .ok (.iconst 4, 1) := by decide +kernel
theorem d_Rul_init_20 : decode prog_5_method_1_code 20 = .ok (.newarray .int, 2) := by decide +kernel
theorem d_Rul_init_22 : decode prog_5_method_1_code 22 = .ok (.putfield 18, 3) := by decide +kernel
theorem d_Rul_init_25 : decode prog_5_method_1_code 25 = .ok (.return_, 1) := by decide +kernel
theorem d_Tra_init_0 : decode prog_8_method_1_code 0 = .ok (.aload_n 0, 1) := by decide +kernel
theorem d_Tra_init_1 : decode prog_8_method_1_code 1 = .ok (.invokespecial 3, 3) := by decide +kernel
theorem d_Tra_init_4 : decode prog_8_method_1_code 4 = .ok (.aload_n 0, 1) := by decide +kernel
theorem d_Tra_init_5 : decode prog_8_method_1_code 5 = .ok (.iconst (-1), 1) := by decide +kernel
theorem d_Tra_init_6 : decode prog_8_method_1_code 6 = .ok (.putfield 9, 3) := by decide +kernel
theorem d_Tra_init_9 : decode prog_8_method_1_code 9 = .ok (.return_, 1) := by decide +kernel
theorem d_Mod_init_0 : decode prog_10_method_1_code 0 = .ok (.aload_n 0, 1) := by decide +kernel
theorem d_Mod_init_1 : decode prog_10_method_1_code 1 = .ok (.invokespecial 1, 3) := by decide +kernel
theorem d_Mod_init_4 : decode prog_10_method_1_code 4 = .ok (.aload_n 0, 1) := by decide +kernel
theorem d_Mod_init_5 : decode prog_10_method_1_code 5 = .ok (.iconst 4, 1) := by decide +kernel
theorem d_Mod_init_6 : decode prog_10_method_1_code 6 = .ok (.newarray .int, 2) := by decide +kernel
theorem d_Mod_init_8 : decode prog_10_method_1_code 8 = .ok (.putfield 7, 3) := by decide +kernel
theorem d_Mod_init_11 : decode prog_10_method_1_code 11 = .ok (.aload_n 0, 1) := by decide +kernel
theorem d_Mod_init_12 : decode prog_10_method_1_code 12 = .ok (.iconst 4, 1) := by decide +kernel
theorem d_Mod_init_13 : decode prog_10_method_1_code 13 = .ok (.newarray .int, 2) := by decide +kernel
theorem d_Mod_init_15 : decode prog_10_method_1_code 15 = .ok (.putfield 13, 3) := by decide +kernel
theorem d_Mod_init_18 : decode prog_10_method_1_code 18 = .ok (.aload_n 0, 1) := by decide +kernel
theorem d_Mod_init_19 : decode prog_10_method_1_code 19 = .ok (.iconst 4, 1) := by decide +kernel
theorem d_Mod_init_20 : decode prog_10_method_1_code 20 = .ok (.newarray .int, 2) := by decide +kernel
theorem d_Mod_init_22 : decode prog_10_method_1_code 22 = .ok (.putfield 16, 3) := by decide +kernel
theorem d_Mod_init_25 : decode prog_10_method_1_code 25 = .ok (.aload_n 0, 1) := by decide +kernel
theorem d_Mod_init_26 : decode prog_10_method_1_code 26 = .ok (.bipush 32, 2) := by decide +kernel
theorem d_Mod_init_28 : decode prog_10_method_1_code 28 = .ok (.newarray .int, 2) := by decide +kernel
theorem d_Mod_init_30 : decode prog_10_method_1_code 30 = .ok (.putfield 19, 3) := by decide +kernel
theorem d_Mod_init_33 : decode prog_10_method_1_code 33 = .ok (.aload_n 0, 1) := by decide +kernel
theorem d_Mod_init_34 : decode prog_10_method_1_code 34 = .ok (.bipush 32, 2) := by decide +kernel
theorem d_Mod_init_36 : decode prog_10_method_1_code 36 = .ok (.newarray .int, 2) := by decide +kernel
theorem d_Mod_init_38 : decode prog_10_method_1_code 38 = .ok (.putfield 22, 3) := by decide +kernel
theorem d_Mod_init_41 : decode prog_10_method_1_code 41 = .ok (.aload_n 0, 1) := by decide +kernel
theorem d_Mod_init_42 : decode prog_10_method_1_code 42 = .ok (.bipush 8, 2) := by decide +kernel
theorem d_Mod_init_44 : decode prog_10_method_1_code 44 = .ok (.newarray .int, 2) := by decide +kernel
theorem d_Mod_init_46 : decode prog_10_method_1_code 46 = .ok (.putfield 25, 3) := by decide +kernel
theorem d_Mod_init_49 : decode prog_10_method_1_code 49 = .ok (.aload_n 0, 1) := by decide +kernel
theorem d_Mod_init_50 : decode prog_10_method_1_code 50 = .ok (.bipush 8, 2) := by decide +kernel
theorem d_Mod_init_52 : decode prog_10_method_1_code 52 = .ok (.newarray .int, 2) := by decide +kernel
theorem d_Mod_init_54 : decode prog_10_method_1_code 54 = .ok (.putfield 28, 3) := by decide +kernel
theorem d_Mod_init_57 : decode prog_10_method_1_code 57 = .ok (.aload_n 0, 1) := by decide +kernel
theorem d_Mod_init_58 : decode prog_10_method_1_code 58 = .ok (.bipush 8, 2) := by decide +kernel
theorem d_Mod_init_60 : decode prog_10_method_1_code 60 = .ok (.newarray .int, 2) := by decide +kernel
theorem d_Mod_init_62 : decode prog_10_method_1_code 62 = .ok (.putfield 31, 3) := by decide +kernel
theorem d_Mod_init_65 : decode prog_10_method_1_code 65 = .ok (.aload_n 0, 1) := by decide +kernel
theorem d_Mod_init_66 : decode prog_10_method_1_code 66 = .ok (.bipush 8, 2) := by decide +kernel
theorem d_Mod_init_68 : decode prog_10_method_1_code 68 = .ok (.newarray .int, 2) := by decide +kernel
theorem d_Mod_init_70 : decode prog_10_method_1_code 70 = .ok (.putfield 34, 3) := by decide +kernel
theorem d_Mod_init_73 : decode prog_10_method_1_code 73 = .ok (.aload_n 0, 1) := by decide +kernel
theorem d_Mod_init_74 : decode prog_10_method_1_code 74 = .ok (.bipush 8, 2) := by decide +kernel
theorem d_Mod_init_76 : decode prog_10_method_1_code 76 = .ok (.newarray .int, 2) := by decide +kernel
theorem d_Mod_init_78 : decode prog_10_method_1_code 78 = .ok (.putfield 37, 3) := by decide +kernel
theorem d_Mod_init_81 : decode prog_10_method_1_code 81 = .ok (.aload_n 0, 1) := by decide +kernel
theorem d_Mod_init_82 : decode prog_10_method_1_code 82 = .ok (.bipush 8, 2) := by decide +kernel
theorem d_Mod_init_84 : decode prog_10_method_1_code 84 = .ok (.newarray .int, 2) := by decide +kernel
theorem d_Mod_init_86 : decode prog_10_method_1_code 86 = .ok (.putfield 40, 3) := by decide +kernel
theorem d_Mod_init_89 : decode prog_10_method_1_code 89 = .ok (.aload_n 0, 1) := by decide +kernel
theorem d_Mod_init_90 : decode prog_10_method_1_code 90 = .ok (.bipush 8, 2) := by decide +kernel
theorem d_Mod_init_92 : decode prog_10_method_1_code 92 = .ok (.newarray .int, 2) := by decide +kernel
theorem d_Mod_init_94 : decode prog_10_method_1_code 94 = .ok (.putfield 43, 3) := by decide +kernel
theorem d_Mod_init_97 : decode prog_10_method_1_code 97 = .ok (.aload_n 0, 1) := by decide +kernel
theorem d_Mod_init_98 : decode prog_10_method_1_code 98 = .ok (.bipush 8, 2) := by decide +kernel
theorem d_Mod_init_100 : decode prog_10_method_1_code 100 = .ok (.newarray .int, 2) := by decide +kernel
theorem d_Mod_init_102 : decode prog_10_method_1_code 102 = .ok (.putfield 46, 3) := by decide +kernel
theorem d_Mod_init_105 : decode prog_10_method_1_code 105 = .ok (.aload_n 0, 1) := by decide +kernel
theorem d_Mod_init_106 : decode prog_10_method_1_code 106 = .ok (.bipush 8, 2) := by decide +kernel
theorem d_Mod_init_108 : decode prog_10_method_1_code 108 = .ok (.newarray .int, 2) := by decide +kernel
theorem d_Mod_init_110 : decode prog_10_method_1_code 110 = .ok (.putfield 49, 3) := by decide +kernel
theorem d_Mod_init_113 : decode prog_10_method_1_code 113 = .ok (.aload_n 0, 1) := by decide +kernel
theorem d_Mod_init_114 : decode prog_10_method_1_code 114 = .ok (.bipush 8, 2) := by decide +kernel
theorem d_Mod_init_116 : decode prog_10_method_1_code 116 = .ok (.newarray .int, 2) := by decide +kernel
theorem d_Mod_init_118 : decode prog_10_method_1_code 118 = .ok (.putfield 52, 3) := by decide +kernel
theorem d_Mod_init_121 : decode prog_10_method_1_code 121 = .ok (.aload_n 0, 1) := by decide +kernel
theorem d_Mod_init_122 : decode prog_10_method_1_code 122 = .ok (.bipush 8, 2) := by decide +kernel
theorem d_Mod_init_124 : decode prog_10_method_1_code 124 = .ok (.newarray .int, 2) := by decide +kernel
theorem d_Mod_init_126 : decode prog_10_method_1_code 126 = .ok (.putfield 55, 3) := by decide +kernel
theorem d_Mod_init_129 : decode prog_10_method_1_code 129 = .ok (.aload_n 0, 1) := by decide +kernel
theorem d_Mod_init_130 : decode prog_10_method_1_code 130 = .ok (.bipush 8, 2) := by decide +kernel
theorem d_Mod_init_132 : decode prog_10_method_1_code 132 = .ok (.newarray .int, 2) := by decide +kernel
theorem d_Mod_init_134 : decode prog_10_method_1_code 134 = .ok (.putfield 58, 3) := by decide +kernel
theorem d_Mod_init_137 : decode prog_10_method_1_code 137 = .ok (.aload_n 0, 1) := by decide +kernel
theorem d_Mod_init_138 : decode prog_10_method_1_code 138 = .ok (.bipush 24, 2) := by decide +kernel
theorem d_Mod_init_140 : decode prog_10_method_1_code 140 = .ok (.newarray .int, 2) := by decide +kernel
theorem d_Mod_init_142 : decode prog_10_method_1_code 142 = .ok (.putfield 61, 3) := by decide +kernel
theorem d_Mod_init_145 : decode prog_10_method_1_code 145 = .ok (.aload_n 0, 1) := by decide +kernel
theorem d_Mod_init_146 : decode prog_10_method_1_code 146 = .ok (.bipush 32, 2) := by decide +kernel
theorem d_Mod_init_148 : decode prog_10_method_1_code 148 = .ok (.newarray .int, 2) := by decide +kernel
theorem d_Mod_init_150 : decode prog_10_method_1_code 150 = .ok (.putfield 64, 3) := by decide +kernel
theorem d_Mod_init_153 : decode prog_10_method_1_code 153 = .ok (.aload_n 0, 1) := by decide +kernel
theorem d_Mod_init_154 : decode prog_10_method_1_code 154 = .ok (.bipush 16, 2) := by decide +kernel
theorem d_Mod_init_156 : decode prog_10_method_1_code 156 = .ok (.newarray .boolean, 2) := by decide +kernel
theorem d_Mod_init_158 : decode prog_10_method_1_code 158 = .ok (.putfield 67, 3) := by decide +kernel
theorem d_Mod_init_161 : decode prog_10_method_1_code 161 = .ok (.aload_n 0, 1) := by decide +kernel
theorem d_Mod_init_162 : decode prog_10_method_1_code 162 = .ok (.bipush 16, 2) := by decide +kernel
theorem d_Mod_init_164 : decode prog_10_method_1_code 164 = .ok (.newarray .boolean, 2) := by decide +kernel
theorem d_Mod_init_166 : decode prog_10_method_1_code 166 = .ok (.putfield 71, 3) := by decide +kernel
theorem d_Mod_init_169 : decode prog_10_method_1_code 169 = .ok (.aload_n 0, 1) := by decide +kernel
theorem d_Mod_init_170 : decode prog_10_method_1_code 170 = .ok (.bipush 16, 2) := by decide +kernel
theorem d_Mod_init_172 : decode prog_10_method_1_code 172 = .ok (.newarray .boolean, 2) := by decide +kernel
theorem d_Mod_init_174 : decode prog_10_method_1_code 174 = .ok (.putfield 74, 3) := by decide +kernel
theorem d_Mod_init_177 : decode prog_10_method_1_code 177 = .ok (.aload_n 0, 1) := by decide +kernel
theorem d_Mod_init_178 : decode prog_10_method_1_code 178 = .ok (.bipush 16, 2) := by decide +kernel
theorem d_Mod_init_180 : decode prog_10_method_1_code 180 = .ok (.newarray .int, 2) := by decide +kernel
theorem d_Mod_init_182 : decode prog_10_method_1_code 182 = .ok (.putfield 77, 3) := by decide +kernel
theorem d_Mod_init_185 : decode prog_10_method_1_code 185 = .ok (.aload_n 0, 1) := by decide +kernel
theorem d_Mod_init_186 : decode prog_10_method_1_code 186 = .ok (.bipush 16, 2) := by decide +kernel
theorem d_Mod_init_188 : decode prog_10_method_1_code 188 = .ok (.newarray .int, 2) := by decide +kernel
theorem d_Mod_init_190 : decode prog_10_method_1_code 190 = .ok (.putfield 80, 3) := by decide +kernel
theorem d_Mod_init_193 : decode prog_10_method_1_code 193 = .ok (.aload_n 0, 1) := by decide +kernel
theorem d_Mod_init_194 : decode prog_10_method_1_code 194 = .ok (.bipush 16, 2) := by decide +kernel
theorem d_Mod_init_196 : decode prog_10_method_1_code 196 = .ok (.newarray .int, 2) := by decide +kernel
theorem d_Mod_init_198 : decode prog_10_method_1_code 198 = .ok (.putfield 83, 3) := by decide +kernel
theorem d_Mod_init_201 : decode prog_10_method_1_code 201 = .ok (.aload_n 0, 1) := by decide +kernel
theorem d_Mod_init_202 : decode prog_10_method_1_code 202 = .ok (.bipush 16, 2) := by decide +kernel
theorem d_Mod_init_204 : decode prog_10_method_1_code 204 = .ok (.newarray .int, 2) := by decide +kernel
theorem d_Mod_init_206 : decode prog_10_method_1_code 206 = .ok (.putfield 86, 3) := by decide +kernel
theorem d_Mod_init_209 : decode prog_10_method_1_code 209 = .ok (.aload_n 0, 1) := by decide +kernel
theorem d_Mod_init_210 : decode prog_10_method_1_code 210 = .ok (.bipush 16, 2) := by decide +kernel
theorem d_Mod_init_212 : decode prog_10_method_1_code 212 = .ok (.newarray .int, 2) := by decide +kernel
theorem d_Mod_init_214 : decode prog_10_method_1_code 214 = .ok (.putfield 89, 3) := by decide +kernel
theorem d_Mod_init_217 : decode prog_10_method_1_code 217 = .ok (.aload_n 0, 1) := by decide +kernel
theorem d_Mod_init_218 : decode prog_10_method_1_code 218 = .ok (.bipush 16, 2) := by decide +kernel
theorem d_Mod_init_220 : decode prog_10_method_1_code 220 = .ok (.newarray .int, 2) := by decide +kernel
theorem d_Mod_init_222 : decode prog_10_method_1_code 222 = .ok (.putfield 92, 3) := by decide +kernel
theorem d_Mod_init_225 : decode prog_10_method_1_code 225 = .ok (.aload_n 0, 1) := by decide +kernel
theorem d_Mod_init_226 : decode prog_10_method_1_code 226 = .ok (.bipush 64, 2) := by decide +kernel
theorem d_Mod_init_228 : decode prog_10_method_1_code 228 = .ok (.newarray .int, 2) := by decide +kernel
theorem d_Mod_init_230 : decode prog_10_method_1_code 230 = .ok (.putfield 95, 3) := by decide +kernel
theorem d_Mod_init_233 : decode prog_10_method_1_code 233 = .ok (.aload_n 0, 1) := by decide +kernel
theorem d_Mod_init_234 : decode prog_10_method_1_code 234 = .ok (.bipush 64, 2) := by decide +kernel
theorem d_Mod_init_236 : decode prog_10_method_1_code 236 = .ok (.newarray .int, 2) := by decide +kernel
theorem d_Mod_init_238 : decode prog_10_method_1_code 238 = .ok (.putfield 98, 3) := by decide +kernel
theorem d_Mod_init_241 : decode prog_10_method_1_code 241 = .ok (.aload_n 0, 1) := by decide +kernel
theorem d_Mod_init_242 : decode prog_10_method_1_code 242 = .ok (.bipush 64, 2) := by decide +kernel
theorem d_Mod_init_244 : decode prog_10_method_1_code 244 = .ok (.newarray .int, 2) := by decide +kernel
theorem d_Mod_init_246 : decode prog_10_method_1_code 246 = .ok (.putfield 101, 3) := by decide +kernel
theorem d_Mod_init_249 : decode prog_10_method_1_code 249 = .ok (.aload_n 0, 1) := by decide +kernel
theorem d_Mod_init_250 : decode prog_10_method_1_code 250 = .ok (.bipush 8, 2) := by decide +kernel
theorem d_Mod_init_252 : decode prog_10_method_1_code 252 = .ok (.newarray .int, 2) := by decide +kernel
theorem d_Mod_init_254 : decode prog_10_method_1_code 254 = .ok (.putfield 104, 3) := by decide +kernel
theorem d_Mod_init_257 : decode prog_10_method_1_code 257 = .ok (.aload_n 0, 1) := by decide +kernel
theorem d_Mod_init_258 : decode prog_10_method_1_code 258 = .ok (.bipush 8, 2) := by decide +kernel
theorem d_Mod_init_260 : decode prog_10_method_1_code 260 = .ok (.newarray .int, 2) := by decide +kernel
theorem d_Mod_init_262 : decode prog_10_method_1_code 262 = .ok (.putfield 107, 3) := by decide +kernel
theorem d_Mod_init_265 : decode prog_10_method_1_code 265 = .ok (.aload_n 0, 1) := by decide +kernel
theorem d_Mod_init_266 : decode prog_10_method_1_code 266 = .ok (.bipush 8, 2) := by decide +kernel
theorem d_Mod_init_268 : decode prog_10_method_1_code 268 = .ok (.newarray .int, 2) := by decide +kernel
theorem d_Mod_init_270 : decode prog_10_method_1_code 270 = .ok (.putfield 110, 3) := by decide +kernel
theorem d_Mod_init_273 : decode prog_10_method_1_code 273 = .ok (.aload_n 0, 1) := by decide +kernel
theorem d_Mod_init_274 : decode prog_10_method_1_code 274 = .ok (.bipush 8, 2) := by decide +kernel
theorem d_Mod_init_276 : decode prog_10_method_1_code 276 = .ok (.newarray .int, 2) := by decide +kernel
theorem d_Mod_init_278 : decode prog_10_method_1_code 278 = .ok (.putfield 113, 3) := by decide +kernel
theorem d_Mod_init_281 : decode prog_10_method_1_code 281 = .ok (.aload_n 0, 1) := by decide +kernel
theorem d_Mod_init_282 : decode prog_10_method_1_code 282 = .ok (.bipush 8, 2) := by decide +kernel
theorem d_Mod_init_284 : decode prog_10_method_1_code 284 = .ok (.newarray .int, 2) := by decide +kernel
theorem d_Mod_init_286 : decode prog_10_method_1_code 286 = .ok (.putfield 116, 3) := by decide +kernel
theorem d_Mod_init_289 : decode prog_10_method_1_code 289 = .ok (.aload_n 0, 1) := by decide +kernel
theorem d_Mod_init_290 : decode prog_10_method_1_code 290 = .ok (.bipush 8, 2) := by decide +kernel
theorem d_Mod_init_292 : decode prog_10_method_1_code 292 = .ok (.newarray .int, 2) := by decide +kernel
theorem d_Mod_init_294 : decode prog_10_method_1_code 294 = .ok (.putfield 119, 3) := by decide +kernel
theorem d_Mod_init_297 : decode prog_10_method_1_code 297 = .ok (.aload_n 0, 1) := by decide +kernel
theorem d_Mod_init_298 : decode prog_10_method_1_code 298 = .ok (.bipush 8, 2) := by decide +kernel
theorem d_Mod_init_300 : decode prog_10_method_1_code 300 = .ok (.newarray .int, 2) := by decide +kernel
theorem d_Mod_init_302 : decode prog_10_method_1_code 302 = .ok (.putfield 122, 3) := by decide +kernel
theorem d_Mod_init_305 : decode prog_10_method_1_code 305 = .ok (.aload_n 0, 1) := by decide +kernel
theorem d_Mod_init_306 : decode prog_10_method_1_code 306 = .ok (.bipush 8, 2) := by decide +kernel
theorem d_Mod_init_308 : decode prog_10_method_1_code 308 = .ok (.newarray .boolean, 2) := by decide +kernel
theorem d_Mod_init_310 : decode prog_10_method_1_code 310 = .ok (.putfield 125, 3) := by decide +kernel
theorem d_Mod_init_313 : decode prog_10_method_1_code 313 = .ok (.aload_n 0, 1) := by decide +kernel
theorem d_Mod_init_314 : decode prog_10_method_1_code 314 = .ok (.bipush 8, 2) := by decide +kernel
theorem d_Mod_init_316 : decode prog_10_method_1_code 316 = .ok (.newarray .boolean, 2) := by decide +kernel
theorem d_Mod_init_318 : decode prog_10_method_1_code 318 = .ok (.putfield 128, 3) := by decide +kernel
theorem d_Mod_init_321 : decode prog_10_method_1_code 321 = .ok (.aload_n 0, 1) := by decide +kernel
theorem d_Mod_init_322 : decode prog_10_method_1_code 322 = .ok (.bipush 8, 2) := by decide +kernel
theorem d_Mod_init_324 : decode prog_10_method_1_code 324 = .ok (.newarray .int, 2) := by decide +kernel
theorem d_Mod_init_326 : decode prog_10_method_1_code 326 = .ok (.putfield 131, 3) := by decide +kernel
theorem d_Mod_init_329 : decode prog_10_method_1_code 329 = .ok (.aload_n 0, 1) := by decide +kernel
theorem d_Mod_init_330 : decode prog_10_method_1_code 330 = .ok (.bipush 8, 2) := by decide +kernel
theorem d_Mod_init_332 : decode prog_10_method_1_code 332 = .ok (.newarray .boolean, 2) := by decide +kernel
theorem d_Mod_init_334 : decode prog_10_method_1_code 334 = .ok (.putfield 134, 3) := by decide +kernel
theorem d_Mod_init_337 : decode prog_10_method_1_code 337 = .ok (.aload_n 0, 1) := by decide +kernel
theorem d_Mod_init_338 : decode prog_10_method_1_code 338 = .ok (.iconst (-1), 1) := by decide +kernel
theorem d_Mod_init_339 : decode prog_10_method_1_code 339 = .ok (.putfield 137, 3) := by decide +kernel
theorem d_Mod_init_342 : decode prog_10_method_1_code 342 = .ok (.aload_n 0, 1) := by decide +kernel
theorem d_Mod_init_343 : decode prog_10_method_1_code 343 = .ok (.iconst (-1), 1) := by decide +kernel
theorem d_Mod_init_344 : decode prog_10_method_1_code 344 = .ok (.putfield 141, 3) := by decide +kernel
theorem d_Mod_init_347 : decode prog_10_method_1_code 347 = .ok (.iconst 0, 1) := by decide +kernel
theorem d_Mod_init_348 : decode prog_10_method_1_code 348 = .ok (.istore_n 1, 1) := by decide +kernel
theorem d_Mod_init_349 : decode prog_10_method_1_code 349 = .ok (.iload_n 1, 1) := by decide +kernel
theorem d_Mod_init_350 : decode prog_10_method_1_code 350 = .ok (.bipush 32, 2) := by decide +kernel
theorem d_Mod_init_352 : decode prog_10_method_1_code 352 = .ok (.if_icmp .ge 16, 3) := by decide +kernel
theorem d_Mod_init_355 : decode prog_10_method_1_code 355 = .ok (.aload_n 0, 1) := by decide +kernel
theorem d_Mod_init_356 : decode prog_10_method_1_code 356 = .ok (.getfield 19, 3) := by decide +kernel
theorem d_Mod_init_359 : decode prog_10_method_1_code 359 = .ok (.iload_n 1, 1) := by decide +kernel
theorem d_Mod_init_360 : decode prog_10_method_1_code 360 = .ok (.iconst (-1), 1) := by decide +kernel
theorem d_Mod_init_361 : decode prog_10_method_1_code 361 = .ok (.iastore, 1) := by decide +kernel
theorem d_Mod_init_362 : decode prog_10_method_1_code 362 = .ok (.iinc 1 1, 3) := by decide +kernel
theorem d_Mod_init_365 : decode prog_10_method_1_code 365 = .ok (.goto (-16), 3) := by decide +kernel
theorem d_Mod_init_368 : decode prog_10_method_1_code 368 = .ok (.iconst 0, 1) := by decide +kernel
theorem d_Mod_init_369 : decode prog_10_method_1_code 369 = .ok (.istore_n 1, 1) := by decide +kernel
theorem d_Mod_init_370 : decode prog_10_method_1_code 370 = .ok (.iload_n 1, 1) := by decide +kernel
theorem d_Mod_init_371 : decode prog_10_method_1_code 371 = .ok (.bipush 8, 2) := by decide +kernel
theorem d_Mod_init_373 : decode prog_10_method_1_code 373 = .ok (.if_icmp .ge 16, 3) := by decide +kernel
theorem d_Mod_init_376 : decode prog_10_method_1_code 376 = .ok (.aload_n 0, 1) := by decide +kernel
theorem d_Mod_init_377 : decode prog_10_method_1_code 377 = .ok (.getfield 104, 3) := by decide +kernel
theorem d_Mod_init_380 : decode prog_10_method_1_code 380 = .ok (.iload_n 1, 1) := by decide +kernel
theorem d_Mod_init_381 : decode prog_10_method_1_code 381 = .ok (.iconst (-1), 1) := by decide +kernel
theorem d_Mod_init_382 : decode prog_10_method_1_code 382 = .ok (.iastore, 1) := by decide +kernel
theorem d_Mod_init_383 : decode prog_10_method_1_code 383 = .ok (.iinc 1 1, 3) := by decide +kernel
theorem d_Mod_init_386 : decode prog_10_method_1_code 386 = .ok (.goto (-16), 3) := by decide +kernel
theorem d_Mod_init_389 : decode prog_10_method_1_code 389 = .ok (.return_, 1) := by decide +kernel
