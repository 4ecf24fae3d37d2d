theorem d_Thr_wish_13 : decode prog_7_method_2_code 13 = .ok (.iastore, 1) := by decide +kernel
theorem d_Thr_wish_14 : decode prog_7_method_2_code 14 = .ok (.aload_n 0, 1) := by decide +kernel
theorem d_Thr_wish_15 : decode prog_7_method_2_code 15 = .ok (.getfield 20, 3) := by decide +kernel
theorem d_Thr_wish_18 : decode prog_7_method_2_code 18 = .ok (.iconst 2, 1) := by decide +kernel
theorem d_Thr_wish_19 : decode prog_7_method_2_code 19 = .ok (.iload_n 3, 1) := by decide +kernel
theorem d_Thr_wish_20 : decode prog_7_method_2_code 20 = .ok (.iastore, 1) := by decide +kernel
theorem d_Thr_wish_21 : decode prog_7_method_2_code 21 = .ok (.aload_n 0, 1) := by decide +kernel
theorem d_Thr_wish_22 : decode prog_7_method_2_code 22 = .ok (.iload 4, 2) := by decide +kernel
theorem d_Thr_wish_24 : decode prog_7_method_2_code 24 = .ok (.iconst 1, 1) := by decide +kernel
theorem d_Thr_wish_25 : decode prog_7_method_2_code 25 = .ok (.iand, 1) := by decide +kernel
theorem d_Thr_wish_26 : decode prog_7_method_2_code 26 = .ok (.ifCond .eq 7, 3) := by decide +kernel
theorem d_Thr_wish_29 : decode prog_7_method_2_code 29 = .ok (.iconst 1, 1) := by decide +kernel
theorem d_Thr_wish_30 : decode prog_7_method_2_code 30 = .ok (.goto 4, 3) := by decide +kernel
theorem d_Thr_wish_33 : decode prog_7_method_2_code 33 = .ok (.iconst 0, 1) := by decide +kernel
theorem d_Thr_wish_34 : decode prog_7_method_2_code 34 = .ok (.putfield 34, 3) := by decide +kernel
theorem d_Thr_wish_37 : decode prog_7_method_2_code 37 = .ok (.aload_n 0, 1) := by decide +kernel
theorem d_Thr_wish_38 : decode prog_7_method_2_code 38 = .ok (.iload 4, 2) := by decide +kernel
theorem d_Thr_wish_40 : decode prog_7_method_2_code 40 = .ok (.iconst 2, 1) := by decide +kernel
theorem d_Thr_wish_41 : decode prog_7_method_2_code 41 = .ok (.iand, 1) := by decide +kernel
theorem d_Thr_wish_42 : decode prog_7_method_2_code 42 = .ok (.ifCond .eq 7, 3) := by decide +kernel
theorem d_Thr_wish_45 : decode prog_7_method_2_code 45 = .ok (.iconst 1, 1) := by decide +kernel
theorem d_Thr_wish_46 : decode prog_7_method_2_code 46 = .ok (.goto 4, 3) := by decide +kernel
theorem d_Thr_wish_49 : decode prog_7_method_2_code 49 = .ok (.iconst 0, 1) := by decide +kernel
theorem d_Thr_wish_50 : decode prog_7_method_2_code 50 = .ok (.putfield 38, 3) := by decide +kernel
theorem d_Thr_wish_53 : decode prog_7_method_2_code 53 = .ok (.return_, 1) := by decide +kernel
theorem d_Thr_deliverCalls_0 : decode prog_7_method_3_code 0 = .ok (.aload_n 0, 1) := by decide +kernel
theorem d_Thr_deliverCalls_1 : decode prog_7_method_3_code 1 = .ok (.getfield 14, 3) := by decide +kernel
theorem d_Thr_deliverCalls_4 : decode prog_7_method_3_code 4 = .ok (.getfield 41, 3) := by decide +kernel
theorem d_Thr_deliverCalls_7 : decode prog_7_method_3_code 7 = .ok (.istore_n 1, 1) := by decide +kernel
theorem d_Thr_deliverCalls_8 : decode prog_7_method_3_code 8 = .ok (.iload_n 1, 1) := by decide +kernel
theorem d_Thr_deliverCalls_9 : decode prog_7_method_3_code 9 = .ok (.ifCond .le 30, 3) := by decide +kernel
theorem d_Thr_deliverCalls_12 : decode prog_7_method_3_code 12 = .ok (.aload_n 0, 1) := by decide +kernel
theorem d_Thr_deliverCalls_13 : decode prog_7_method_3_code 13 = .ok (.aload_n 0, 1) := by decide +kernel
theorem d_Thr_deliverCalls_14 : decode prog_7_method_3_code 14 = .ok (.getfield 14, 3) := by decide +kernel
theorem d_Thr_deliverCalls_17 : decode prog_7_method_3_code 17 = .ok (.invokevirtual 44, 3) := by decide +kernel
theorem d_Thr_deliverCalls_20 : decode prog_7_method_3_code 20 = .ok (.putfield 48, 3) := by decide +kernel
theorem d_Thr_deliverCalls_23 : decode prog_7_method_3_code 23 = .ok (.aload_n 0, 1) := by decide +kernel
theorem d_Thr_deliverCalls_24 : decode prog_7_method_3_code 24 = .ok (.dup, 1) := by decide +kernel
theorem d_Thr_deliverCalls_25 : decode prog_7_method_3_code 25 = .ok (.getfield 51, 3) := by decide +kernel
theorem d_Thr_deliverCalls_28 : decode prog_7_method_3_code 28 = .ok (.iconst 1, 1) := by decide +kernel
theorem d_Thr_deliverCalls_29 : decode prog_7_method_3_code 29 = .ok (.iadd, 1) := by decide +kernel
theorem d_Thr_deliverCalls_30 : decode prog_7_method_3_code 30 = .ok (.putfield 51, 3) := by decide +kernel
theorem d_Thr_deliverCalls_33 : decode prog_7_method_3_code 33 = .ok (.iinc 1 (-1), 3) := by decide +kernel
theorem d_Thr_deliverCalls_36 : decode prog_7_method_3_code 36 = .ok (.goto (-28), 3) := by decide +kernel
theorem d_Thr_deliverCalls_39 : decode prog_7_method_3_code 39 = .ok (.return_, 1) := by decide +kernel
theorem d_Desk_beginWait_0 : decode prog_1_method_47_code 0 = .ok (.aload_n 0, 1) := by decide +kernel
theorem d_Desk_beginWait_1 : decode prog_1_method_47_code 1 = .ok (.getfield 26, 3) := by decide +kernel
theorem d_Desk_beginWait_4 : decode prog_1_method_47_code 4 = .ok (.iload_n 1, 1) := by decide +kernel
theorem d_Desk_beginWait_5 : decode prog_1_method_47_code 5 = .ok (.aaload, 1) := by decide +kernel
theorem d_Desk_beginWait_6 : decode prog_1_method_47_code 6 = .ok (.astore_n 3, 1) := by decide +kernel
theorem d_Desk_beginWait_7 : decode prog_1_method_47_code 7 = .ok (.aload_n 3, 1) := by decide +kernel
theorem d_Desk_beginWait_8 : decode prog_1_method_47_code 8 = .ok (.iconst 2, 1) := by decide +kernel
theorem d_Desk_beginWait_9 : decode prog_1_method_47_code 9 = .ok (.putfield 192, 3) := by decide +kernel
theorem d_Desk_beginWait_12 : decode prog_1_method_47_code 12 = .ok (.aload_n 3, 1) := by decide +kernel
theorem d_Desk_beginWait_13 : decode prog_1_method_47_code 13 = .ok (.bipush (-10), 2) := by decide +kernel
theorem d_Desk_beginWait_15 : decode prog_1_method_47_code 15 = .ok (.putfield 252, 3) := by decide +kernel
theorem d_Desk_beginWait_18 : decode prog_1_method_47_code 18 = .ok (.aload_n 3, 1) := by decide +kernel
theorem d_Desk_beginWait_19 : decode prog_1_method_47_code 19 = .ok (.iconst 0, 1) := by decide +kernel
theorem d_Desk_beginWait_20 : decode prog_1_method_47_code 20 = .ok (.putfield 261, 3) := by decide +kernel
theorem d_Desk_beginWait_23 : decode prog_1_method_47_code 23 = .ok (.aload_n 3, 1) := by decide +kernel
theorem d_Desk_beginWait_24 : decode prog_1_method_47_code 24 = .ok (.iload_n 2, 1) := by decide +kernel
theorem d_Desk_beginWait_25 : decode prog_1_method_47_code 25 = .ok (.iconst (-1), 1) := by decide +kernel
theorem d_Desk_beginWait_26 : decode prog_1_method_47_code 26 = .ok (.if_icmp .ne 7, 3) := by decide +kernel
theorem d_Desk_beginWait_29 : decode prog_1_method_47_code 29 = .ok (.iconst (-1), 1) := by decide +kernel
theorem d_Desk_beginWait_30 : decode prog_1_method_47_code 30 = .ok (.goto 9, 3) := by decide +kernel
theorem d_Desk_beginWait_33 : decode prog_1_method_47_code 33 = .ok (.aload_n 0, 1) := by decide +kernel
theorem d_Desk_beginWait_34 : decode prog_1_method_47_code 34 = .ok (.getfield 249, 3) := by decide +kernel
theorem d_Desk_beginWait_37 : decode prog_1_method_47_code 37 = .ok (.iload_n 2, 1) := by decide +kernel
theorem d_Desk_beginWait_38 : decode prog_1_method_47_code 38 = .ok (.iadd, 1) := by decide +kernel
theorem d_Desk_beginWait_39 : decode prog_1_method_47_code 39 = .ok (.putfield 264, 3) := by decide +kernel
theorem d_Desk_beginWait_42 : decode prog_1_method_47_code 42 = .ok (.aload_n 0, 1) := by decide +kernel
theorem d_Desk_beginWait_43 : decode prog_1_method_47_code 43 = .ok (.getfield 18, 3) := by decide +kernel
theorem d_Desk_beginWait_46 : decode prog_1_method_47_code 46 = .ok (.iconst (-1), 1) := by decide +kernel
theorem d_Desk_beginWait_47 : decode prog_1_method_47_code 47 = .ok (.putfield 92, 3) := by decide +kernel
theorem d_Desk_beginWait_50 : decode prog_1_method_47_code 50 = .ok (.aload_n 0, 1) := by decide +kernel
theorem d_Desk_beginWait_51 : decode prog_1_method_47_code 51 = .ok (.getfield 44, 3) := by decide +kernel
theorem d_Desk_beginWait_54 : decode prog_1_method_47_code 54 = .ok (.iload_n 1, 1) := by decide +kernel
theorem d_Desk_beginWait_55 : decode prog_1_method_47_code 55 = .ok (.invokevirtual 195, 3) := by decide +kernel
theorem d_Desk_beginWait_58 : decode prog_1_method_47_code 58 = .ok (.aload_n 0, 1) := by decide +kernel
theorem d_Desk_beginWait_59 : decode prog_1_method_47_code 59 = .ok (.aload_n 3, 1) := by decide +kernel
theorem d_Desk_beginWait_60 : decode prog_1_method_47_code 60 = .ok (.iconst 1, 1) := by decide +kernel
theorem d_Desk_beginWait_61 : decode prog_1_method_47_code 61 = .ok (.invokevirtual 364, 3) := by decide +kernel
theorem d_Desk_beginWait_64 : decode prog_1_method_47_code 64 = .ok (.return_, 1) := by decide +kernel
theorem d_Desk_await_0 : decode prog_1_method_9_code 0 = .ok (.aload_n 0, 1) := by decide +kernel
theorem d_Desk_await_1 : decode prog_1_method_9_code 1 = .ok (.getfield 18, 3) := by decide +kernel
theorem d_Desk_await_4 : decode prog_1_method_9_code 4 = .ok (.getfield 92, 3) := by decide +kernel
theorem d_Desk_await_7 : decode prog_1_method_9_code 7 = .ok (.iconst (-1), 1) := by decide +kernel
theorem d_Desk_await_8 : decode prog_1_method_9_code 8 = .ok (.if_icmp .ne 6, 3) := by decide +kernel
theorem d_Desk_await_11 : decode prog_1_method_9_code 11 = .ok (.bipush (-3), 2) := by decide +kernel
theorem d_Desk_await_13 : decode prog_1_method_9_code 13 = .ok (.ireturn, 1) := by decide +kernel
theorem d_Desk_await_14 : decode prog_1_method_9_code 14 = .ok (.aload_n 0, 1) := by decide +kernel
theorem d_Desk_await_15 : decode prog_1_method_9_code 15 = .ok (.getfield 163, 3) := by decide +kernel
theorem d_Desk_await_18 : decode prog_1_method_9_code 18 = .ok (.iconst 1, 1) := by decide +kernel
theorem d_Desk_await_19 : decode prog_1_method_9_code 19 = .ok (.if_icmp .ne 6, 3) := by decide +kernel
theorem d_Desk_await_22 : decode prog_1_method_9_code 22 = .ok (.bipush (-4), 2) := by decide +kernel
theorem d_Desk_await_24 : decode prog_1_method_9_code 24 = .ok (.ireturn, 1) := by decide +kernel
theorem d_Desk_await_25 : decode prog_1_method_9_code 25 = .ok (.aload_n 0, 1) := by decide +kernel
theorem d_Desk_await_26 : decode prog_1_method_9_code 26 = .ok (.invokevirtual 102, 3) := by decide +kernel
theorem d_Desk_await_29 : decode prog_1_method_9_code 29 = .ok (.astore 6, 2) := by decide +kernel
theorem d_Desk_await_31 : decode prog_1_method_9_code 31 = .ok (.iload 4, 2) := by decide +kernel
theorem d_Desk_await_33 : decode prog_1_method_9_code 33 = .ok (.iconst 0, 1) := by decide +kernel
theorem d_Desk_await_34 : decode prog_1_method_9_code 34 = .ok (.iconst 3, 1) := by decide +kernel
theorem d_Desk_await_35 : decode prog_1_method_9_code 35 = .ok (.invokestatic 54, 3) := by decide +kernel
theorem d_Desk_await_38 : decode prog_1_method_9_code 38 = .ok (.ifCond .eq 26, 3) := by decide +kernel
theorem d_Desk_await_41 : decode prog_1_method_9_code 41 = .ok (.iload 5, 2) := by decide +kernel
theorem d_Desk_await_43 : decode prog_1_method_9_code 43 = .ok (.iconst (-1), 1) := by decide +kernel
theorem d_Desk_await_44 : decode prog_1_method_9_code 44 = .ok (.bipush 99, 2) := by decide +kernel
theorem d_Desk_await_46 : decode prog_1_method_9_code 46 = .ok (.invokestatic 54, 3) := by decide +kernel
theorem d_Desk_await_49 : decode prog_1_method_9_code 49 = .ok (.ifCond .eq 15, 3) := by decide +kernel
theorem d_Desk_await_52 : decode prog_1_method_9_code 52 = .ok (.aload_n 0, 1) := by decide +kernel
theorem d_Desk_await_53 : decode prog_1_method_9_code 53 = .ok (.aload 6, 2) := by decide +kernel
theorem d_Desk_await_55 : decode prog_1_method_9_code 55 = .ok (.iload_n 1, 1) := by decide +kernel
theorem d_Desk_await_56 : decode prog_1_method_9_code 56 = .ok (.iload_n 2, 1) := by decide +kernel
theorem d_Desk_await_57 : decode prog_1_method_9_code 57 = .ok (.iload_n 3, 1) := by decide +kernel
theorem d_Desk_await_58 : decode prog_1_method_9_code 58 = .ok (.invokevirtual 166, 3) := by decide +kernel
theorem d_Desk_await_61 : decode prog_1_method_9_code 61 = .ok (.ifCond .ne 5, 3) := by decide +kernel
theorem d_Desk_await_64 : decode prog_1_method_9_code 64 = .ok (.iconst (-1), 1) := by decide +kernel
theorem d_Desk_await_65 : decode prog_1_method_9_code 65 = .ok (.ireturn, 1) := by decide +kernel
theorem d_Desk_await_66 : decode prog_1_method_9_code 66 = .ok (.aload 6, 2) := by decide +kernel
theorem d_Desk_await_68 : decode prog_1_method_9_code 68 = .ok (.iload_n 1, 1) := by decide +kernel
theorem d_Desk_await_69 : decode prog_1_method_9_code 69 = .ok (.iconst 4, 1) := by decide +kernel
theorem d_Desk_await_70 : decode prog_1_method_9_code 70 = .ok (.invokevirtual 144, 3) := by decide +kernel
theorem d_Desk_await_73 : decode prog_1_method_9_code 73 = .ok (.ifCond .ne 23, 3) := by decide +kernel
theorem d_Desk_await_76 : decode prog_1_method_9_code 76 = .ok (.aload 6, 2) := by decide +kernel
theorem d_Desk_await_78 : decode prog_1_method_9_code 78 = .ok (.iload_n 2, 1) := by decide +kernel
theorem d_Desk_await_79 : decode prog_1_method_9_code 79 = .ok (.iconst 4, 1) := by decide +kernel
theorem d_Desk_await_80 : decode prog_1_method_9_code 80 = .ok (.invokevirtual 144, 3) := by decide +kernel
theorem d_Desk_await_83 : decode prog_1_method_9_code 83 = .ok (.ifCond .ne 13, 3) := by decide +kernel
theorem d_Desk_await_86 : decode prog_1_method_9_code 86 = .ok (.aload 6, 2) := by decide +kernel
theorem d_Desk_await_88 : decode prog_1_method_9_code 88 = .ok (.iload_n 3, 1) := by decide +kernel
theorem d_Desk_await_89 : decode prog_1_method_9_code 89 = .ok (.iconst 4, 1) := by decide +kernel
theorem d_Desk_await_90 : decode prog_1_method_9_code 90 = .ok (.invokevirtual 144, 3) := by decide +kernel
theorem d_Desk_await_93 : decode prog_1_method_9_code 93 = .ok (.ifCond .eq 6, 3) := by decide +kernel
theorem d_Desk_await_96 : decode prog_1_method_9_code 96 = .ok (.bipush (-5), 2) := by decide +kernel
theorem d_Desk_await_98 : decode prog_1_method_9_code 98 = .ok (.ireturn, 1) := by decide +kernel
theorem d_Desk_await_99 : decode prog_1_method_9_code 99 = .ok (.aload_n 0, 1) := by decide +kernel
theorem d_Desk_await_100 : decode prog_1_method_9_code 100 = .ok (.getfield 18, 3) := by decide +kernel
theorem d_Desk_await_103 : decode prog_1_method_9_code 103 = .ok (.getfield 92, 3) := by decide +kernel
theorem d_Desk_await_106 : decode prog_1_method_9_code 106 = .ok (.istore 7, 2) := by decide +kernel
theorem d_Desk_await_108 : decode prog_1_method_9_code 108 = .ok (.aload_n 0, 1) := by decide +kernel
theorem d_Desk_await_109 : decode prog_1_method_9_code 109 = .ok (.getfield 26, 3) := by decide +kernel
theorem d_Desk_await_112 : decode prog_1_method_9_code 112 = .ok (.iload 7, 2) := by decide +kernel
theorem d_Desk_await_114 : decode prog_1_method_9_code 114 = .ok (.aaload, 1) := by decide +kernel
theorem d_Desk_await_115 : decode prog_1_method_9_code 115 = .ok (.astore 8, 2) := by decide +kernel
theorem d_Desk_await_117 : decode prog_1_method_9_code 117 = .ok (.aload 8, 2) := by decide +kernel
theorem d_Desk_await_119 : decode prog_1_method_9_code 119 = .ok (.aload 6, 2) := by decide +kernel
theorem d_Desk_await_121 : decode prog_1_method_9_code 121 = .ok (.iload_n 1, 1) := by decide +kernel
theorem d_Desk_await_122 : decode prog_1_method_9_code 122 = .ok (.invokevirtual 134, 3) := by decide +kernel
theorem d_Desk_await_125 : decode prog_1_method_9_code 125 = .ok (.aload 6, 2) := by decide +kernel
theorem d_Desk_await_127 : decode prog_1_method_9_code 127 = .ok (.iload_n 2, 1) := by decide +kernel
theorem d_Desk_await_128 : decode prog_1_method_9_code 128 = .ok (.invokevirtual 134, 3) := by decide +kernel
theorem d_Desk_await_131 : decode prog_1_method_9_code 131 = .ok (.aload 6, 2) := by decide +kernel
theorem d_Desk_await_133 : decode prog_1_method_9_code 133 = .ok (.iload_n 3, 1) := by decide +kernel
theorem d_Desk_await_134 : decode prog_1_method_9_code 134 = .ok (.invokevirtual 134, 3) := by decide +kernel
theorem d_Desk_await_137 : decode prog_1_method_9_code 137 = .ok (.iload 4, 2) := by decide +kernel
theorem d_Desk_await_139 : decode prog_1_method_9_code 139 = .ok (.invokevirtual 170, 3) := by decide +kernel
theorem d_Desk_await_142 : decode prog_1_method_9_code 142 = .ok (.aload 8, 2) := by decide +kernel
theorem d_Desk_await_144 : decode prog_1_method_9_code 144 = .ok (.getfield 174, 3) := by decide +kernel
theorem d_Desk_await_147 : decode prog_1_method_9_code 147 = .ok (.ifCond .eq 22, 3) := by decide +kernel
theorem d_Desk_await_150 : decode prog_1_method_9_code 150 = .ok (.aload 8, 2) := by decide +kernel
theorem d_Desk_await_152 : decode prog_1_method_9_code 152 = .ok (.getfield 178, 3) := by decide +kernel
theorem d_Desk_await_155 : decode prog_1_method_9_code 155 = .ok (.getfield 181, 3) := by decide +kernel
theorem d_Desk_await_158 : decode prog_1_method_9_code 158 = .ok (.ifCond .le 11, 3) := by decide +kernel
theorem d_Desk_await_161 : decode prog_1_method_9_code 161 = .ok (.aload 8, 2) := by decide +kernel
theorem d_Desk_await_163 : decode prog_1_method_9_code 163 = .ok (.invokevirtual 182, 3) := by decide +kernel
theorem d_Desk_await_166 : decode prog_1_method_9_code 166 = .ok (.bipush (-12), 2) := by decide +kernel
theorem d_Desk_await_168 : decode prog_1_method_9_code 168 = .ok (.ireturn, 1) := by decide +kernel
theorem d_Desk_await_169 : decode prog_1_method_9_code 169 = .ok (.aload_n 0, 1) := by decide +kernel
theorem d_Desk_await_170 : decode prog_1_method_9_code 170 = .ok (.iload 7, 2) := by decide +kernel
theorem d_Desk_await_172 : decode prog_1_method_9_code 172 = .ok (.invokevirtual 185, 3) := by decide +kernel
theorem d_Desk_await_175 : decode prog_1_method_9_code 175 = .ok (.istore 9, 2) := by decide +kernel
theorem d_Desk_await_177 : decode prog_1_method_9_code 177 = .ok (.iload 9, 2) := by decide +kernel
theorem d_Desk_await_179 : decode prog_1_method_9_code 179 = .ok (.bipush (-10), 2) := by decide +kernel
theorem d_Desk_await_181 : decode prog_1_method_9_code 181 = .ok (.if_icmp .eq 6, 3) := by decide +kernel
theorem d_Desk_await_184 : decode prog_1_method_9_code 184 = .ok (.iload 9, 2) := by decide +kernel
theorem d_Desk_await_186 : decode prog_1_method_9_code 186 = .ok (.ireturn, 1) := by decide +kernel
theorem d_Desk_await_187 : decode prog_1_method_9_code 187 = .ok (.iload 5, 2) := by decide +kernel
theorem d_Desk_await_189 : decode prog_1_method_9_code 189 = .ok (.ifCond .ne 6, 3) := by decide +kernel
theorem d_Desk_await_192 : decode prog_1_method_9_code 192 = .ok (.bipush (-11), 2) := by decide +kernel
theorem d_Desk_await_194 : decode prog_1_method_9_code 194 = .ok (.ireturn, 1) := by decide +kernel
theorem d_Desk_await_195 : decode prog_1_method_9_code 195 = .ok (.aload_n 0, 1) := by decide +kernel
theorem d_Desk_await_196 : decode prog_1_method_9_code 196 = .ok (.iload 7, 2) := by decide +kernel
theorem d_Desk_await_198 : decode prog_1_method_9_code 198 = .ok (.iload 5, 2) := by decide +kernel
theorem d_Desk_await_200 : decode prog_1_method_9_code 200 = .ok (.invokevirtual 188, 3) := by decide +kernel
theorem d_Desk_await_203 : decode prog_1_method_9_code 203 = .ok (.aload_n 0, 1) := by decide +kernel
theorem d_Desk_await_204 : decode prog_1_method_9_code 204 = .ok (.invokevirtual 89, 3) := by decide +kernel
theorem d_Desk_await_207 : decode prog_1_method_9_code 207 = .ok (.bipush (-10), 2) := by decide +kernel
theorem d_Desk_await_209 : decode prog_1_method_9_code 209 = .ok (.ireturn, 1) := by decide +kernel
theorem d_Desk_alertIfDue_0 : decode prog_1_method_51_code 0 = .ok (.aload_n 0, 1) := by decide +kernel
theorem d_Desk_alertIfDue_1 : decode prog_1_method_51_code 1 = .ok (.getfield 26, 3) := by decide +kernel
theorem d_Desk_alertIfDue_4 : decode prog_1_method_51_code 4 = .ok (.iload_n 1, 1) := by decide +kernel
theorem d_Desk_alertIfDue_5 : decode prog_1_method_51_code 5 = .ok (.aaload, 1) := by decide +kernel
theorem d_Desk_alertIfDue_6 : decode prog_1_method_51_code 6 = .ok (.astore_n 2, 1) := by decide +kernel
theorem d_Desk_alertIfDue_7 : decode prog_1_method_51_code 7 = .ok (.aload_n 0, 1) := by decide +kernel
theorem d_Desk_alertIfDue_8 : decode prog_1_method_51_code 8 = .ok (.getfield 163, 3) := by decide +kernel
theorem d_Desk_alertIfDue_11 : decode prog_1_method_51_code 11 = .ok (.ifCond .ne 39, 3) := by decide +kernel
theorem d_Desk_alertIfDue_14 : decode prog_1_method_51_code 14 = .ok (.aload_n 2, 1) := by decide +kernel
theorem d_Desk_alertIfDue_15 : decode prog_1_method_51_code 15 = .ok (.getfield 192, 3) := by decide +kernel
theorem d_Desk_alertIfDue_18 : decode prog_1_method_51_code 18 = .ok (.iconst 2, 1) := by decide +kernel
theorem d_Desk_alertIfDue_19 : decode prog_1_method_51_code 19 = .ok (.if_icmp .ne 31, 3) := by decide +kernel
theorem d_Desk_alertIfDue_22 : decode prog_1_method_51_code 22 = .ok (.aload_n 2, 1) := by decide +kernel
theorem d_Desk_alertIfDue_23 : decode prog_1_method_51_code 23 = .ok (.getfield 174, 3) := by decide +kernel
theorem d_Desk_alertIfDue_26 : decode prog_1_method_51_code 26 = .ok (.ifCond .eq 24, 3) := by decide +kernel
theorem d_Desk_alertIfDue_29 : decode prog_1_method_51_code 29 = .ok (.aload_n 2, 1) := by decide +kernel
theorem d_Desk_alertIfDue_30 : decode prog_1_method_51_code 30 = .ok (.getfield 178, 3) := by decide +kernel
theorem d_Desk_alertIfDue_33 : decode prog_1_method_51_code 33 = .ok (.getfield 181, 3) := by decide +kernel
theorem d_Desk_alertIfDue_36 : decode prog_1_method_51_code 36 = .ok (.ifCond .le 14, 3) := by decide +kernel
theorem d_Desk_alertIfDue_39 : decode prog_1_method_51_code 39 = .ok (.aload_n 0, 1) := by decide +kernel
theorem d_Desk_alertIfDue_40 : decode prog_1_method_51_code 40 = .ok (.iload_n 1, 1) := by decide +kernel
theorem d_Desk_alertIfDue_41 : decode prog_1_method_51_code 41 = .ok (.bipush (-12), 2) := by decide +kernel
theorem d_Desk_alertIfDue_43 : decode prog_1_method_51_code 43 = .ok (.invokevirtual 374, 3) := by decide +kernel
theorem d_Desk_alertIfDue_46 : decode prog_1_method_51_code 46 = .ok (.aload_n 2, 1) := by decide +kernel
theorem d_Desk_alertIfDue_47 : decode prog_1_method_51_code 47 = .ok (.invokevirtual 182, 3) := by decide +kernel
theorem d_Desk_alertIfDue_50 : decode prog_1_method_51_code 50 = .ok (.return_, 1) := by decide +kernel
theorem d_Desk_call_0 : decode prog_1_method_10_code 0 = .ok (.iload_n 1, 1) := by decide +kernel
theorem d_Desk_call_1 : decode prog_1_method_10_code 1 = .ok (.iconst 0, 1) := by decide +kernel
theorem d_Desk_call_2 : decode prog_1_method_10_code 2 = .ok (.aload_n 0, 1) := by decide +kernel
theorem d_Desk_call_3 : decode prog_1_method_10_code 3 = .ok (.getfield 69, 3) := by decide +kernel
theorem d_Desk_call_6 : decode prog_1_method_10_code 6 = .ok (.iconst 1, 1) := by decide +kernel
theorem d_Desk_call_7 : decode prog_1_method_10_code 7 = .ok (.isub, 1) := by decide +kernel
theorem d_Desk_call_8 : decode prog_1_method_10_code 8 = .ok (.invokestatic 54, 3) := by decide +kernel
theorem d_Desk_call_11 : decode prog_1_method_10_code 11 = .ok (.ifCond .eq 26, 3) := by decide +kernel
theorem d_Desk_call_14 : decode prog_1_method_10_code 14 = .ok (.aload_n 0, 1) := by decide +kernel
theorem d_Desk_call_15 : decode prog_1_method_10_code 15 = .ok (.getfield 26, 3) := by decide +kernel
theorem d_Desk_call_18 : decode prog_1_method_10_code 18 = .ok (.iload_n 1, 1) := by decide +kernel
theorem d_Desk_call_19 : decode prog_1_method_10_code 19 = .ok (.aaload, 1) := by decide +kernel
theorem d_Desk_call_20 : decode prog_1_method_10_code 20 = .ok (.getfield 192, 3) := by decide +kernel
theorem d_Desk_call_23 : decode prog_1_method_10_code 23 = .ok (.iconst 3, 1) := by decide +kernel
theorem d_Desk_call_24 : decode prog_1_method_10_code 24 = .ok (.if_icmp .eq 13, 3) := by decide +kernel
theorem d_Desk_call_27 : decode prog_1_method_10_code 27 = .ok (.iload_n 2, 1) := by decide +kernel
theorem d_Desk_call_28 : decode prog_1_method_10_code 28 = .ok (.iconst 1, 1) := by decide +kernel
theorem d_Desk_call_29 : decode prog_1_method_10_code 29 = .ok (.bipush 99, 2) := by decide +kernel
theorem d_Desk_call_31 : decode prog_1_method_10_code 31 = .ok (.invokestatic 54, 3) := by decide +kernel
theorem d_Desk_call_34 : decode prog_1_method_10_code 34 = .ok (.ifCond .ne 5, 3) := by decide +kernel
theorem d_Desk_call_37 : decode prog_1_method_10_code 37 = .ok (.iconst (-1), 1) := by decide +kernel
theorem d_Desk_call_38 : decode prog_1_method_10_code 38 = .ok (.ireturn, 1) := by decide +kernel
theorem d_Desk_call_39 : decode prog_1_method_10_code 39 = .ok (.aload_n 0, 1) := by decide +kernel
theorem d_Desk_call_40 : decode prog_1_method_10_code 40 = .ok (.getfield 26, 3) := by decide +kernel
theorem d_Desk_call_43 : decode prog_1_method_10_code 43 = .ok (.iload_n 1, 1) := by decide +kernel
theorem d_Desk_call_44 : decode prog_1_method_10_code 44 = .ok (.aaload, 1) := by decide +kernel
theorem d_Desk_call_45 : decode prog_1_method_10_code 45 = .ok (.astore_n 3, 1) := by decide +kernel
theorem d_Desk_call_46 : decode prog_1_method_10_code 46 = .ok (.aload_n 3, 1) := by decide +kernel
theorem d_Desk_call_47 : decode prog_1_method_10_code 47 = .ok (.getfield 178, 3) := by decide +kernel
theorem d_Desk_call_50 : decode prog_1_method_10_code 50 = .ok (.getfield 181, 3) := by decide +kernel
theorem d_Desk_call_53 : decode prog_1_method_10_code 53 = .ok (.iconst 4, 1) := by decide +kernel
theorem d_Desk_call_54 : decode prog_1_method_10_code 54 = .ok (.if_icmp .ne 6, 3) := by decide +kernel
theorem d_Desk_call_57 : decode prog_1_method_10_code 57 = .ok (.bipush (-2), 2) := by decide +kernel
theorem d_Desk_call_59 : decode prog_1_method_10_code 59 = .ok (.ireturn, 1) := by decide +kernel
theorem d_Desk_call_60 : decode prog_1_method_10_code 60 = .ok (.aload_n 3, 1) := by decide +kernel
theorem d_Desk_call_61 : decode prog_1_method_10_code 61 = .ok (.getfield 178, 3) := by decide +kernel
theorem d_Desk_call_64 : decode prog_1_method_10_code 64 = .ok (.iload_n 2, 1) := by decide +kernel
theorem d_Desk_call_65 : decode prog_1_method_10_code 65 = .ok (.invokevirtual 195, 3) := by decide +kernel
theorem d_Desk_call_68 : decode prog_1_method_10_code 68 = .ok (.aload_n 0, 1) := by decide +kernel
theorem d_Desk_call_69 : decode prog_1_method_10_code 69 = .ok (.iload_n 1, 1) := by decide +kernel
theorem d_Desk_call_70 : decode prog_1_method_10_code 70 = .ok (.invokevirtual 198, 3) := by decide +kernel
theorem d_Desk_call_73 : decode prog_1_method_10_code 73 = .ok (.aload_n 0, 1) := by decide +kernel
theorem d_Desk_call_74 : decode prog_1_method_10_code 74 = .ok (.invokevirtual 89, 3) := by decide +kernel
theorem d_Desk_call_77 : decode prog_1_method_10_code 77 = .ok (.aload_n 3, 1) := by decide +kernel
theorem d_Desk_call_78 : decode prog_1_method_10_code 78 = .ok (.getfield 178, 3) := by decide +kernel
theorem d_Desk_call_81 : decode prog_1_method_10_code 81 = .ok (.getfield 181, 3) := by decide +kernel
theorem d_Desk_call_84 : decode prog_1_method_10_code 84 = .ok (.ireturn, 1) := by decide +kernel
theorem d_Desk_pointToObjectsOf_0 : decode prog_1_method_56_code 0 = .ok (.aload_n 0, 1) := by decide +kernel
theorem d_Desk_pointToObjectsOf_1 : decode prog_1_method_56_code 1 = .ok (.getfield 29, 3) := by decide +kernel
theorem d_Desk_pointToObjectsOf_4 : decode prog_1_method_56_code 4 = .ok (.aload_n 1, 1) := by decide +kernel
theorem d_Desk_pointToObjectsOf_5 : decode prog_1_method_56_code 5 = .ok (.getfield 289, 3) := by decide +kernel
theorem d_Desk_pointToObjectsOf_8 : decode prog_1_method_56_code 8 = .ok (.aaload, 1) := by decide +kernel
theorem d_Desk_pointToObjectsOf_9 : decode prog_1_method_56_code 9 = .ok (.dup, 1) := by decide +kernel
theorem d_Desk_pointToObjectsOf_10 : decode prog_1_method_56_code 10 = .ok (.getfield 204, 3) := by decide +kernel
theorem d_Desk_pointToObjectsOf_13 : decode prog_1_method_56_code 13 = .ok (.iload_n 2, 1) := by decide +kernel
theorem d_Desk_pointToObjectsOf_14 : decode prog_1_method_56_code 14 = .ok (.iadd, 1) := by decide +kernel
theorem d_Desk_pointToObjectsOf_15 : decode prog_1_method_56_code 15 = .ok (.putfield 204, 3) := by decide +kernel
theorem d_Desk_pointToObjectsOf_18 : decode prog_1_method_56_code 18 = .ok (.aload_n 1, 1) := by decide +kernel
theorem d_Desk_pointToObjectsOf_19 : decode prog_1_method_56_code 19 = .ok (.getfield 390, 3) := by decide +kernel
theorem d_Desk_pointToObjectsOf_22 : decode prog_1_method_56_code 22 = .ok (.iconst (-1), 1) := by decide +kernel
theorem d_Desk_pointToObjectsOf_23 : decode prog_1_method_56_code 23 = .ok (.if_icmp .eq 21, 3) := by decide +kernel
theorem d_Desk_pointToObjectsOf_26 : decode prog_1_method_56_code 26 = .ok (.aload_n 0, 1) := by decide +kernel
theorem d_Desk_pointToObjectsOf_27 : decode prog_1_method_56_code 27 = .ok (.getfield 29, 3) := by decide +kernel
theorem d_Desk_pointToObjectsOf_30 : decode prog_1_method_56_code 30 = .ok (.aload_n 1, 1) := by decide +kernel
theorem d_Desk_pointToObjectsOf_31 : decode prog_1_method_56_code 31 = .ok (.getfield 390, 3) := by decide +kernel
theorem d_Desk_pointToObjectsOf_34 : decode prog_1_method_56_code 34 = .ok (.aaload, 1) := by decide +kernel
theorem d_Desk_pointToObjectsOf_35 : decode prog_1_method_56_code 35 = .ok (.dup, 1) := by decide +kernel
theorem d_Desk_pointToObjectsOf_36 : decode prog_1_method_56_code 36 = .ok (.getfield 204, 3) := by decide +kernel
theorem d_Desk_pointToObjectsOf_39 : decode prog_1_method_56_code 39 = .ok (.iload_n 2, 1) := by decide +kernel
theorem d_Desk_pointToObjectsOf_40 : decode prog_1_method_56_code 40 = .ok (.iadd, 1) := by decide +kernel
theorem d_Desk_pointToObjectsOf_41 : decode prog_1_method_56_code 41 = .ok (.putfield 204, 3) := by decide +kernel
theorem d_Desk_pointToObjectsOf_44 : decode prog_1_method_56_code 44 = .ok (.return_, 1) := by decide +kernel
theorem d_Desk_conclude_0 : decode prog_1_method_55_code 0 = .ok (.aload_n 1, 1) := by decide +kernel
theorem d_Desk_conclude_1 : decode prog_1_method_55_code 1 = .ok (.iload_n 2, 1) := by decide +kernel
theorem d_Desk_conclude_2 : decode prog_1_method_55_code 2 = .ok (.putfield 283, 3) := by decide +kernel
theorem d_Desk_conclude_5 : decode prog_1_method_55_code 5 = .ok (.aload_n 1, 1) := by decide +kernel
theorem d_Desk_conclude_6 : decode prog_1_method_55_code 6 = .ok (.iload_n 3, 1) := by decide +kernel
theorem d_Desk_conclude_7 : decode prog_1_method_55_code 7 = .ok (.putfield 286, 3) := by decide +kernel
theorem d_Desk_conclude_10 : decode prog_1_method_55_code 10 = .ok (.aload_n 0, 1) := by decide +kernel
theorem d_Desk_conclude_11 : decode prog_1_method_55_code 11 = .ok (.dup, 1) := by decide +kernel
theorem d_Desk_conclude_12 : decode prog_1_method_55_code 12 = .ok (.getfield 310, 3) := by decide +kernel
theorem d_Desk_conclude_15 : decode prog_1_method_55_code 15 = .ok (.iconst 1, 1) := by decide +kernel
theorem d_Desk_conclude_16 : decode prog_1_method_55_code 16 = .ok (.iadd, 1) := by decide +kernel
theorem d_Desk_conclude_17 : decode prog_1_method_55_code 17 = .ok (.putfield 310, 3) := by decide +kernel
theorem d_Desk_conclude_20 : decode prog_1_method_55_code 20 = .ok (.aload_n 0, 1) := by decide +kernel
theorem d_Desk_conclude_21 : decode prog_1_method_55_code 21 = .ok (.aload_n 1, 1) := by decide +kernel
theorem d_Desk_conclude_22 : decode prog_1_method_55_code 22 = .ok (.iconst (-1), 1) := by decide +kernel
theorem d_Desk_conclude_23 : decode prog_1_method_55_code 23 = .ok (.invokevirtual 223, 3) := by decide +kernel
theorem d_Desk_conclude_26 : decode prog_1_method_55_code 26 = .ok (.aload_n 1, 1) := by decide +kernel
theorem d_Desk_conclude_27 : decode prog_1_method_55_code 27 = .ok (.getfield 390, 3) := by decide +kernel
theorem d_Desk_conclude_30 : decode prog_1_method_55_code 30 = .ok (.iconst (-1), 1) := by decide +kernel
theorem d_Desk_conclude_31 : decode prog_1_method_55_code 31 = .ok (.if_icmp .eq 20, 3) := by decide +kernel
theorem d_Desk_conclude_34 : decode prog_1_method_55_code 34 = .ok (.aload_n 0, 1) := by decide +kernel
theorem d_Desk_conclude_35 : decode prog_1_method_55_code 35 = .ok (.getfield 29, 3) := by decide +kernel
theorem d_Desk_conclude_38 : decode prog_1_method_55_code 38 = .ok (.aload_n 1, 1) := by decide +kernel
theorem d_Desk_conclude_39 : decode prog_1_method_55_code 39 = .ok (.getfield 390, 3) := by decide +kernel
theorem d_Desk_conclude_42 : decode prog_1_method_55_code 42 = .ok (.aaload, 1) := by decide +kernel
theorem d_Desk_conclude_43 : decode prog_1_method_55_code 43 = .ok (.iconst 1, 1) := by decide +kernel
theorem d_Desk_conclude_44 : decode prog_1_method_55_code 44 = .ok (.putfield 273, 3) := by decide +kernel
theorem d_Desk_conclude_47 : decode prog_1_method_55_code 47 = .ok (.aload_n 0, 1) := by decide +kernel
theorem d_Desk_conclude_48 : decode prog_1_method_55_code 48 = .ok (.invokevirtual 343, 3) := by decide +kernel
theorem d_Desk_conclude_51 : decode prog_1_method_55_code 51 = .ok (.return_, 1) := by decide +kernel
theorem d_Obj_hasLayer_0 : decode prog_2_method_5_code 0 = .ok (.aload_n 0, 1) := by decide +kernel
theorem d_Obj_hasLayer_1 : decode prog_2_method_5_code 1 = .ok (.getfield 40, 3) := by decide +kernel
theorem d_Obj_hasLayer_4 : decode prog_2_method_5_code 4 = .ok (.iload_n 1, 1) := by decide +kernel
theorem d_Obj_hasLayer_5 : decode prog_2_method_5_code 5 = .ok (.iand, 1) := by decide +kernel
theorem d_Obj_hasLayer_6 : decode prog_2_method_5_code 6 = .ok (.ifCond .eq 7, 3) := by decide +kernel
theorem d_Obj_hasLayer_9 : decode prog_2_method_5_code 9 = .ok (.iconst 1, 1) := by decide +kernel
theorem d_Obj_hasLayer_10 : decode prog_2_method_5_code 10 = .ok (.goto 4, 3) := by decide +kernel
theorem d_Obj_hasLayer_13 : decode prog_2_method_5_code 13 = .ok (.iconst 0, 1) := by decide +kernel
theorem d_Obj_hasLayer_14 : decode prog_2_method_5_code 14 = .ok (.ireturn, 1) := by decide +kernel
theorem d_Desk_finishFirst_0 : decode prog_1_method_52_code 0 = .ok (.aload_n 1, 1) := by decide +kernel
theorem d_Desk_finishFirst_1 : decode prog_1_method_52_code 1 = .ok (.getfield 270, 3) := by decide +kernel
theorem d_Desk_finishFirst_4 : decode prog_1_method_52_code 4 = .ok (.invokevirtual 201, 3) := by decide +kernel
theorem d_Desk_finishFirst_7 : decode prog_1_method_52_code 7 = .ok (.istore_n 3, 1) := by decide +kernel
theorem d_Desk_finishFirst_8 : decode prog_1_method_52_code 8 = .ok (.iload_n 3, 1) := by decide +kernel
theorem d_Desk_finishFirst_9 : decode prog_1_method_52_code 9 = .ok (.iconst (-1), 1) := by decide +kernel
theorem d_Desk_finishFirst_10 : decode prog_1_method_52_code 10 = .ok (.if_icmp .ne 4, 3) := by decide +kernel
theorem d_Desk_finishFirst_13 : decode prog_1_method_52_code 13 = .ok (.return_, 1) := by decide +kernel
theorem d_Desk_finishFirst_14 : decode prog_1_method_52_code 14 = .ok (.aload_n 0, 1) := by decide +kernel
theorem d_Desk_finishFirst_15 : decode prog_1_method_52_code 15 = .ok (.getfield 35, 3) := by decide +kernel
theorem d_Desk_finishFirst_18 : decode prog_1_method_52_code 18 = .ok (.iload_n 3, 1) := by decide +kernel
theorem d_Desk_finishFirst_19 : decode prog_1_method_52_code 19 = .ok (.aaload, 1) := by decide +kernel
theorem d_Desk_finishFirst_20 : decode prog_1_method_52_code 20 = .ok (.astore 4, 2) := by decide +kernel
theorem d_Desk_finishFirst_22 : decode prog_1_method_52_code 22 = .ok (.aload 4, 2) := by decide +kernel
theorem d_Desk_finishFirst_24 : decode prog_1_method_52_code 24 = .ok (.getfield 295, 3) := by decide +kernel
theorem d_Desk_finishFirst_27 : decode prog_1_method_52_code 27 = .ok (.ifCond .eq 14, 3) := by decide +kernel
theorem d_Desk_finishFirst_30 : decode prog_1_method_52_code 30 = .ok (.aload_n 0, 1) := by decide +kernel
theorem d_Desk_finishFirst_31 : decode prog_1_method_52_code 31 = .ok (.aload 4, 2) := by decide +kernel
theorem d_Desk_finishFirst_33 : decode prog_1_method_52_code 33 = .ok (.iconst 5, 1) := by decide +kernel
theorem d_Desk_finishFirst_34 : decode prog_1_method_52_code 34 = .ok (.iconst 0, 1) := by decide +kernel
theorem d_Desk_finishFirst_35 : decode prog_1_method_52_code 35 = .ok (.invokevirtual 377, 3) := by decide +kernel
theorem d_Desk_finishFirst_38 : decode prog_1_method_52_code 38 = .ok (.goto 71, 3) := by decide +kernel
theorem d_Desk_finishFirst_41 : decode prog_1_method_52_code 41 = .ok (.iload_n 2, 1) := by decide +kernel
theorem d_Desk_finishFirst_42 : decode prog_1_method_52_code 42 = .ok (.ifCond .eq 18, 3) := by decide +kernel
theorem d_Desk_finishFirst_45 : decode prog_1_method_52_code 45 = .ok (.aload_n 0, 1) := by decide +kernel
theorem d_Desk_finishFirst_46 : decode prog_1_method_52_code 46 = .ok (.aload 4, 2) := by decide +kernel
theorem d_Desk_finishFirst_48 : decode prog_1_method_52_code 48 = .ok (.iconst 1, 1) := by decide +kernel
theorem d_Desk_finishFirst_49 : decode prog_1_method_52_code 49 = .ok (.aload 4, 2) := by decide +kernel
theorem d_Desk_finishFirst_51 : decode prog_1_method_52_code 51 = .ok (.getfield 292, 3) := by decide +kernel
theorem d_Desk_finishFirst_54 : decode prog_1_method_52_code 54 = .ok (.invokevirtual 377, 3) := by decide +kernel
theorem d_Desk_finishFirst_57 : decode prog_1_method_52_code 57 = .ok (.goto 52, 3) := by decide +kernel
theorem d_Desk_finishFirst_60 : decode prog_1_method_52_code 60 = .ok (.aload_n 1, 1) := by decide +kernel
theorem d_Desk_finishFirst_61 : decode prog_1_method_52_code 61 = .ok (.iconst 1, 1) := by decide +kernel
theorem d_Desk_finishFirst_62 : decode prog_1_method_52_code 62 = .ok (.invokevirtual 381, 3) := by decide +kernel
theorem d_Desk_finishFirst_65 : decode prog_1_method_52_code 65 = .ok (.ifCond .eq 36, 3) := by decide +kernel
theorem d_Desk_finishFirst_68 : decode prog_1_method_52_code 68 = .ok (.aload_n 1, 1) := by decide +kernel
theorem d_Desk_finishFirst_69 : decode prog_1_method_52_code 69 = .ok (.iconst 4, 1) := by decide +kernel
theorem d_Desk_finishFirst_70 : decode prog_1_method_52_code 70 = .ok (.invokevirtual 381, 3) := by decide +kernel
theorem d_Desk_finishFirst_73 : decode prog_1_method_52_code 73 = .ok (.ifCond .eq 28, 3) := by decide +kernel
theorem d_Desk_finishFirst_76 : decode prog_1_method_52_code 76 = .ok (.aload 4, 2) := by decide +kernel
theorem d_Desk_finishFirst_78 : decode prog_1_method_52_code 78 = .ok (.getfield 298, 3) := by decide +kernel
theorem d_Desk_finishFirst_81 : decode prog_1_method_52_code 81 = .ok (.ifCond .ne 20, 3) := by decide +kernel
theorem d_Desk_finishFirst_84 : decode prog_1_method_52_code 84 = .ok (.aload 4, 2) := by decide +kernel
theorem d_Desk_finishFirst_86 : decode prog_1_method_52_code 86 = .ok (.iconst 1, 1) := by decide +kernel
theorem d_Desk_finishFirst_87 : decode prog_1_method_52_code 87 = .ok (.putfield 298, 3) := by decide +kernel
theorem d_Desk_finishFirst_90 : decode prog_1_method_52_code 90 = .ok (.aload_n 1, 1) := by decide +kernel
theorem d_Desk_finishFirst_91 : decode prog_1_method_52_code 91 = .ok (.getfield 270, 3) := by decide +kernel
theorem d_Desk_finishFirst_94 : decode prog_1_method_52_code 94 = .ok (.iload_n 3, 1) := by decide +kernel
theorem d_Desk_finishFirst_95 : decode prog_1_method_52_code 95 = .ok (.invokevirtual 195, 3) := by decide +kernel
theorem d_Desk_finishFirst_98 : decode prog_1_method_52_code 98 = .ok (.goto 11, 3) := by decide +kernel
theorem d_Desk_finishFirst_101 : decode prog_1_method_52_code 101 = .ok (.aload_n 0, 1) := by decide +kernel
theorem d_Desk_finishFirst_102 : decode prog_1_method_52_code 102 = .ok (.aload 4, 2) := by decide +kernel
theorem d_Desk_finishFirst_104 : decode prog_1_method_52_code 104 = .ok (.iconst 4, 1) := by decide +kernel
theorem d_Desk_finishFirst_105 : decode prog_1_method_52_code 105 = .ok (.iconst 0, 1) := by decide +kernel
theorem d_Desk_finishFirst_106 : decode prog_1_method_52_code 106 = .ok (.invokevirtual 377, 3) := by decide +kernel
theorem d_Desk_finishFirst_109 : decode prog_1_method_52_code 109 = .ok (.return_, 1) := by decide +kernel
theorem d_Desk_level_0 : decode prog_1_method_11_code 0 = .ok (.aload_n 0, 1) := by decide +kernel
theorem d_Desk_level_1 : decode prog_1_method_11_code 1 = .ok (.getfield 18, 3) := by decide +kernel
theorem d_Desk_level_4 : decode prog_1_method_11_code 4 = .ok (.getfield 92, 3) := by decide +kernel
theorem d_Desk_level_7 : decode prog_1_method_11_code 7 = .ok (.iconst (-1), 1) := by decide +kernel
theorem d_Desk_level_8 : decode prog_1_method_11_code 8 = .ok (.if_icmp .ne 6, 3) := by decide +kernel
theorem d_Desk_level_11 : decode prog_1_method_11_code 11 = .ok (.bipush (-3), 2) := by decide +kernel
theorem d_Desk_level_13 : decode prog_1_method_11_code 13 = .ok (.ireturn, 1) := by decide +kernel
theorem d_Desk_level_14 : decode prog_1_method_11_code 14 = .ok (.iload_n 1, 1) := by decide +kernel
theorem d_Desk_level_15 : decode prog_1_method_11_code 15 = .ok (.iconst 0, 1) := by decide +kernel
theorem d_Desk_level_16 : decode prog_1_method_11_code 16 = .ok (.iconst 1, 1) := by decide +kernel
theorem d_Desk_level_17 : decode prog_1_method_11_code 17 = .ok (.invokestatic 54, 3) := by decide +kernel
theorem d_Desk_level_20 : decode prog_1_method_11_code 20 = .ok (.ifCond .ne 5, 3) := by decide +kernel
theorem d_Desk_level_23 : decode prog_1_method_11_code 23 = .ok (.iconst (-1), 1) := by decide +kernel
theorem d_Desk_level_24 : decode prog_1_method_11_code 24 = .ok (.ireturn, 1) := by decide +kernel
theorem d_Desk_level_25 : decode prog_1_method_11_code 25 = .ok (.aload_n 0, 1) := by decide +kernel
theorem d_Desk_level_26 : decode prog_1_method_11_code 26 = .ok (.getfield 163, 3) := by decide +kernel
theorem d_Desk_level_29 : decode prog_1_method_11_code 29 = .ok (.istore_n 2, 1) := by decide +kernel
theorem d_Desk_level_30 : decode prog_1_method_11_code 30 = .ok (.aload_n 0, 1) := by decide +kernel
theorem d_Desk_level_31 : decode prog_1_method_11_code 31 = .ok (.iload_n 1, 1) := by decide +kernel
theorem d_Desk_level_32 : decode prog_1_method_11_code 32 = .ok (.putfield 163, 3) := by decide +kernel
theorem d_Desk_level_35 : decode prog_1_method_11_code 35 = .ok (.iload_n 2, 1) := by decide +kernel
theorem d_Desk_level_36 : decode prog_1_method_11_code 36 = .ok (.iconst 1, 1) := by decide +kernel
theorem d_Desk_level_37 : decode prog_1_method_11_code 37 = .ok (.if_icmp .ne 100, 3) := by decide +kernel
theorem d_Desk_level_40 : decode prog_1_method_11_code 40 = .ok (.iload_n 1, 1) := by decide +kernel
theorem d_Desk_level_41 : decode prog_1_method_11_code 41 = .ok (.ifCond .ne 96, 3) := by decide +kernel
theorem d_Desk_level_44 : decode prog_1_method_11_code 44 = .ok (.aload_n 0, 1) := by decide +kernel
theorem d_Desk_level_45 : decode prog_1_method_11_code 45 = .ok (.getfield 48, 3) := by decide +kernel
theorem d_Desk_level_48 : decode prog_1_method_11_code 48 = .ok (.getfield 181, 3) := by decide +kernel
theorem d_Desk_level_51 : decode prog_1_method_11_code 51 = .ok (.istore_n 3, 1) := by decide +kernel
theorem d_Desk_level_52 : decode prog_1_method_11_code 52 = .ok (.iload_n 3, 1) := by decide +kernel
theorem d_Desk_level_53 : decode prog_1_method_11_code 53 = .ok (.ifCond .le 59, 3) := by decide +kernel
theorem d_Desk_level_56 : decode prog_1_method_11_code 56 = .ok (.aload_n 0, 1) := by decide +kernel
theorem d_Desk_level_57 : decode prog_1_method_11_code 57 = .ok (.getfield 48, 3) := by decide +kernel
theorem d_Desk_level_60 : decode prog_1_method_11_code 60 = .ok (.invokevirtual 201, 3) := by decide +kernel
theorem d_Desk_level_63 : decode prog_1_method_11_code 63 = .ok (.istore 4, 2) := by decide +kernel
theorem d_Desk_level_65 : decode prog_1_method_11_code 65 = .ok (.aload_n 0, 1) := by decide +kernel
theorem d_Desk_level_66 : decode prog_1_method_11_code 66 = .ok (.getfield 29, 3) := by decide +kernel
theorem d_Desk_level_69 : decode prog_1_method_11_code 69 = .ok (.iload 4, 2) := by decide +kernel
theorem d_Desk_level_71 : decode prog_1_method_11_code 71 = .ok (.bipush 16, 2) := by decide +kernel
theorem d_Desk_level_73 : decode prog_1_method_11_code 73 = .ok (.irem, 1) := by decide +kernel
theorem d_Desk_level_74 : decode prog_1_method_11_code 74 = .ok (.aaload, 1) := by decide +kernel
theorem d_Desk_level_75 : decode prog_1_method_11_code 75 = .ok (.astore 5, 2) := by decide +kernel
theorem d_Desk_level_77 : decode prog_1_method_11_code 77 = .ok (.aload 5, 2) := by decide +kernel
theorem d_Desk_level_79 : decode prog_1_method_11_code 79 = .ok (.dup, 1) := by decide +kernel
theorem d_Desk_level_80 : decode prog_1_method_11_code 80 = .ok (.getfield 204, 3) := by decide +kernel
theorem d_Desk_level_83 : decode prog_1_method_11_code 83 = .ok (.iconst 1, 1) := by decide +kernel
theorem d_Desk_level_84 : decode prog_1_method_11_code 84 = .ok (.isub, 1) := by decide +kernel
theorem d_Desk_level_85 : decode prog_1_method_11_code 85 = .ok (.putfield 204, 3) := by decide +kernel
theorem d_Desk_level_88 : decode prog_1_method_11_code 88 = .ok (.aload_n 0, 1) := by decide +kernel
theorem d_Desk_level_89 : decode prog_1_method_11_code 89 = .ok (.aload 5, 2) := by decide +kernel
theorem d_Desk_level_91 : decode prog_1_method_11_code 91 = .ok (.iload 4, 2) := by decide +kernel
theorem d_Desk_level_93 : decode prog_1_method_11_code 93 = .ok (.bipush 16, 2) := by decide +kernel
theorem d_Desk_level_95 : decode prog_1_method_11_code 95 = .ok (.if_icmp .lt 7, 3) := by decide +kernel
theorem d_Desk_level_98 : decode prog_1_method_11_code 98 = .ok (.iconst 1, 1) := by decide +kernel
theorem d_Desk_level_99 : decode prog_1_method_11_code 99 = .ok (.goto 4, 3) := by decide +kernel
theorem d_Desk_level_102 : decode prog_1_method_11_code 102 = .ok (.iconst 0, 1) := by decide +kernel
theorem d_Desk_level_103 : decode prog_1_method_11_code 103 = .ok (.invokevirtual 207, 3) := by decide +kernel
theorem d_Desk_level_106 : decode prog_1_method_11_code 106 = .ok (.iinc 3 (-1), 3) := by decide +kernel
theorem d_Desk_level_109 : decode prog_1_method_11_code 109 = .ok (.goto (-57), 3) := by decide +kernel
theorem d_Desk_level_112 : decode prog_1_method_11_code 112 = .ok (.iconst 0, 1) := by decide +kernel
theorem d_Desk_level_113 : decode prog_1_method_11_code 113 = .ok (.istore_n 3, 1) := by decide +kernel
theorem d_Desk_level_114 : decode prog_1_method_11_code 114 = .ok (.iload_n 3, 1) := by decide +kernel
theorem d_Desk_level_115 : decode prog_1_method_11_code 115 = .ok (.aload_n 0, 1) := by decide +kernel
theorem d_Desk_level_116 : decode prog_1_method_11_code 116 = .ok (.getfield 69, 3) := by decide +kernel
theorem d_Desk_level_119 : decode prog_1_method_11_code 119 = .ok (.if_icmp .ge 14, 3) := by decide +kernel
theorem d_Desk_level_122 : decode prog_1_method_11_code 122 = .ok (.aload_n 0, 1) := by decide +kernel
theorem d_Desk_level_123 : decode prog_1_method_11_code 123 = .ok (.iload_n 3, 1) := by decide +kernel
theorem d_Desk_level_124 : decode prog_1_method_11_code 124 = .ok (.invokevirtual 198, 3) := by decide +kernel
theorem d_Desk_level_127 : decode prog_1_method_11_code 127 = .ok (.iinc 3 1, 3) := by decide +kernel
theorem d_Desk_level_130 : decode prog_1_method_11_code 130 = .ok (.goto (-16), 3) := by decide +kernel
theorem d_Desk_level_133 : decode prog_1_method_11_code 133 = .ok (.aload_n 0, 1) := by decide +kernel
theorem d_Desk_level_134 : decode prog_1_method_11_code 134 = .ok (.invokevirtual 89, 3) := by decide +kernel
theorem d_Desk_level_137 : decode prog_1_method_11_code 137 = .ok (.iload_n 2, 1) := by decide +kernel
theorem d_Desk_level_138 : decode prog_1_method_11_code 138 = .ok (.ireturn, 1) := by decide +kernel
theorem d_Desk_isThere_0 : decode prog_1_method_27_code 0 = .ok (.iload_n 1, 1) := by decide +kernel
theorem d_Desk_isThere_1 : decode prog_1_method_27_code 1 = .ok (.iconst 0, 1) := by decide +kernel
theorem d_Desk_isThere_2 : decode prog_1_method_27_code 2 = .ok (.bipush 15, 2) := by decide +kernel
theorem d_Desk_isThere_4 : decode prog_1_method_27_code 4 = .ok (.invokestatic 54, 3) := by decide +kernel
theorem d_Desk_isThere_7 : decode prog_1_method_27_code 7 = .ok (.ifCond .eq 19, 3) := by decide +kernel
theorem d_Desk_isThere_10 : decode prog_1_method_27_code 10 = .ok (.aload_n 0, 1) := by decide +kernel
theorem d_Desk_isThere_11 : decode prog_1_method_27_code 11 = .ok (.getfield 29, 3) := by decide +kernel
theorem d_Desk_isThere_14 : decode prog_1_method_27_code 14 = .ok (.iload_n 1, 1) := by decide +kernel
theorem d_Desk_isThere_15 : decode prog_1_method_27_code 15 = .ok (.aaload, 1) := by decide +kernel
theorem d_Desk_isThere_16 : decode prog_1_method_27_code 16 = .ok (.invokevirtual 316, 3) := by decide +kernel
theorem d_Desk_isThere_19 : decode prog_1_method_27_code 19 = .ok (.ifCond .eq 7, 3) := by decide +kernel
theorem d_Desk_isThere_22 : decode prog_1_method_27_code 22 = .ok (.iconst 1, 1) := by decide +kernel
theorem d_Desk_isThere_23 : decode prog_1_method_27_code 23 = .ok (.goto 4, 3) := by decide +kernel
theorem d_Desk_isThere_26 : decode prog_1_method_27_code 26 = .ok (.iconst 0, 1) := by decide +kernel
theorem d_Desk_isThere_27 : decode prog_1_method_27_code 27 = .ok (.ireturn, 1) := by decide +kernel
theorem d_Desk_interrupt_0 : decode prog_1_method_12_code 0 = .ok (.aload_n 0, 1) := by decide +kernel
theorem d_Desk_interrupt_1 : decode prog_1_method_12_code 1 = .ok (.iload_n 1, 1) := by decide +kernel
theorem d_Desk_interrupt_2 : decode prog_1_method_12_code 2 = .ok (.invokevirtual 211, 3) := by decide +kernel
theorem d_Desk_interrupt_5 : decode prog_1_method_12_code 5 = .ok (.ifCond .eq 16, 3) := by decide +kernel
theorem d_Desk_interrupt_8 : decode prog_1_method_12_code 8 = .ok (.aload_n 0, 1) := by decide +kernel
theorem d_Desk_interrupt_9 : decode prog_1_method_12_code 9 = .ok (.getfield 29, 3) := by decide +kernel
theorem d_Desk_interrupt_12 : decode prog_1_method_12_code 12 = .ok (.iload_n 1, 1) := by decide +kernel
theorem d_Desk_interrupt_13 : decode prog_1_method_12_code 13 = .ok (.aaload, 1) := by decide +kernel
theorem d_Desk_interrupt_14 : decode prog_1_method_12_code 14 = .ok (.getfield 153, 3) := by decide +kernel
theorem d_Desk_interrupt_17 : decode prog_1_method_12_code 17 = .ok (.iconst 5, 1) := by decide +kernel
theorem d_Desk_interrupt_18 : decode prog_1_method_12_code 18 = .ok (.if_icmp .eq 5, 3) := by decide +kernel
theorem d_Desk_interrupt_21 : decode prog_1_method_12_code 21 = .ok (.iconst (-1), 1) := by decide +kernel
theorem d_Desk_interrupt_22 : decode prog_1_method_12_code 22 = .ok (.ireturn, 1) := by decide +kernel
theorem d_Desk_interrupt_23 : decode prog_1_method_12_code 23 = .ok (.aload_n 0, 1) := by decide +kernel
theorem d_Desk_interrupt_24 : decode prog_1_method_12_code 24 = .ok (.getfield 163, 3) := by decide +kernel
theorem d_Desk_interrupt_27 : decode prog_1_method_12_code 27 = .ok (.ifCond .ne 20, 3) := by decide +kernel
theorem d_Desk_interrupt_30 : decode prog_1_method_12_code 30 = .ok (.aload_n 0, 1) := by decide +kernel
theorem d_Desk_interrupt_31 : decode prog_1_method_12_code 31 = .ok (.aload_n 0, 1) := by decide +kernel
theorem d_Desk_interrupt_32 : decode prog_1_method_12_code 32 = .ok (.getfield 29, 3) := by decide +kernel
theorem d_Desk_interrupt_35 : decode prog_1_method_12_code 35 = .ok (.iload_n 1, 1) := by decide +kernel
theorem d_Desk_interrupt_36 : decode prog_1_method_12_code 36 = .ok (.aaload, 1) := by decide +kernel
theorem d_Desk_interrupt_37 : decode prog_1_method_12_code 37 = .ok (.iload_n 2, 1) := by decide +kernel
theorem d_Desk_interrupt_38 : decode prog_1_method_12_code 38 = .ok (.invokevirtual 207, 3) := by decide +kernel
theorem d_Desk_interrupt_41 : decode prog_1_method_12_code 41 = .ok (.aload_n 0, 1) := by decide +kernel
theorem d_Desk_interrupt_42 : decode prog_1_method_12_code 42 = .ok (.invokevirtual 89, 3) := by decide +kernel
theorem d_Desk_interrupt_45 : decode prog_1_method_12_code 45 = .ok (.iconst 1, 1) := by decide +kernel
theorem d_Desk_interrupt_46 : decode prog_1_method_12_code 46 = .ok (.ireturn, 1) := by decide +kernel
theorem d_Desk_interrupt_47 : decode prog_1_method_12_code 47 = .ok (.aload_n 0, 1) := by decide +kernel
theorem d_Desk_interrupt_48 : decode prog_1_method_12_code 48 = .ok (.getfield 48, 3) := by decide +kernel
theorem d_Desk_interrupt_51 : decode prog_1_method_12_code 51 = .ok (.getfield 181, 3) := by decide +kernel
theorem d_Desk_interrupt_54 : decode prog_1_method_12_code 54 = .ok (.bipush 8, 2) := by decide +kernel
theorem d_Desk_interrupt_56 : decode prog_1_method_12_code 56 = .ok (.if_icmp .ne 6, 3) := by decide +kernel
theorem d_Desk_interrupt_59 : decode prog_1_method_12_code 59 = .ok (.bipush (-2), 2) := by decide +kernel
theorem d_Desk_interrupt_61 : decode prog_1_method_12_code 61 = .ok (.ireturn, 1) := by decide +kernel
theorem d_Desk_interrupt_62 : decode prog_1_method_12_code 62 = .ok (.aload_n 0, 1) := by decide +kernel
theorem d_Desk_interrupt_63 : decode prog_1_method_12_code 63 = .ok (.getfield 48, 3) := by decide +kernel
theorem d_Desk_interrupt_66 : decode prog_1_method_12_code 66 = .ok (.iload_n 2, 1) := by decide +kernel
theorem d_Desk_interrupt_67 : decode prog_1_method_12_code 67 = .ok (.ifCond .eq 10, 3) := by decide +kernel
theorem d_Desk_interrupt_70 : decode prog_1_method_12_code 70 = .ok (.iload_n 1, 1) := by decide +kernel
theorem d_Desk_interrupt_71 : decode prog_1_method_12_code 71 = .ok (.bipush 16, 2) := by decide +kernel
theorem d_Desk_interrupt_73 : decode prog_1_method_12_code 73 = .ok (.iadd, 1) := by decide +kernel
theorem d_Desk_interrupt_74 : decode prog_1_method_12_code 74 = .ok (.goto 4, 3) := by decide +kernel
theorem d_Desk_interrupt_77 : decode prog_1_method_12_code 77 = .ok (.iload_n 1, 1) := by decide +kernel
theorem d_Desk_interrupt_78 : decode prog_1_method_12_code 78 = .ok (.invokevirtual 195, 3) := by decide +kernel
theorem d_Desk_interrupt_81 : decode prog_1_method_12_code 81 = .ok (.aload_n 0, 1) := by decide +kernel
theorem d_Desk_interrupt_82 : decode prog_1_method_12_code 82 = .ok (.getfield 29, 3) := by decide +kernel
theorem d_Desk_interrupt_85 : decode prog_1_method_12_code 85 = .ok (.iload_n 1, 1) := by decide +kernel
theorem d_Desk_interrupt_86 : decode prog_1_method_12_code 86 = .ok (.aaload, 1) := by decide +kernel
theorem d_Desk_interrupt_87 : decode prog_1_method_12_code 87 = .ok (.dup, 1) := by decide +kernel
theorem d_Desk_interrupt_88 : decode prog_1_method_12_code 88 = .ok (.getfield 204, 3) := by decide +kernel
theorem d_Desk_interrupt_91 : decode prog_1_method_12_code 91 = .ok (.iconst 1, 1) := by decide +kernel
theorem d_Desk_interrupt_92 : decode prog_1_method_12_code 92 = .ok (.iadd, 1) := by decide +kernel
theorem d_Desk_interrupt_93 : decode prog_1_method_12_code 93 = .ok (.putfield 204, 3) := by decide +kernel
theorem d_Desk_interrupt_96 : decode prog_1_method_12_code 96 = .ok (.iconst 0, 1) := by decide +kernel
theorem d_Desk_interrupt_97 : decode prog_1_method_12_code 97 = .ok (.ireturn, 1) := by decide +kernel
theorem d_Desk_freeTransfer_0 : decode prog_1_method_32_code 0 = .ok (.iconst 0, 1) := by decide +kernel
theorem d_Desk_freeTransfer_1 : decode prog_1_method_32_code 1 = .ok (.istore_n 1, 1) := by decide +kernel
theorem d_Desk_freeTransfer_2 : decode prog_1_method_32_code 2 = .ok (.iload_n 1, 1) := by decide +kernel
theorem d_Desk_freeTransfer_3 : decode prog_1_method_32_code 3 = .ok (.bipush 8, 2) := by decide +kernel
theorem d_Desk_freeTransfer_5 : decode prog_1_method_32_code 5 = .ok (.if_icmp .ge 23, 3) := by decide +kernel
theorem d_Desk_freeTransfer_8 : decode prog_1_method_32_code 8 = .ok (.aload_n 0, 1) := by decide +kernel
theorem d_Desk_freeTransfer_9 : decode prog_1_method_32_code 9 = .ok (.getfield 35, 3) := by decide +kernel
theorem d_Desk_freeTransfer_12 : decode prog_1_method_32_code 12 = .ok (.iload_n 1, 1) := by decide +kernel
theorem d_Desk_freeTransfer_13 : decode prog_1_method_32_code 13 = .ok (.aaload, 1) := by decide +kernel
theorem d_Desk_freeTransfer_14 : decode prog_1_method_32_code 14 = .ok (.getfield 283, 3) := by decide +kernel
theorem d_Desk_freeTransfer_17 : decode prog_1_method_32_code 17 = .ok (.ifCond .eq 5, 3) := by decide +kernel
theorem d_Desk_freeTransfer_20 : decode prog_1_method_32_code 20 = .ok (.iload_n 1, 1) := by decide +kernel
theorem d_Desk_freeTransfer_21 : decode prog_1_method_32_code 21 = .ok (.ireturn, 1) := by decide +kernel
theorem d_Desk_freeTransfer_22 : decode prog_1_method_32_code 22 = .ok (.iinc 1 1, 3) := by decide +kernel
theorem d_Desk_freeTransfer_25 : decode prog_1_method_32_code 25 = .ok (.goto (-23), 3) := by decide +kernel
theorem d_Desk_freeTransfer_28 : decode prog_1_method_32_code 28 = .ok (.iconst (-1), 1) := by decide +kernel
theorem d_Desk_freeTransfer_29 : decode prog_1_method_32_code 29 = .ok (.ireturn, 1) := by decide +kernel
theorem d_Tra_begin_0 : decode prog_8_method_2_code 0 = .ok (.aload_n 0, 1) := by decide +kernel
theorem d_Tra_begin_1 : decode prog_8_method_2_code 1 = .ok (.iconst 0, 1) := by decide +kernel
theorem d_Tra_begin_2 : decode prog_8_method_2_code 2 = .ok (.putfield 9, 3) := by decide +kernel
theorem d_Tra_begin_5 : decode prog_8_method_2_code 5 = .ok (.aload_n 0, 1) := by decide +kernel
theorem d_Tra_begin_6 : decode prog_8_method_2_code 6 = .ok (.iconst 0, 1) := by decide +kernel
theorem d_Tra_begin_7 : decode prog_8_method_2_code 7 = .ok (.putfield 15, 3) := by decide +kernel
theorem d_Tra_begin_10 : decode prog_8_method_2_code 10 = .ok (.aload_n 0, 1) := by decide +kernel
theorem d_Tra_begin_11 : decode prog_8_method_2_code 11 = .ok (.iload_n 1, 1) := by decide +kernel
theorem d_Tra_begin_12 : decode prog_8_method_2_code 12 = .ok (.putfield 18, 3) := by decide +kernel
theorem d_Tra_begin_15 : decode prog_8_method_2_code 15 = .ok (.aload_n 0, 1) := by decide +kernel
theorem d_Tra_begin_16 : decode prog_8_method_2_code 16 = .ok (.iload_n 2, 1) := by decide +kernel
theorem d_Tra_begin_17 : decode prog_8_method_2_code 17 = .ok (.putfield 21, 3) := by decide +kernel
theorem d_Tra_begin_20 : decode prog_8_method_2_code 20 = .ok (.aload_n 0, 1) := by decide +kernel
theorem d_Tra_begin_21 : decode prog_8_method_2_code 21 = .ok (.iload_n 3, 1) := by decide +kernel
theorem d_Tra_begin_22 : decode prog_8_method_2_code 22 = .ok (.putfield 24, 3) := by decide +kernel
theorem d_Tra_begin_25 : decode prog_8_method_2_code 25 = .ok (.aload_n 0, 1) := by decide +kernel
theorem d_Tra_begin_26 : decode prog_8_method_2_code 26 = .ok (.iload 4, 2) := by decide +kernel
theorem d_Tra_begin_28 : decode prog_8_method_2_code 28 = .ok (.putfield 27, 3) := by decide +kernel
theorem d_Tra_begin_31 : decode prog_8_method_2_code 31 = .ok (.aload_n 0, 1) := by decide +kernel
theorem d_Tra_begin_32 : decode prog_8_method_2_code 32 = .ok (.iconst 0, 1) := by decide +kernel
theorem d_Tra_begin_33 : decode prog_8_method_2_code 33 = .ok (.putfield 30, 3) := by decide +kernel
theorem d_Tra_begin_36 : decode prog_8_method_2_code 36 = .ok (.aload_n 0, 1) := by decide +kernel
theorem d_Tra_begin_37 : decode prog_8_method_2_code 37 = .ok (.iconst 0, 1) := by decide +kernel
theorem d_Tra_begin_38 : decode prog_8_method_2_code 38 = .ok (.putfield 34, 3) := by decide +kernel
theorem d_Tra_begin_41 : decode prog_8_method_2_code 41 = .ok (.return_, 1) := by decide +kernel
theorem d_Desk_sendDown_0 : decode prog_1_method_53_code 0 = .ok (.aload_n 0, 1) := by decide +kernel
theorem d_Desk_sendDown_1 : decode prog_1_method_53_code 1 = .ok (.getfield 35, 3) := by decide +kernel
theorem d_Desk_sendDown_4 : decode prog_1_method_53_code 4 = .ok (.iload_n 1, 1) := by decide +kernel
theorem d_Desk_sendDown_5 : decode prog_1_method_53_code 5 = .ok (.aaload, 1) := by decide +kernel
theorem d_Desk_sendDown_6 : decode prog_1_method_53_code 6 = .ok (.astore_n 3, 1) := by decide +kernel
theorem d_Desk_sendDown_7 : decode prog_1_method_53_code 7 = .ok (.aload_n 0, 1) := by decide +kernel
theorem d_Desk_sendDown_8 : decode prog_1_method_53_code 8 = .ok (.getfield 29, 3) := by decide +kernel
theorem d_Desk_sendDown_11 : decode prog_1_method_53_code 11 = .ok (.aload_n 3, 1) := by decide +kernel
theorem d_Desk_sendDown_12 : decode prog_1_method_53_code 12 = .ok (.getfield 289, 3) := by decide +kernel
theorem d_Desk_sendDown_15 : decode prog_1_method_53_code 15 = .ok (.aaload, 1) := by decide +kernel
theorem d_Desk_sendDown_16 : decode prog_1_method_53_code 16 = .ok (.astore 4, 2) := by decide +kernel
theorem d_Desk_sendDown_18 : decode prog_1_method_53_code 18 = .ok (.aload 4, 2) := by decide +kernel
theorem d_Desk_sendDown_20 : decode prog_1_method_53_code 20 = .ok (.iconst 1, 1) := by decide +kernel
theorem d_Desk_sendDown_21 : decode prog_1_method_53_code 21 = .ok (.invokevirtual 381, 3) := by decide +kernel
theorem d_Desk_sendDown_24 : decode prog_1_method_53_code 24 = .ok (.ifCond .eq 20, 3) := by decide +kernel
theorem d_Desk_sendDown_27 : decode prog_1_method_53_code 27 = .ok (.aload_n 3, 1) := by decide +kernel
theorem d_Desk_sendDown_28 : decode prog_1_method_53_code 28 = .ok (.getfield 292, 3) := by decide +kernel
theorem d_Desk_sendDown_31 : decode prog_1_method_53_code 31 = .ok (.bipush 64, 2) := by decide +kernel
theorem d_Desk_sendDown_33 : decode prog_1_method_53_code 33 = .ok (.if_icmp .le 11, 3) := by decide +kernel
theorem d_Desk_sendDown_36 : decode prog_1_method_53_code 36 = .ok (.aload_n 0, 1) := by decide +kernel
theorem d_Desk_sendDown_37 : decode prog_1_method_53_code 37 = .ok (.aload_n 3, 1) := by decide +kernel
theorem d_Desk_sendDown_38 : decode prog_1_method_53_code 38 = .ok (.iconst 2, 1) := by decide +kernel
theorem d_Desk_sendDown_39 : decode prog_1_method_53_code 39 = .ok (.iconst 0, 1) := by decide +kernel
theorem d_Desk_sendDown_40 : decode prog_1_method_53_code 40 = .ok (.invokevirtual 377, 3) := by decide +kernel
theorem d_Desk_sendDown_43 : decode prog_1_method_53_code 43 = .ok (.return_, 1) := by decide +kernel
theorem d_Desk_sendDown_44 : decode prog_1_method_53_code 44 = .ok (.aload 4, 2) := by decide +kernel
theorem d_Desk_sendDown_46 : decode prog_1_method_53_code 46 = .ok (.iconst 2, 1) := by decide +kernel
theorem d_Desk_sendDown_47 : decode prog_1_method_53_code 47 = .ok (.invokevirtual 381, 3) := by decide +kernel
theorem d_Desk_sendDown_50 : decode prog_1_method_53_code 50 = .ok (.ifCond .eq 34, 3) := by decide +kernel
theorem d_Desk_sendDown_53 : decode prog_1_method_53_code 53 = .ok (.iload_n 2, 1) := by decide +kernel
theorem d_Desk_sendDown_54 : decode prog_1_method_53_code 54 = .ok (.sipush 128, 3) := by decide +kernel
theorem d_Desk_sendDown_57 : decode prog_1_method_53_code 57 = .ok (.if_icmp .lt 11, 3) := by decide +kernel
theorem d_Desk_sendDown_60 : decode prog_1_method_53_code 60 = .ok (.aload_n 0, 1) := by decide +kernel
theorem d_Desk_sendDown_61 : decode prog_1_method_53_code 61 = .ok (.aload_n 3, 1) := by decide +kernel
theorem d_Desk_sendDown_62 : decode prog_1_method_53_code 62 = .ok (.iconst 3, 1) := by decide +kernel
theorem d_Desk_sendDown_63 : decode prog_1_method_53_code 63 = .ok (.iconst 0, 1) := by decide +kernel
theorem d_Desk_sendDown_64 : decode prog_1_method_53_code 64 = .ok (.invokevirtual 377, 3) := by decide +kernel
theorem d_Desk_sendDown_67 : decode prog_1_method_53_code 67 = .ok (.return_, 1) := by decide +kernel
theorem d_Desk_sendDown_68 : decode prog_1_method_53_code 68 = .ok (.aload_n 3, 1) := by decide +kernel
theorem d_Desk_sendDown_69 : decode prog_1_method_53_code 69 = .ok (.aload_n 3, 1) := by decide +kernel
theorem d_Desk_sendDown_70 : decode prog_1_method_53_code 70 = .ok (.getfield 292, 3) := by decide +kernel
theorem d_Desk_sendDown_73 : decode prog_1_method_53_code 73 = .ok (.sipush 128, 3) := by decide +kernel
theorem d_Desk_sendDown_76 : decode prog_1_method_53_code 76 = .ok (.iload_n 2, 1) := by decide +kernel
theorem d_Desk_sendDown_77 : decode prog_1_method_53_code 77 = .ok (.isub, 1) := by decide +kernel
theorem d_Desk_sendDown_78 : decode prog_1_method_53_code 78 = .ok (.invokestatic 384, 3) := by decide +kernel
theorem d_Desk_sendDown_81 : decode prog_1_method_53_code 81 = .ok (.putfield 292, 3) := by decide +kernel
theorem d_Desk_sendDown_84 : decode prog_1_method_53_code 84 = .ok (.aload 4, 2) := by decide +kernel
theorem d_Desk_sendDown_86 : decode prog_1_method_53_code 86 = .ok (.getfield 270, 3) := by decide +kernel
theorem d_Desk_sendDown_89 : decode prog_1_method_53_code 89 = .ok (.iload_n 1, 1) := by decide +kernel
theorem d_Desk_sendDown_90 : decode prog_1_method_53_code 90 = .ok (.invokevirtual 195, 3) := by decide +kernel
theorem d_Desk_sendDown_93 : decode prog_1_method_53_code 93 = .ok (.return_, 1) := by decide +kernel
theorem d_Desk_transfer_0 : decode prog_1_method_13_code 0 = .ok (.aload_n 0, 1) := by decide +kernel
theorem d_Desk_transfer_1 : decode prog_1_method_13_code 1 = .ok (.getfield 18, 3) := by decide +kernel
theorem d_Desk_transfer_4 : decode prog_1_method_13_code 4 = .ok (.getfield 92, 3) := by decide +kernel
theorem d_Desk_transfer_7 : decode prog_1_method_13_code 7 = .ok (.iconst (-1), 1) := by decide +kernel
theorem d_Desk_transfer_8 : decode prog_1_method_13_code 8 = .ok (.if_icmp .ne 6, 3) := by decide +kernel
theorem d_Desk_transfer_11 : decode prog_1_method_13_code 11 = .ok (.bipush (-3), 2) := by decide +kernel
theorem d_Desk_transfer_13 : decode prog_1_method_13_code 13 = .ok (.ireturn, 1) := by decide +kernel
theorem d_Desk_transfer_14 : decode prog_1_method_13_code 14 = .ok (.aload_n 0, 1) := by decide +kernel
theorem d_Desk_transfer_15 : decode prog_1_method_13_code 15 = .ok (.invokevirtual 102, 3) := by decide +kernel
theorem d_Desk_transfer_18 : decode prog_1_method_13_code 18 = .ok (.astore 5, 2) := by decide +kernel
theorem d_Desk_transfer_20 : decode prog_1_method_13_code 20 = .ok (.aload 5, 2) := by decide +kernel
theorem d_Desk_transfer_22 : decode prog_1_method_13_code 22 = .ok (.iload_n 1, 1) := by decide +kernel
theorem d_Desk_transfer_23 : decode prog_1_method_13_code 23 = .ok (.invokevirtual 134, 3) := by decide +kernel
theorem d_Desk_transfer_26 : decode prog_1_method_13_code 26 = .ok (.istore 6, 2) := by decide +kernel
theorem d_Desk_transfer_28 : decode prog_1_method_13_code 28 = .ok (.aload 5, 2) := by decide +kernel
theorem d_Desk_transfer_30 : decode prog_1_method_13_code 30 = .ok (.iload 4, 2) := by decide +kernel
theorem d_Desk_transfer_32 : decode prog_1_method_13_code 32 = .ok (.invokevirtual 134, 3) := by decide +kernel
theorem d_Desk_transfer_35 : decode prog_1_method_13_code 35 = .ok (.istore 7, 2) := by decide +kernel
theorem d_Desk_transfer_37 : decode prog_1_method_13_code 37 = .ok (.aload_n 0, 1) := by decide +kernel
theorem d_Desk_transfer_38 : decode prog_1_method_13_code 38 = .ok (.iload 6, 2) := by decide +kernel
theorem d_Desk_transfer_40 : decode prog_1_method_13_code 40 = .ok (.iconst 5, 1) := by decide +kernel
theorem d_Desk_transfer_41 : decode prog_1_method_13_code 41 = .ok (.iconst 5, 1) := by decide +kernel
theorem d_Desk_transfer_42 : decode prog_1_method_13_code 42 = .ok (.invokevirtual 215, 3) := by decide +kernel
theorem d_Desk_transfer_45 : decode prog_1_method_13_code 45 = .ok (.ifCond .eq 24, 3) := by decide +kernel
theorem d_Desk_transfer_48 : decode prog_1_method_13_code 48 = .ok (.iload_n 2, 1) := by decide +kernel
theorem d_Desk_transfer_49 : decode prog_1_method_13_code 49 = .ok (.iconst 0, 1) := by decide +kernel
theorem d_Desk_transfer_50 : decode prog_1_method_13_code 50 = .ok (.sipush 255, 3) := by decide +kernel
theorem d_Desk_transfer_53 : decode prog_1_method_13_code 53 = .ok (.invokestatic 54, 3) := by decide +kernel
theorem d_Desk_transfer_56 : decode prog_1_method_13_code 56 = .ok (.ifCond .eq 13, 3) := by decide +kernel
theorem d_Desk_transfer_59 : decode prog_1_method_13_code 59 = .ok (.iload_n 3, 1) := by decide +kernel
theorem d_Desk_transfer_60 : decode prog_1_method_13_code 60 = .ok (.iconst 1, 1) := by decide +kernel
theorem d_Desk_transfer_61 : decode prog_1_method_13_code 61 = .ok (.bipush 99, 2) := by decide +kernel
theorem d_Desk_transfer_63 : decode prog_1_method_13_code 63 = .ok (.invokestatic 54, 3) := by decide +kernel
theorem d_Desk_transfer_66 : decode prog_1_method_13_code 66 = .ok (.ifCond .ne 5, 3) := by decide +kernel
theorem d_Desk_transfer_69 : decode prog_1_method_13_code 69 = .ok (.iconst (-1), 1) := by decide +kernel
theorem d_Desk_transfer_70 : decode prog_1_method_13_code 70 = .ok (.ireturn, 1) := by decide +kernel
theorem d_Desk_transfer_71 : decode prog_1_method_13_code 71 = .ok (.iload 4, 2) := by decide +kernel
theorem d_Desk_transfer_73 : decode prog_1_method_13_code 73 = .ok (.iconst (-1), 1) := by decide +kernel
theorem d_Desk_transfer_74 : decode prog_1_method_13_code 74 = .ok (.if_icmp .eq 16, 3) := by decide +kernel
theorem d_Desk_transfer_77 : decode prog_1_method_13_code 77 = .ok (.aload_n 0, 1) := by decide +kernel
theorem d_Desk_transfer_78 : decode prog_1_method_13_code 78 = .ok (.iload 7, 2) := by decide +kernel
theorem d_Desk_transfer_80 : decode prog_1_method_13_code 80 = .ok (.iconst 0, 1) := by decide +kernel
theorem d_Desk_transfer_81 : decode prog_1_method_13_code 81 = .ok (.iconst 1, 1) := by decide +kernel
theorem d_Desk_transfer_82 : decode prog_1_method_13_code 82 = .ok (.invokevirtual 215, 3) := by decide +kernel
theorem d_Desk_transfer_85 : decode prog_1_method_13_code 85 = .ok (.ifCond .ne 5, 3) := by decide +kernel
theorem d_Desk_transfer_88 : decode prog_1_method_13_code 88 = .ok (.iconst (-1), 1) := by decide +kernel
theorem d_Desk_transfer_89 : decode prog_1_method_13_code 89 = .ok (.ireturn, 1) := by decide +kernel
theorem d_Desk_transfer_90 : decode prog_1_method_13_code 90 = .ok (.aload 5, 2) := by decide +kernel
theorem d_Desk_transfer_92 : decode prog_1_method_13_code 92 = .ok (.iload_n 1, 1) := by decide +kernel
theorem d_Desk_transfer_93 : decode prog_1_method_13_code 93 = .ok (.iconst 1, 1) := by decide +kernel
theorem d_Desk_transfer_94 : decode prog_1_method_13_code 94 = .ok (.invokevirtual 144, 3) := by decide +kernel
theorem d_Desk_transfer_97 : decode prog_1_method_13_code 97 = .ok (.ifCond .ne 14, 3) := by decide +kernel
theorem d_Desk_transfer_100 : decode prog_1_method_13_code 100 = .ok (.aload 5, 2) := by decide +kernel
theorem d_Desk_transfer_102 : decode prog_1_method_13_code 102 = .ok (.iload 4, 2) := by decide +kernel
theorem d_Desk_transfer_104 : decode prog_1_method_13_code 104 = .ok (.iconst 2, 1) := by decide +kernel
theorem d_Desk_transfer_105 : decode prog_1_method_13_code 105 = .ok (.invokevirtual 144, 3) := by decide +kernel
theorem d_Desk_transfer_108 : decode prog_1_method_13_code 108 = .ok (.ifCond .eq 6, 3) := by decide +kernel
theorem d_Desk_transfer_111 : decode prog_1_method_13_code 111 = .ok (.bipush (-5), 2) := by decide +kernel
theorem d_Desk_transfer_113 : decode prog_1_method_13_code 113 = .ok (.ireturn, 1) := by decide +kernel
theorem d_Desk_transfer_114 : decode prog_1_method_13_code 114 = .ok (.aload_n 0, 1) := by decide +kernel
theorem d_Desk_transfer_115 : decode prog_1_method_13_code 115 = .ok (.invokevirtual 218, 3) := by decide +kernel
theorem d_Desk_transfer_118 : decode prog_1_method_13_code 118 = .ok (.istore 8, 2) := by decide +kernel
theorem d_Desk_transfer_120 : decode prog_1_method_13_code 120 = .ok (.iload 8, 2) := by decide +kernel
theorem d_Desk_transfer_122 : decode prog_1_method_13_code 122 = .ok (.iconst (-1), 1) := by decide +kernel
theorem d_Desk_transfer_123 : decode prog_1_method_13_code 123 = .ok (.if_icmp .ne 6, 3) := by decide +kernel
theorem d_Desk_transfer_126 : decode prog_1_method_13_code 126 = .ok (.bipush (-2), 2) := by decide +kernel
theorem d_Desk_transfer_128 : decode prog_1_method_13_code 128 = .ok (.ireturn, 1) := by decide +kernel
theorem d_Desk_transfer_129 : decode prog_1_method_13_code 129 = .ok (.aload_n 0, 1) := by decide +kernel
theorem d_Desk_transfer_130 : decode prog_1_method_13_code 130 = .ok (.getfield 35, 3) := by decide +kernel
theorem d_Desk_transfer_133 : decode prog_1_method_13_code 133 = .ok (.iload 8, 2) := by decide +kernel
theorem d_Desk_transfer_135 : decode prog_1_method_13_code 135 = .ok (.aaload, 1) := by decide +kernel
theorem d_Desk_transfer_136 : decode prog_1_method_13_code 136 = .ok (.aload_n 0, 1) := by decide +kernel
theorem d_Desk_transfer_137 : decode prog_1_method_13_code 137 = .ok (.getfield 18, 3) := by decide +kernel
theorem d_Desk_transfer_140 : decode prog_1_method_13_code 140 = .ok (.getfield 92, 3) := by decide +kernel
theorem d_Desk_transfer_143 : decode prog_1_method_13_code 143 = .ok (.iload 6, 2) := by decide +kernel
theorem d_Desk_transfer_145 : decode prog_1_method_13_code 145 = .ok (.iload_n 3, 1) := by decide +kernel
theorem d_Desk_transfer_146 : decode prog_1_method_13_code 146 = .ok (.iload 7, 2) := by decide +kernel
theorem d_Desk_transfer_148 : decode prog_1_method_13_code 148 = .ok (.invokevirtual 221, 3) := by decide +kernel
theorem d_Desk_transfer_151 : decode prog_1_method_13_code 151 = .ok (.aload_n 0, 1) := by decide +kernel
theorem d_Desk_transfer_152 : decode prog_1_method_13_code 152 = .ok (.aload_n 0, 1) := by decide +kernel
theorem d_Desk_transfer_153 : decode prog_1_method_13_code 153 = .ok (.getfield 35, 3) := by decide +kernel
theorem d_Desk_transfer_156 : decode prog_1_method_13_code 156 = .ok (.iload 8, 2) := by decide +kernel
