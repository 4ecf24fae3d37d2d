theorem d_Mod_is_0 : decode prog_10_method_2_code 0 = .ok (.iload_n 0, 1) := by decide +kernel
theorem d_Mod_is_1 : decode prog_10_method_2_code 1 = .ok (.iload_n 1, 1) := by decide +kernel
theorem d_Mod_is_2 : decode prog_10_method_2_code 2 = .ok (.if_icmp .lt 12, 3) := by decide +kernel
theorem d_Mod_is_5 : decode prog_10_method_2_code 5 = .ok (.iload_n 0, 1) := by decide +kernel
theorem d_Mod_is_6 : decode prog_10_method_2_code 6 = .ok (.iload_n 2, 1) := by decide +kernel
theorem d_Mod_is_7 : decode prog_10_method_2_code 7 = .ok (.if_icmp .gt 7, 3) := by decide +kernel
theorem d_Mod_is_10 : decode prog_10_method_2_code 10 = .ok (.iconst 1, 1) := by decide +kernel
theorem d_Mod_is_11 : decode prog_10_method_2_code 11 = .ok (.goto 4, 3) := by decide +kernel
theorem d_Mod_is_14 : decode prog_10_method_2_code 14 = .ok (.iconst 0, 1) := by decide +kernel
theorem d_Mod_is_15 : decode prog_10_method_2_code 15 = .ok (.ireturn, 1) := by decide +kernel
theorem d_Mod_handles_0 : decode prog_10_method_3_code 0 = .ok (.iconst 0, 1) := by decide +kernel
theorem d_Mod_handles_1 : decode prog_10_method_3_code 1 = .ok (.istore_n 2, 1) := by decide +kernel
theorem d_Mod_handles_2 : decode prog_10_method_3_code 2 = .ok (.iconst 0, 1) := by decide +kernel
theorem d_Mod_handles_3 : decode prog_10_method_3_code 3 = .ok (.istore_n 3, 1) := by decide +kernel
theorem d_Mod_handles_4 : decode prog_10_method_3_code 4 = .ok (.iload_n 3, 1) := by decide +kernel
theorem d_Mod_handles_5 : decode prog_10_method_3_code 5 = .ok (.bipush 32, 2) := by decide +kernel
theorem d_Mod_handles_7 : decode prog_10_method_3_code 7 = .ok (.if_icmp .ge 22, 3) := by decide +kernel
theorem d_Mod_handles_10 : decode prog_10_method_3_code 10 = .ok (.aload_n 0, 1) := by decide +kernel
theorem d_Mod_handles_11 : decode prog_10_method_3_code 11 = .ok (.getfield 19, 3) := by decide +kernel
theorem d_Mod_handles_14 : decode prog_10_method_3_code 14 = .ok (.iload_n 3, 1) := by decide +kernel
theorem d_Mod_handles_15 : decode prog_10_method_3_code 15 = .ok (.iaload, 1) := by decide +kernel
theorem d_Mod_handles_16 : decode prog_10_method_3_code 16 = .ok (.iload_n 1, 1) := by decide +kernel
theorem d_Mod_handles_17 : decode prog_10_method_3_code 17 = .ok (.if_icmp .ne 6, 3) := by decide +kernel
theorem d_Mod_handles_20 : decode prog_10_method_3_code 20 = .ok (.iinc 2 1, 3) := by decide +kernel
theorem d_Mod_handles_23 : decode prog_10_method_3_code 23 = .ok (.iinc 3 1, 3) := by decide +kernel
theorem d_Mod_handles_26 : decode prog_10_method_3_code 26 = .ok (.goto (-22), 3) := by decide +kernel
theorem d_Mod_handles_29 : decode prog_10_method_3_code 29 = .ok (.iload_n 2, 1) := by decide +kernel
theorem d_Mod_handles_30 : decode prog_10_method_3_code 30 = .ok (.ireturn, 1) := by decide +kernel
theorem d_Mod_pointers_0 : decode prog_10_method_4_code 0 = .ok (.iconst 0, 1) := by decide +kernel
theorem d_Mod_pointers_1 : decode prog_10_method_4_code 1 = .ok (.istore_n 2, 1) := by decide +kernel
theorem d_Mod_pointers_2 : decode prog_10_method_4_code 2 = .ok (.iconst 0, 1) := by decide +kernel
theorem d_Mod_pointers_3 : decode prog_10_method_4_code 3 = .ok (.istore_n 3, 1) := by decide +kernel
theorem d_Mod_pointers_4 : decode prog_10_method_4_code 4 = .ok (.iload_n 3, 1) := by decide +kernel
theorem d_Mod_pointers_5 : decode prog_10_method_4_code 5 = .ok (.aload_n 0, 1) := by decide +kernel
theorem d_Mod_pointers_6 : decode prog_10_method_4_code 6 = .ok (.getfield 144, 3) := by decide +kernel
theorem d_Mod_pointers_9 : decode prog_10_method_4_code 9 = .ok (.if_icmp .ge 52, 3) := by decide +kernel
theorem d_Mod_pointers_12 : decode prog_10_method_4_code 12 = .ok (.iconst 0, 1) := by decide +kernel
theorem d_Mod_pointers_13 : decode prog_10_method_4_code 13 = .ok (.istore 4, 2) := by decide +kernel
theorem d_Mod_pointers_15 : decode prog_10_method_4_code 15 = .ok (.iload 4, 2) := by decide +kernel
theorem d_Mod_pointers_17 : decode prog_10_method_4_code 17 = .ok (.iconst 3, 1) := by decide +kernel
theorem d_Mod_pointers_18 : decode prog_10_method_4_code 18 = .ok (.if_icmp .ge 37, 3) := by decide +kernel
theorem d_Mod_pointers_21 : decode prog_10_method_4_code 21 = .ok (.aload_n 0, 1) := by decide +kernel
theorem d_Mod_pointers_22 : decode prog_10_method_4_code 22 = .ok (.getfield 31, 3) := by decide +kernel
theorem d_Mod_pointers_25 : decode prog_10_method_4_code 25 = .ok (.iload_n 3, 1) := by decide +kernel
theorem d_Mod_pointers_26 : decode prog_10_method_4_code 26 = .ok (.iaload, 1) := by decide +kernel
theorem d_Mod_pointers_27 : decode prog_10_method_4_code 27 = .ok (.iconst 2, 1) := by decide +kernel
theorem d_Mod_pointers_28 : decode prog_10_method_4_code 28 = .ok (.if_icmp .ne 21, 3) := by decide +kernel
theorem d_Mod_pointers_31 : decode prog_10_method_4_code 31 = .ok (.aload_n 0, 1) := by decide +kernel
theorem d_Mod_pointers_32 : decode prog_10_method_4_code 32 = .ok (.getfield 61, 3) := by decide +kernel
theorem d_Mod_pointers_35 : decode prog_10_method_4_code 35 = .ok (.iconst 3, 1) := by decide +kernel
theorem d_Mod_pointers_36 : decode prog_10_method_4_code 36 = .ok (.iload_n 3, 1) := by decide +kernel
theorem d_Mod_pointers_37 : decode prog_10_method_4_code 37 = .ok (.imul, 1) := by decide +kernel
theorem d_Mod_pointers_38 : decode prog_10_method_4_code 38 = .ok (.iload 4, 2) := by decide +kernel
theorem d_Mod_pointers_40 : decode prog_10_method_4_code 40 = .ok (.iadd, 1) := by decide +kernel
theorem d_Mod_pointers_41 : decode prog_10_method_4_code 41 = .ok (.iaload, 1) := by decide +kernel
theorem d_Mod_pointers_42 : decode prog_10_method_4_code 42 = .ok (.iload_n 1, 1) := by decide +kernel
theorem d_Mod_pointers_43 : decode prog_10_method_4_code 43 = .ok (.if_icmp .ne 6, 3) := by decide +kernel
theorem d_Mod_pointers_46 : decode prog_10_method_4_code 46 = .ok (.iinc 2 1, 3) := by decide +kernel
theorem d_Mod_pointers_49 : decode prog_10_method_4_code 49 = .ok (.iinc 4 1, 3) := by decide +kernel
theorem d_Mod_pointers_52 : decode prog_10_method_4_code 52 = .ok (.goto (-37), 3) := by decide +kernel
theorem d_Mod_pointers_55 : decode prog_10_method_4_code 55 = .ok (.iinc 3 1, 3) := by decide +kernel
theorem d_Mod_pointers_58 : decode prog_10_method_4_code 58 = .ok (.goto (-54), 3) := by decide +kernel
theorem d_Mod_pointers_61 : decode prog_10_method_4_code 61 = .ok (.iconst 0, 1) := by decide +kernel
theorem d_Mod_pointers_62 : decode prog_10_method_4_code 62 = .ok (.istore_n 3, 1) := by decide +kernel
theorem d_Mod_pointers_63 : decode prog_10_method_4_code 63 = .ok (.iload_n 3, 1) := by decide +kernel
theorem d_Mod_pointers_64 : decode prog_10_method_4_code 64 = .ok (.bipush 8, 2) := by decide +kernel
theorem d_Mod_pointers_66 : decode prog_10_method_4_code 66 = .ok (.if_icmp .ge 52, 3) := by decide +kernel
theorem d_Mod_pointers_69 : decode prog_10_method_4_code 69 = .ok (.aload_n 0, 1) := by decide +kernel
theorem d_Mod_pointers_70 : decode prog_10_method_4_code 70 = .ok (.getfield 104, 3) := by decide +kernel
theorem d_Mod_pointers_73 : decode prog_10_method_4_code 73 = .ok (.iload_n 3, 1) := by decide +kernel
theorem d_Mod_pointers_74 : decode prog_10_method_4_code 74 = .ok (.iaload, 1) := by decide +kernel
theorem d_Mod_pointers_75 : decode prog_10_method_4_code 75 = .ok (.ifCond .ne 37, 3) := by decide +kernel
theorem d_Mod_pointers_78 : decode prog_10_method_4_code 78 = .ok (.iload_n 2, 1) := by decide +kernel
theorem d_Mod_pointers_79 : decode prog_10_method_4_code 79 = .ok (.aload_n 0, 1) := by decide +kernel
theorem d_Mod_pointers_80 : decode prog_10_method_4_code 80 = .ok (.getfield 113, 3) := by decide +kernel
theorem d_Mod_pointers_83 : decode prog_10_method_4_code 83 = .ok (.iload_n 3, 1) := by decide +kernel
theorem d_Mod_pointers_84 : decode prog_10_method_4_code 84 = .ok (.iaload, 1) := by decide +kernel
theorem d_Mod_pointers_85 : decode prog_10_method_4_code 85 = .ok (.iload_n 1, 1) := by decide +kernel
theorem d_Mod_pointers_86 : decode prog_10_method_4_code 86 = .ok (.if_icmp .ne 7, 3) := by decide +kernel
theorem d_Mod_pointers_89 : decode prog_10_method_4_code 89 = .ok (.iconst 1, 1) := by decide +kernel
theorem d_Mod_pointers_90 : decode prog_10_method_4_code 90 = .ok (.goto 4, 3) := by decide +kernel
theorem d_Mod_pointers_93 : decode prog_10_method_4_code 93 = .ok (.iconst 0, 1) := by decide +kernel
theorem d_Mod_pointers_94 : decode prog_10_method_4_code 94 = .ok (.aload_n 0, 1) := by decide +kernel
theorem d_Mod_pointers_95 : decode prog_10_method_4_code 95 = .ok (.getfield 119, 3) := by decide +kernel
theorem d_Mod_pointers_98 : decode prog_10_method_4_code 98 = .ok (.iload_n 3, 1) := by decide +kernel
theorem d_Mod_pointers_99 : decode prog_10_method_4_code 99 = .ok (.iaload, 1) := by decide +kernel
theorem d_Mod_pointers_100 : decode prog_10_method_4_code 100 = .ok (.iload_n 1, 1) := by decide +kernel
theorem d_Mod_pointers_101 : decode prog_10_method_4_code 101 = .ok (.if_icmp .ne 7, 3) := by decide +kernel
theorem d_Mod_pointers_104 : decode prog_10_method_4_code 104 = .ok (.iconst 1, 1) := by decide +kernel
theorem d_Mod_pointers_105 : decode prog_10_method_4_code 105 = .ok (.goto 4, 3) := by decide +kernel
theorem d_Mod_pointers_108 : decode prog_10_method_4_code 108 = .ok (.iconst 0, 1) := by decide +kernel
theorem d_Mod_pointers_109 : decode prog_10_method_4_code 109 = .ok (.iadd, 1) := by decide +kernel
theorem d_Mod_pointers_110 : decode prog_10_method_4_code 110 = .ok (.iadd, 1) := by decide +kernel
theorem d_Mod_pointers_111 : decode prog_10_method_4_code 111 = .ok (.istore_n 2, 1) := by decide +kernel
theorem d_Mod_pointers_112 : decode prog_10_method_4_code 112 = .ok (.iinc 3 1, 3) := by decide +kernel
theorem d_Mod_pointers_115 : decode prog_10_method_4_code 115 = .ok (.goto (-52), 3) := by decide +kernel
theorem d_Mod_pointers_118 : decode prog_10_method_4_code 118 = .ok (.iconst 0, 1) := by decide +kernel
theorem d_Mod_pointers_119 : decode prog_10_method_4_code 119 = .ok (.istore_n 3, 1) := by decide +kernel
theorem d_Mod_pointers_120 : decode prog_10_method_4_code 120 = .ok (.iload_n 3, 1) := by decide +kernel
theorem d_Mod_pointers_121 : decode prog_10_method_4_code 121 = .ok (.aload_n 0, 1) := by decide +kernel
theorem d_Mod_pointers_122 : decode prog_10_method_4_code 122 = .ok (.getfield 147, 3) := by decide +kernel
theorem d_Mod_pointers_125 : decode prog_10_method_4_code 125 = .ok (.if_icmp .ge 22, 3) := by decide +kernel
theorem d_Mod_pointers_128 : decode prog_10_method_4_code 128 = .ok (.aload_n 0, 1) := by decide +kernel
theorem d_Mod_pointers_129 : decode prog_10_method_4_code 129 = .ok (.getfield 131, 3) := by decide +kernel
theorem d_Mod_pointers_132 : decode prog_10_method_4_code 132 = .ok (.iload_n 3, 1) := by decide +kernel
theorem d_Mod_pointers_133 : decode prog_10_method_4_code 133 = .ok (.iaload, 1) := by decide +kernel
theorem d_Mod_pointers_134 : decode prog_10_method_4_code 134 = .ok (.iload_n 1, 1) := by decide +kernel
theorem d_Mod_pointers_135 : decode prog_10_method_4_code 135 = .ok (.if_icmp .ne 6, 3) := by decide +kernel
theorem d_Mod_pointers_138 : decode prog_10_method_4_code 138 = .ok (.iinc 2 1, 3) := by decide +kernel
theorem d_Mod_pointers_141 : decode prog_10_method_4_code 141 = .ok (.iinc 3 1, 3) := by decide +kernel
theorem d_Mod_pointers_144 : decode prog_10_method_4_code 144 = .ok (.goto (-24), 3) := by decide +kernel
theorem d_Mod_pointers_147 : decode prog_10_method_4_code 147 = .ok (.iload_n 2, 1) := by decide +kernel
theorem d_Mod_pointers_148 : decode prog_10_method_4_code 148 = .ok (.ireturn, 1) := by decide +kernel
theorem d_Mod_tidy_0 : decode prog_10_method_5_code 0 = .ok (.iconst 0, 1) := by decide +kernel
theorem d_Mod_tidy_1 : decode prog_10_method_5_code 1 = .ok (.istore_n 1, 1) := by decide +kernel
theorem d_Mod_tidy_2 : decode prog_10_method_5_code 2 = .ok (.iload_n 1, 1) := by decide +kernel
theorem d_Mod_tidy_3 : decode prog_10_method_5_code 3 = .ok (.bipush 16, 2) := by decide +kernel
theorem d_Mod_tidy_5 : decode prog_10_method_5_code 5 = .ok (.if_icmp .ge 51, 3) := by decide +kernel
theorem d_Mod_tidy_8 : decode prog_10_method_5_code 8 = .ok (.aload_n 0, 1) := by decide +kernel
theorem d_Mod_tidy_9 : decode prog_10_method_5_code 9 = .ok (.getfield 67, 3) := by decide +kernel
theorem d_Mod_tidy_12 : decode prog_10_method_5_code 12 = .ok (.iload_n 1, 1) := by decide +kernel
theorem d_Mod_tidy_13 : decode prog_10_method_5_code 13 = .ok (.baload, 1) := by decide +kernel
theorem d_Mod_tidy_14 : decode prog_10_method_5_code 14 = .ok (.ifCond .eq 36, 3) := by decide +kernel
theorem d_Mod_tidy_17 : decode prog_10_method_5_code 17 = .ok (.aload_n 0, 1) := by decide +kernel
theorem d_Mod_tidy_18 : decode prog_10_method_5_code 18 = .ok (.iload_n 1, 1) := by decide +kernel
theorem d_Mod_tidy_19 : decode prog_10_method_5_code 19 = .ok (.invokevirtual 150, 3) := by decide +kernel
theorem d_Mod_tidy_22 : decode prog_10_method_5_code 22 = .ok (.ifCond .le 6, 3) := by decide +kernel
theorem d_Mod_tidy_25 : decode prog_10_method_5_code 25 = .ok (.goto 25, 3) := by decide +kernel
theorem d_Mod_tidy_28 : decode prog_10_method_5_code 28 = .ok (.aload_n 0, 1) := by decide +kernel
theorem d_Mod_tidy_29 : decode prog_10_method_5_code 29 = .ok (.getfield 80, 3) := by decide +kernel
theorem d_Mod_tidy_32 : decode prog_10_method_5_code 32 = .ok (.iload_n 1, 1) := by decide +kernel
theorem d_Mod_tidy_33 : decode prog_10_method_5_code 33 = .ok (.iconst (-1), 1) := by decide +kernel
theorem d_Mod_tidy_34 : decode prog_10_method_5_code 34 = .ok (.iastore, 1) := by decide +kernel
theorem d_Mod_tidy_35 : decode prog_10_method_5_code 35 = .ok (.aload_n 0, 1) := by decide +kernel
theorem d_Mod_tidy_36 : decode prog_10_method_5_code 36 = .ok (.iload_n 1, 1) := by decide +kernel
theorem d_Mod_tidy_37 : decode prog_10_method_5_code 37 = .ok (.invokevirtual 154, 3) := by decide +kernel
theorem d_Mod_tidy_40 : decode prog_10_method_5_code 40 = .ok (.ifCond .ne 10, 3) := by decide +kernel
theorem d_Mod_tidy_43 : decode prog_10_method_5_code 43 = .ok (.aload_n 0, 1) := by decide +kernel
theorem d_Mod_tidy_44 : decode prog_10_method_5_code 44 = .ok (.getfield 67, 3) := by decide +kernel
theorem d_Mod_tidy_47 : decode prog_10_method_5_code 47 = .ok (.iload_n 1, 1) := by decide +kernel
theorem d_Mod_tidy_48 : decode prog_10_method_5_code 48 = .ok (.iconst 0, 1) := by decide +kernel
theorem d_Mod_tidy_49 : decode prog_10_method_5_code 49 = .ok (.bastore, 1) := by decide +kernel
theorem d_Mod_tidy_50 : decode prog_10_method_5_code 50 = .ok (.iinc 1 1, 3) := by decide +kernel
theorem d_Mod_tidy_53 : decode prog_10_method_5_code 53 = .ok (.goto (-51), 3) := by decide +kernel
theorem d_Mod_tidy_56 : decode prog_10_method_5_code 56 = .ok (.return_, 1) := by decide +kernel
theorem d_Mod_isHandle_0 : decode prog_10_method_6_code 0 = .ok (.iload_n 1, 1) := by decide +kernel
theorem d_Mod_isHandle_1 : decode prog_10_method_6_code 1 = .ok (.iconst 0, 1) := by decide +kernel
theorem d_Mod_isHandle_2 : decode prog_10_method_6_code 2 = .ok (.bipush 7, 2) := by decide +kernel
theorem d_Mod_isHandle_4 : decode prog_10_method_6_code 4 = .ok (.invokestatic 157, 3) := by decide +kernel
theorem d_Mod_isHandle_7 : decode prog_10_method_6_code 7 = .ok (.ifCond .eq 29, 3) := by decide +kernel
theorem d_Mod_isHandle_10 : decode prog_10_method_6_code 10 = .ok (.aload_n 0, 1) := by decide +kernel
theorem d_Mod_isHandle_11 : decode prog_10_method_6_code 11 = .ok (.getfield 19, 3) := by decide +kernel
theorem d_Mod_isHandle_14 : decode prog_10_method_6_code 14 = .ok (.bipush 8, 2) := by decide +kernel
theorem d_Mod_isHandle_16 : decode prog_10_method_6_code 16 = .ok (.aload_n 0, 1) := by decide +kernel
theorem d_Mod_isHandle_17 : decode prog_10_method_6_code 17 = .ok (.getfield 25, 3) := by decide +kernel
theorem d_Mod_isHandle_20 : decode prog_10_method_6_code 20 = .ok (.aload_n 0, 1) := by decide +kernel
theorem d_Mod_isHandle_21 : decode prog_10_method_6_code 21 = .ok (.getfield 137, 3) := by decide +kernel
theorem d_Mod_isHandle_24 : decode prog_10_method_6_code 24 = .ok (.iaload, 1) := by decide +kernel
theorem d_Mod_isHandle_25 : decode prog_10_method_6_code 25 = .ok (.imul, 1) := by decide +kernel
theorem d_Mod_isHandle_26 : decode prog_10_method_6_code 26 = .ok (.iload_n 1, 1) := by decide +kernel
theorem d_Mod_isHandle_27 : decode prog_10_method_6_code 27 = .ok (.iadd, 1) := by decide +kernel
theorem d_Mod_isHandle_28 : decode prog_10_method_6_code 28 = .ok (.iaload, 1) := by decide +kernel
theorem d_Mod_isHandle_29 : decode prog_10_method_6_code 29 = .ok (.ifCond .lt 7, 3) := by decide +kernel
theorem d_Mod_isHandle_32 : decode prog_10_method_6_code 32 = .ok (.iconst 1, 1) := by decide +kernel
theorem d_Mod_isHandle_33 : decode prog_10_method_6_code 33 = .ok (.goto 4, 3) := by decide +kernel
theorem d_Mod_isHandle_36 : decode prog_10_method_6_code 36 = .ok (.iconst 0, 1) := by decide +kernel
theorem d_Mod_isHandle_37 : decode prog_10_method_6_code 37 = .ok (.ireturn, 1) := by decide +kernel
theorem d_Mod_objectOf_0 : decode prog_10_method_7_code 0 = .ok (.aload_n 0, 1) := by decide +kernel
theorem d_Mod_objectOf_1 : decode prog_10_method_7_code 1 = .ok (.getfield 19, 3) := by decide +kernel
theorem d_Mod_objectOf_4 : decode prog_10_method_7_code 4 = .ok (.bipush 8, 2) := by decide +kernel
theorem d_Mod_objectOf_6 : decode prog_10_method_7_code 6 = .ok (.aload_n 0, 1) := by decide +kernel
theorem d_Mod_objectOf_7 : decode prog_10_method_7_code 7 = .ok (.getfield 25, 3) := by decide +kernel
theorem d_Mod_objectOf_10 : decode prog_10_method_7_code 10 = .ok (.aload_n 0, 1) := by decide +kernel
theorem d_Mod_objectOf_11 : decode prog_10_method_7_code 11 = .ok (.getfield 137, 3) := by decide +kernel
theorem d_Mod_objectOf_14 : decode prog_10_method_7_code 14 = .ok (.iaload, 1) := by decide +kernel
theorem d_Mod_objectOf_15 : decode prog_10_method_7_code 15 = .ok (.imul, 1) := by decide +kernel
theorem d_Mod_objectOf_16 : decode prog_10_method_7_code 16 = .ok (.iload_n 1, 1) := by decide +kernel
theorem d_Mod_objectOf_17 : decode prog_10_method_7_code 17 = .ok (.iadd, 1) := by decide +kernel
theorem d_Mod_objectOf_18 : decode prog_10_method_7_code 18 = .ok (.iaload, 1) := by decide +kernel
theorem d_Mod_objectOf_19 : decode prog_10_method_7_code 19 = .ok (.ireturn, 1) := by decide +kernel
theorem d_Mod_lacks_0 : decode prog_10_method_8_code 0 = .ok (.aload_n 0, 1) := by decide +kernel
theorem d_Mod_lacks_1 : decode prog_10_method_8_code 1 = .ok (.getfield 22, 3) := by decide +kernel
theorem d_Mod_lacks_4 : decode prog_10_method_8_code 4 = .ok (.bipush 8, 2) := by decide +kernel
theorem d_Mod_lacks_6 : decode prog_10_method_8_code 6 = .ok (.aload_n 0, 1) := by decide +kernel
theorem d_Mod_lacks_7 : decode prog_10_method_8_code 7 = .ok (.getfield 25, 3) := by decide +kernel
theorem d_Mod_lacks_10 : decode prog_10_method_8_code 10 = .ok (.aload_n 0, 1) := by decide +kernel
theorem d_Mod_lacks_11 : decode prog_10_method_8_code 11 = .ok (.getfield 137, 3) := by decide +kernel
theorem d_Mod_lacks_14 : decode prog_10_method_8_code 14 = .ok (.iaload, 1) := by decide +kernel
theorem d_Mod_lacks_15 : decode prog_10_method_8_code 15 = .ok (.imul, 1) := by decide +kernel
theorem d_Mod_lacks_16 : decode prog_10_method_8_code 16 = .ok (.iload_n 1, 1) := by decide +kernel
theorem d_Mod_lacks_17 : decode prog_10_method_8_code 17 = .ok (.iadd, 1) := by decide +kernel
theorem d_Mod_lacks_18 : decode prog_10_method_8_code 18 = .ok (.iaload, 1) := by decide +kernel
theorem d_Mod_lacks_19 : decode prog_10_method_8_code 19 = .ok (.iload_n 2, 1) := by decide +kernel
theorem d_Mod_lacks_20 : decode prog_10_method_8_code 20 = .ok (.iand, 1) := by decide +kernel
theorem d_Mod_lacks_21 : decode prog_10_method_8_code 21 = .ok (.ifCond .ne 7, 3) := by decide +kernel
theorem d_Mod_lacks_24 : decode prog_10_method_8_code 24 = .ok (.iconst 1, 1) := by decide +kernel
theorem d_Mod_lacks_25 : decode prog_10_method_8_code 25 = .ok (.goto 4, 3) := by decide +kernel
theorem d_Mod_lacks_28 : decode prog_10_method_8_code 28 = .ok (.iconst 0, 1) := by decide +kernel
theorem d_Mod_lacks_29 : decode prog_10_method_8_code 29 = .ok (.ireturn, 1) := by decide +kernel
theorem d_Mod_freeHandle_0 : decode prog_10_method_9_code 0 = .ok (.iconst 0, 1) := by decide +kernel
theorem d_Mod_freeHandle_1 : decode prog_10_method_9_code 1 = .ok (.istore_n 1, 1) := by decide +kernel
theorem d_Mod_freeHandle_2 : decode prog_10_method_9_code 2 = .ok (.iload_n 1, 1) := by decide +kernel
theorem d_Mod_freeHandle_3 : decode prog_10_method_9_code 3 = .ok (.bipush 8, 2) := by decide +kernel
theorem d_Mod_freeHandle_5 : decode prog_10_method_9_code 5 = .ok (.if_icmp .ge 33, 3) := by decide +kernel
theorem d_Mod_freeHandle_8 : decode prog_10_method_9_code 8 = .ok (.aload_n 0, 1) := by decide +kernel
theorem d_Mod_freeHandle_9 : decode prog_10_method_9_code 9 = .ok (.getfield 19, 3) := by decide +kernel
theorem d_Mod_freeHandle_12 : decode prog_10_method_9_code 12 = .ok (.bipush 8, 2) := by decide +kernel
theorem d_Mod_freeHandle_14 : decode prog_10_method_9_code 14 = .ok (.aload_n 0, 1) := by decide +kernel
theorem d_Mod_freeHandle_15 : decode prog_10_method_9_code 15 = .ok (.getfield 25, 3) := by decide +kernel
theorem d_Mod_freeHandle_18 : decode prog_10_method_9_code 18 = .ok (.aload_n 0, 1) := by decide +kernel
theorem d_Mod_freeHandle_19 : decode prog_10_method_9_code 19 = .ok (.getfield 137, 3) := by decide +kernel
theorem d_Mod_freeHandle_22 : decode prog_10_method_9_code 22 = .ok (.iaload, 1) := by decide +kernel
theorem d_Mod_freeHandle_23 : decode prog_10_method_9_code 23 = .ok (.imul, 1) := by decide +kernel
theorem d_Mod_freeHandle_24 : decode prog_10_method_9_code 24 = .ok (.iload_n 1, 1) := by decide +kernel
theorem d_Mod_freeHandle_25 : decode prog_10_method_9_code 25 = .ok (.iadd, 1) := by decide +kernel
theorem d_Mod_freeHandle_26 : decode prog_10_method_9_code 26 = .ok (.iaload, 1) := by decide +kernel
theorem d_Mod_freeHandle_27 : decode prog_10_method_9_code 27 = .ok (.ifCond .ge 5, 3) := by decide +kernel
theorem d_Mod_freeHandle_30 : decode prog_10_method_9_code 30 = .ok (.iload_n 1, 1) := by decide +kernel
theorem d_Mod_freeHandle_31 : decode prog_10_method_9_code 31 = .ok (.ireturn, 1) := by decide +kernel
theorem d_Mod_freeHandle_32 : decode prog_10_method_9_code 32 = .ok (.iinc 1 1, 3) := by decide +kernel
theorem d_Mod_freeHandle_35 : decode prog_10_method_9_code 35 = .ok (.goto (-33), 3) := by decide +kernel
theorem d_Mod_freeHandle_38 : decode prog_10_method_9_code 38 = .ok (.iconst (-1), 1) := by decide +kernel
theorem d_Mod_freeHandle_39 : decode prog_10_method_9_code 39 = .ok (.ireturn, 1) := by decide +kernel
theorem d_Mod_named_0 : decode prog_10_method_10_code 0 = .ok (.iconst 0, 1) := by decide +kernel
theorem d_Mod_named_1 : decode prog_10_method_10_code 1 = .ok (.istore_n 2, 1) := by decide +kernel
theorem d_Mod_named_2 : decode prog_10_method_10_code 2 = .ok (.iload_n 2, 1) := by decide +kernel
theorem d_Mod_named_3 : decode prog_10_method_10_code 3 = .ok (.bipush 16, 2) := by decide +kernel
theorem d_Mod_named_5 : decode prog_10_method_10_code 5 = .ok (.if_icmp .ge 34, 3) := by decide +kernel
theorem d_Mod_named_8 : decode prog_10_method_10_code 8 = .ok (.aload_n 0, 1) := by decide +kernel
theorem d_Mod_named_9 : decode prog_10_method_10_code 9 = .ok (.getfield 67, 3) := by decide +kernel
theorem d_Mod_named_12 : decode prog_10_method_10_code 12 = .ok (.iload_n 2, 1) := by decide +kernel
theorem d_Mod_named_13 : decode prog_10_method_10_code 13 = .ok (.baload, 1) := by decide +kernel
theorem d_Mod_named_14 : decode prog_10_method_10_code 14 = .ok (.ifCond .eq 19, 3) := by decide +kernel
theorem d_Mod_named_17 : decode prog_10_method_10_code 17 = .ok (.iload_n 1, 1) := by decide +kernel
theorem d_Mod_named_18 : decode prog_10_method_10_code 18 = .ok (.ifCond .lt 15, 3) := by decide +kernel
theorem d_Mod_named_21 : decode prog_10_method_10_code 21 = .ok (.aload_n 0, 1) := by decide +kernel
theorem d_Mod_named_22 : decode prog_10_method_10_code 22 = .ok (.getfield 80, 3) := by decide +kernel
theorem d_Mod_named_25 : decode prog_10_method_10_code 25 = .ok (.iload_n 2, 1) := by decide +kernel
theorem d_Mod_named_26 : decode prog_10_method_10_code 26 = .ok (.iaload, 1) := by decide +kernel
theorem d_Mod_named_27 : decode prog_10_method_10_code 27 = .ok (.iload_n 1, 1) := by decide +kernel
theorem d_Mod_named_28 : decode prog_10_method_10_code 28 = .ok (.if_icmp .ne 5, 3) := by decide +kernel
theorem d_Mod_named_31 : decode prog_10_method_10_code 31 = .ok (.iload_n 2, 1) := by decide +kernel
theorem d_Mod_named_32 : decode prog_10_method_10_code 32 = .ok (.ireturn, 1) := by decide +kernel
theorem d_Mod_named_33 : decode prog_10_method_10_code 33 = .ok (.iinc 2 1, 3) := by decide +kernel
theorem d_Mod_named_36 : decode prog_10_method_10_code 36 = .ok (.goto (-34), 3) := by decide +kernel
theorem d_Mod_named_39 : decode prog_10_method_10_code 39 = .ok (.iconst (-1), 1) := by decide +kernel
theorem d_Mod_named_40 : decode prog_10_method_10_code 40 = .ok (.ireturn, 1) := by decide +kernel
theorem d_Mod_process_0 : decode prog_10_method_11_code 0 = .ok (.iload_n 1, 1) := by decide +kernel
theorem d_Mod_process_1 : decode prog_10_method_11_code 1 = .ok (.iconst 0, 1) := by decide +kernel
theorem d_Mod_process_2 : decode prog_10_method_11_code 2 = .ok (.sipush 255, 3) := by decide +kernel
theorem d_Mod_process_5 : decode prog_10_method_11_code 5 = .ok (.invokestatic 157, 3) := by decide +kernel
theorem d_Mod_process_8 : decode prog_10_method_11_code 8 = .ok (.ifCond .ne 5, 3) := by decide +kernel
theorem d_Mod_process_11 : decode prog_10_method_11_code 11 = .ok (.iconst (-1), 1) := by decide +kernel
theorem d_Mod_process_12 : decode prog_10_method_11_code 12 = .ok (.ireturn, 1) := by decide +kernel
theorem d_Mod_process_13 : decode prog_10_method_11_code 13 = .ok (.aload_n 0, 1) := by decide +kernel
theorem d_Mod_process_14 : decode prog_10_method_11_code 14 = .ok (.getfield 161, 3) := by decide +kernel
theorem d_Mod_process_17 : decode prog_10_method_11_code 17 = .ok (.iconst 4, 1) := by decide +kernel
theorem d_Mod_process_18 : decode prog_10_method_11_code 18 = .ok (.if_icmp .ne 6, 3) := by decide +kernel
theorem d_Mod_process_21 : decode prog_10_method_11_code 21 = .ok (.bipush (-2), 2) := by decide +kernel
theorem d_Mod_process_23 : decode prog_10_method_11_code 23 = .ok (.ireturn, 1) := by decide +kernel
theorem d_Mod_process_24 : decode prog_10_method_11_code 24 = .ok (.aload_n 0, 1) := by decide +kernel
theorem d_Mod_process_25 : decode prog_10_method_11_code 25 = .ok (.getfield 7, 3) := by decide +kernel
theorem d_Mod_process_28 : decode prog_10_method_11_code 28 = .ok (.aload_n 0, 1) := by decide +kernel
theorem d_Mod_process_29 : decode prog_10_method_11_code 29 = .ok (.getfield 161, 3) := by decide +kernel
theorem d_Mod_process_32 : decode prog_10_method_11_code 32 = .ok (.iload_n 1, 1) := by decide +kernel
theorem d_Mod_process_33 : decode prog_10_method_11_code 33 = .ok (.iastore, 1) := by decide +kernel
theorem d_Mod_process_34 : decode prog_10_method_11_code 34 = .ok (.aload_n 0, 1) := by decide +kernel
theorem d_Mod_process_35 : decode prog_10_method_11_code 35 = .ok (.dup, 1) := by decide +kernel
theorem d_Mod_process_36 : decode prog_10_method_11_code 36 = .ok (.getfield 161, 3) := by decide +kernel
theorem d_Mod_process_39 : decode prog_10_method_11_code 39 = .ok (.dup_x1, 1) := by decide +kernel
theorem d_Mod_process_40 : decode prog_10_method_11_code 40 = .ok (.iconst 1, 1) := by decide +kernel
theorem d_Mod_process_41 : decode prog_10_method_11_code 41 = .ok (.iadd, 1) := by decide +kernel
theorem d_Mod_process_42 : decode prog_10_method_11_code 42 = .ok (.putfield 161, 3) := by decide +kernel
theorem d_Mod_process_45 : decode prog_10_method_11_code 45 = .ok (.ireturn, 1) := by decide +kernel
theorem d_Mod_ready_0 : decode prog_10_method_13_code 0 = .ok (.aload_n 0, 1) := by decide +kernel
theorem d_Mod_ready_1 : decode prog_10_method_13_code 1 = .ok (.getfield 31, 3) := by decide +kernel
theorem d_Mod_ready_4 : decode prog_10_method_13_code 4 = .ok (.iload_n 1, 1) := by decide +kernel
theorem d_Mod_ready_5 : decode prog_10_method_13_code 5 = .ok (.iconst 1, 1) := by decide +kernel
theorem d_Mod_ready_6 : decode prog_10_method_13_code 6 = .ok (.iastore, 1) := by decide +kernel
theorem d_Mod_ready_7 : decode prog_10_method_13_code 7 = .ok (.aload_n 0, 1) := by decide +kernel
theorem d_Mod_ready_8 : decode prog_10_method_13_code 8 = .ok (.getfield 58, 3) := by decide +kernel
theorem d_Mod_ready_11 : decode prog_10_method_13_code 11 = .ok (.iload_n 1, 1) := by decide +kernel
theorem d_Mod_ready_12 : decode prog_10_method_13_code 12 = .ok (.aload_n 0, 1) := by decide +kernel
theorem d_Mod_ready_13 : decode prog_10_method_13_code 13 = .ok (.dup, 1) := by decide +kernel
theorem d_Mod_ready_14 : decode prog_10_method_13_code 14 = .ok (.getfield 171, 3) := by decide +kernel
theorem d_Mod_ready_17 : decode prog_10_method_13_code 17 = .ok (.iconst 1, 1) := by decide +kernel
theorem d_Mod_ready_18 : decode prog_10_method_13_code 18 = .ok (.iadd, 1) := by decide +kernel
theorem d_Mod_ready_19 : decode prog_10_method_13_code 19 = .ok (.dup_x1, 1) := by decide +kernel
theorem d_Mod_ready_20 : decode prog_10_method_13_code 20 = .ok (.putfield 171, 3) := by decide +kernel
theorem d_Mod_ready_23 : decode prog_10_method_13_code 23 = .ok (.iastore, 1) := by decide +kernel
theorem d_Mod_ready_24 : decode prog_10_method_13_code 24 = .ok (.return_, 1) := by decide +kernel
theorem d_Mod_next_0 : decode prog_10_method_14_code 0 = .ok (.iconst (-1), 1) := by decide +kernel
theorem d_Mod_next_1 : decode prog_10_method_14_code 1 = .ok (.istore_n 1, 1) := by decide +kernel
theorem d_Mod_next_2 : decode prog_10_method_14_code 2 = .ok (.iconst 0, 1) := by decide +kernel
theorem d_Mod_next_3 : decode prog_10_method_14_code 3 = .ok (.istore_n 2, 1) := by decide +kernel
theorem d_Mod_next_4 : decode prog_10_method_14_code 4 = .ok (.iload_n 2, 1) := by decide +kernel
theorem d_Mod_next_5 : decode prog_10_method_14_code 5 = .ok (.aload_n 0, 1) := by decide +kernel
theorem d_Mod_next_6 : decode prog_10_method_14_code 6 = .ok (.getfield 144, 3) := by decide +kernel
theorem d_Mod_next_9 : decode prog_10_method_14_code 9 = .ok (.if_icmp .ge 73, 3) := by decide +kernel
theorem d_Mod_next_12 : decode prog_10_method_14_code 12 = .ok (.aload_n 0, 1) := by decide +kernel
theorem d_Mod_next_13 : decode prog_10_method_14_code 13 = .ok (.getfield 31, 3) := by decide +kernel
theorem d_Mod_next_16 : decode prog_10_method_14_code 16 = .ok (.iload_n 2, 1) := by decide +kernel
theorem d_Mod_next_17 : decode prog_10_method_14_code 17 = .ok (.iaload, 1) := by decide +kernel
theorem d_Mod_next_18 : decode prog_10_method_14_code 18 = .ok (.iconst 1, 1) := by decide +kernel
theorem d_Mod_next_19 : decode prog_10_method_14_code 19 = .ok (.if_icmp .eq 6, 3) := by decide +kernel
theorem d_Mod_next_22 : decode prog_10_method_14_code 22 = .ok (.goto 54, 3) := by decide +kernel
theorem d_Mod_next_25 : decode prog_10_method_14_code 25 = .ok (.iload_n 1, 1) := by decide +kernel
theorem d_Mod_next_26 : decode prog_10_method_14_code 26 = .ok (.ifCond .lt 48, 3) := by decide +kernel
theorem d_Mod_next_29 : decode prog_10_method_14_code 29 = .ok (.aload_n 0, 1) := by decide +kernel
theorem d_Mod_next_30 : decode prog_10_method_14_code 30 = .ok (.getfield 28, 3) := by decide +kernel
theorem d_Mod_next_33 : decode prog_10_method_14_code 33 = .ok (.iload_n 2, 1) := by decide +kernel
theorem d_Mod_next_34 : decode prog_10_method_14_code 34 = .ok (.iaload, 1) := by decide +kernel
theorem d_Mod_next_35 : decode prog_10_method_14_code 35 = .ok (.aload_n 0, 1) := by decide +kernel
theorem d_Mod_next_36 : decode prog_10_method_14_code 36 = .ok (.getfield 28, 3) := by decide +kernel
theorem d_Mod_next_39 : decode prog_10_method_14_code 39 = .ok (.iload_n 1, 1) := by decide +kernel
theorem d_Mod_next_40 : decode prog_10_method_14_code 40 = .ok (.iaload, 1) := by decide +kernel
theorem d_Mod_next_41 : decode prog_10_method_14_code 41 = .ok (.if_icmp .gt 33, 3) := by decide +kernel
theorem d_Mod_next_44 : decode prog_10_method_14_code 44 = .ok (.aload_n 0, 1) := by decide +kernel
theorem d_Mod_next_45 : decode prog_10_method_14_code 45 = .ok (.getfield 28, 3) := by decide +kernel
theorem d_Mod_next_48 : decode prog_10_method_14_code 48 = .ok (.iload_n 2, 1) := by decide +kernel
theorem d_Mod_next_49 : decode prog_10_method_14_code 49 = .ok (.iaload, 1) := by decide +kernel
theorem d_Mod_next_50 : decode prog_10_method_14_code 50 = .ok (.aload_n 0, 1) := by decide +kernel
theorem d_Mod_next_51 : decode prog_10_method_14_code 51 = .ok (.getfield 28, 3) := by decide +kernel
theorem d_Mod_next_54 : decode prog_10_method_14_code 54 = .ok (.iload_n 1, 1) := by decide +kernel
theorem d_Mod_next_55 : decode prog_10_method_14_code 55 = .ok (.iaload, 1) := by decide +kernel
theorem d_Mod_next_56 : decode prog_10_method_14_code 56 = .ok (.if_icmp .ne 20, 3) := by decide +kernel
theorem d_Mod_next_59 : decode prog_10_method_14_code 59 = .ok (.aload_n 0, 1) := by decide +kernel
theorem d_Mod_next_60 : decode prog_10_method_14_code 60 = .ok (.getfield 58, 3) := by decide +kernel
theorem d_Mod_next_63 : decode prog_10_method_14_code 63 = .ok (.iload_n 2, 1) := by decide +kernel
theorem d_Mod_next_64 : decode prog_10_method_14_code 64 = .ok (.iaload, 1) := by decide +kernel
theorem d_Mod_next_65 : decode prog_10_method_14_code 65 = .ok (.aload_n 0, 1) := by decide +kernel
theorem d_Mod_next_66 : decode prog_10_method_14_code 66 = .ok (.getfield 58, 3) := by decide +kernel
theorem d_Mod_next_69 : decode prog_10_method_14_code 69 = .ok (.iload_n 1, 1) := by decide +kernel
theorem d_Mod_next_70 : decode prog_10_method_14_code 70 = .ok (.iaload, 1) := by decide +kernel
theorem d_Mod_next_71 : decode prog_10_method_14_code 71 = .ok (.if_icmp .ge 5, 3) := by decide +kernel
theorem d_Mod_next_74 : decode prog_10_method_14_code 74 = .ok (.iload_n 2, 1) := by decide +kernel
theorem d_Mod_next_75 : decode prog_10_method_14_code 75 = .ok (.istore_n 1, 1) := by decide +kernel
theorem d_Mod_next_76 : decode prog_10_method_14_code 76 = .ok (.iinc 2 1, 3) := by decide +kernel
theorem d_Mod_next_79 : decode prog_10_method_14_code 79 = .ok (.goto (-75), 3) := by decide +kernel
theorem d_Mod_next_82 : decode prog_10_method_14_code 82 = .ok (.iload_n 1, 1) := by decide +kernel
theorem d_Mod_next_83 : decode prog_10_method_14_code 83 = .ok (.ireturn, 1) := by decide +kernel
theorem d_Mod_run_0 : decode prog_10_method_15_code 0 = .ok (.aload_n 0, 1) := by decide +kernel
theorem d_Mod_run_1 : decode prog_10_method_15_code 1 = .ok (.getfield 31, 3) := by decide +kernel
theorem d_Mod_run_4 : decode prog_10_method_15_code 4 = .ok (.iload_n 1, 1) := by decide +kernel
theorem d_Mod_run_5 : decode prog_10_method_15_code 5 = .ok (.iconst 0, 1) := by decide +kernel
theorem d_Mod_run_6 : decode prog_10_method_15_code 6 = .ok (.iastore, 1) := by decide +kernel
theorem d_Mod_run_7 : decode prog_10_method_15_code 7 = .ok (.aload_n 0, 1) := by decide +kernel
theorem d_Mod_run_8 : decode prog_10_method_15_code 8 = .ok (.iload_n 1, 1) := by decide +kernel
theorem d_Mod_run_9 : decode prog_10_method_15_code 9 = .ok (.putfield 137, 3) := by decide +kernel
theorem d_Mod_run_12 : decode prog_10_method_15_code 12 = .ok (.iload_n 1, 1) := by decide +kernel
theorem d_Mod_run_13 : decode prog_10_method_15_code 13 = .ok (.aload_n 0, 1) := by decide +kernel
theorem d_Mod_run_14 : decode prog_10_method_15_code 14 = .ok (.getfield 141, 3) := by decide +kernel
theorem d_Mod_run_17 : decode prog_10_method_15_code 17 = .ok (.if_icmp .eq 13, 3) := by decide +kernel
theorem d_Mod_run_20 : decode prog_10_method_15_code 20 = .ok (.aload_n 0, 1) := by decide +kernel
theorem d_Mod_run_21 : decode prog_10_method_15_code 21 = .ok (.dup, 1) := by decide +kernel
theorem d_Mod_run_22 : decode prog_10_method_15_code 22 = .ok (.getfield 174, 3) := by decide +kernel
theorem d_Mod_run_25 : decode prog_10_method_15_code 25 = .ok (.iconst 1, 1) := by decide +kernel
theorem d_Mod_run_26 : decode prog_10_method_15_code 26 = .ok (.iadd, 1) := by decide +kernel
theorem d_Mod_run_27 : decode prog_10_method_15_code 27 = .ok (.putfield 174, 3) := by decide +kernel
theorem d_Mod_run_30 : decode prog_10_method_15_code 30 = .ok (.aload_n 0, 1) := by decide +kernel
theorem d_Mod_run_31 : decode prog_10_method_15_code 31 = .ok (.iload_n 1, 1) := by decide +kernel
theorem d_Mod_run_32 : decode prog_10_method_15_code 32 = .ok (.putfield 141, 3) := by decide +kernel
theorem d_Mod_run_35 : decode prog_10_method_15_code 35 = .ok (.return_, 1) := by decide +kernel
theorem d_Mod_look_0 : decode prog_10_method_16_code 0 = .ok (.aload_n 0, 1) := by decide +kernel
theorem d_Mod_look_1 : decode prog_10_method_16_code 1 = .ok (.getfield 177, 3) := by decide +kernel
theorem d_Mod_look_4 : decode prog_10_method_16_code 4 = .ok (.iconst 1, 1) := by decide +kernel
theorem d_Mod_look_5 : decode prog_10_method_16_code 5 = .ok (.if_icmp .ne 7, 3) := by decide +kernel
theorem d_Mod_look_8 : decode prog_10_method_16_code 8 = .ok (.iconst (-1), 1) := by decide +kernel
theorem d_Mod_look_9 : decode prog_10_method_16_code 9 = .ok (.goto 7, 3) := by decide +kernel
theorem d_Mod_look_12 : decode prog_10_method_16_code 12 = .ok (.aload_n 0, 1) := by decide +kernel
theorem d_Mod_look_13 : decode prog_10_method_16_code 13 = .ok (.invokevirtual 180, 3) := by decide +kernel
theorem d_Mod_look_16 : decode prog_10_method_16_code 16 = .ok (.istore_n 1, 1) := by decide +kernel
theorem d_Mod_look_17 : decode prog_10_method_16_code 17 = .ok (.iload_n 1, 1) := by decide +kernel
theorem d_Mod_look_18 : decode prog_10_method_16_code 18 = .ok (.ifCond .lt 28, 3) := by decide +kernel
theorem d_Mod_look_21 : decode prog_10_method_16_code 21 = .ok (.aload_n 0, 1) := by decide +kernel
theorem d_Mod_look_22 : decode prog_10_method_16_code 22 = .ok (.getfield 137, 3) := by decide +kernel
theorem d_Mod_look_25 : decode prog_10_method_16_code 25 = .ok (.ifCond .lt 22, 3) := by decide +kernel
theorem d_Mod_look_28 : decode prog_10_method_16_code 28 = .ok (.aload_n 0, 1) := by decide +kernel
theorem d_Mod_look_29 : decode prog_10_method_16_code 29 = .ok (.getfield 28, 3) := by decide +kernel
theorem d_Mod_look_32 : decode prog_10_method_16_code 32 = .ok (.iload_n 1, 1) := by decide +kernel
theorem d_Mod_look_33 : decode prog_10_method_16_code 33 = .ok (.iaload, 1) := by decide +kernel
theorem d_Mod_look_34 : decode prog_10_method_16_code 34 = .ok (.aload_n 0, 1) := by decide +kernel
theorem d_Mod_look_35 : decode prog_10_method_16_code 35 = .ok (.getfield 28, 3) := by decide +kernel
theorem d_Mod_look_38 : decode prog_10_method_16_code 38 = .ok (.aload_n 0, 1) := by decide +kernel
theorem d_Mod_look_39 : decode prog_10_method_16_code 39 = .ok (.getfield 137, 3) := by decide +kernel
theorem d_Mod_look_42 : decode prog_10_method_16_code 42 = .ok (.iaload, 1) := by decide +kernel
theorem d_Mod_look_43 : decode prog_10_method_16_code 43 = .ok (.if_icmp .gt 4, 3) := by decide +kernel
theorem d_Mod_look_46 : decode prog_10_method_16_code 46 = .ok (.return_, 1) := by decide +kernel
theorem d_Mod_look_47 : decode prog_10_method_16_code 47 = .ok (.aload_n 0, 1) := by decide +kernel
theorem d_Mod_look_48 : decode prog_10_method_16_code 48 = .ok (.getfield 137, 3) := by decide +kernel
theorem d_Mod_look_51 : decode prog_10_method_16_code 51 = .ok (.ifCond .lt 33, 3) := by decide +kernel
theorem d_Mod_look_54 : decode prog_10_method_16_code 54 = .ok (.aload_n 0, 1) := by decide +kernel
theorem d_Mod_look_55 : decode prog_10_method_16_code 55 = .ok (.getfield 31, 3) := by decide +kernel
theorem d_Mod_look_58 : decode prog_10_method_16_code 58 = .ok (.aload_n 0, 1) := by decide +kernel
theorem d_Mod_look_59 : decode prog_10_method_16_code 59 = .ok (.getfield 137, 3) := by decide +kernel
theorem d_Mod_look_62 : decode prog_10_method_16_code 62 = .ok (.iconst 1, 1) := by decide +kernel
theorem d_Mod_look_63 : decode prog_10_method_16_code 63 = .ok (.iastore, 1) := by decide +kernel
theorem d_Mod_look_64 : decode prog_10_method_16_code 64 = .ok (.aload_n 0, 1) := by decide +kernel
theorem d_Mod_look_65 : decode prog_10_method_16_code 65 = .ok (.getfield 58, 3) := by decide +kernel
theorem d_Mod_look_68 : decode prog_10_method_16_code 68 = .ok (.aload_n 0, 1) := by decide +kernel
theorem d_Mod_look_69 : decode prog_10_method_16_code 69 = .ok (.getfield 137, 3) := by decide +kernel
theorem d_Mod_look_72 : decode prog_10_method_16_code 72 = .ok (.aload_n 0, 1) := by decide +kernel
theorem d_Mod_look_73 : decode prog_10_method_16_code 73 = .ok (.dup, 1) := by decide +kernel
theorem d_Mod_look_74 : decode prog_10_method_16_code 74 = .ok (.getfield 184, 3) := by decide +kernel
theorem d_Mod_look_77 : decode prog_10_method_16_code 77 = .ok (.iconst 1, 1) := by decide +kernel
theorem d_Mod_look_78 : decode prog_10_method_16_code 78 = .ok (.isub, 1) := by decide +kernel
theorem d_Mod_look_79 : decode prog_10_method_16_code 79 = .ok (.dup_x1, 1) := by decide +kernel
theorem d_Mod_look_80 : decode prog_10_method_16_code 80 = .ok (.putfield 184, 3) := by decide +kernel
theorem d_Mod_look_83 : decode prog_10_method_16_code 83 = .ok (.iastore, 1) := by decide +kernel
theorem d_Mod_look_84 : decode prog_10_method_16_code 84 = .ok (.aload_n 0, 1) := by decide +kernel
theorem d_Mod_look_85 : decode prog_10_method_16_code 85 = .ok (.iload_n 1, 1) := by decide +kernel
theorem d_Mod_look_86 : decode prog_10_method_16_code 86 = .ok (.invokevirtual 187, 3) := by decide +kernel
theorem d_Mod_look_89 : decode prog_10_method_16_code 89 = .ok (.return_, 1) := by decide +kernel
theorem d_Mod_end_0 : decode prog_10_method_17_code 0 = .ok (.aload_n 0, 1) := by decide +kernel
theorem d_Mod_end_1 : decode prog_10_method_17_code 1 = .ok (.invokevirtual 190, 3) := by decide +kernel
theorem d_Mod_end_4 : decode prog_10_method_17_code 4 = .ok (.aload_n 0, 1) := by decide +kernel
theorem d_Mod_end_5 : decode prog_10_method_17_code 5 = .ok (.invokevirtual 193, 3) := by decide +kernel
theorem d_Mod_end_8 : decode prog_10_method_17_code 8 = .ok (.iload_n 1, 1) := by decide +kernel
theorem d_Mod_end_9 : decode prog_10_method_17_code 9 = .ok (.ireturn, 1) := by decide +kernel
theorem d_Mod_thread_0 : decode prog_10_method_12_code 0 = .ok (.iload_n 1, 1) := by decide +kernel
theorem d_Mod_thread_1 : decode prog_10_method_12_code 1 = .ok (.iconst 0, 1) := by decide +kernel
theorem d_Mod_thread_2 : decode prog_10_method_12_code 2 = .ok (.aload_n 0, 1) := by decide +kernel
theorem d_Mod_thread_3 : decode prog_10_method_12_code 3 = .ok (.getfield 161, 3) := by decide +kernel
theorem d_Mod_thread_6 : decode prog_10_method_12_code 6 = .ok (.iconst 1, 1) := by decide +kernel
theorem d_Mod_thread_7 : decode prog_10_method_12_code 7 = .ok (.isub, 1) := by decide +kernel
theorem d_Mod_thread_8 : decode prog_10_method_12_code 8 = .ok (.invokestatic 157, 3) := by decide +kernel
theorem d_Mod_thread_11 : decode prog_10_method_12_code 11 = .ok (.ifCond .eq 31, 3) := by decide +kernel
theorem d_Mod_thread_14 : decode prog_10_method_12_code 14 = .ok (.aload_n 0, 1) := by decide +kernel
theorem d_Mod_thread_15 : decode prog_10_method_12_code 15 = .ok (.getfield 16, 3) := by decide +kernel
theorem d_Mod_thread_18 : decode prog_10_method_12_code 18 = .ok (.iload_n 1, 1) := by decide +kernel
theorem d_Mod_thread_19 : decode prog_10_method_12_code 19 = .ok (.iaload, 1) := by decide +kernel
theorem d_Mod_thread_20 : decode prog_10_method_12_code 20 = .ok (.ifCond .le 12, 3) := by decide +kernel
theorem d_Mod_thread_23 : decode prog_10_method_12_code 23 = .ok (.aload_n 0, 1) := by decide +kernel
theorem d_Mod_thread_24 : decode prog_10_method_12_code 24 = .ok (.getfield 13, 3) := by decide +kernel
theorem d_Mod_thread_27 : decode prog_10_method_12_code 27 = .ok (.iload_n 1, 1) := by decide +kernel
theorem d_Mod_thread_28 : decode prog_10_method_12_code 28 = .ok (.iaload, 1) := by decide +kernel
theorem d_Mod_thread_29 : decode prog_10_method_12_code 29 = .ok (.ifCond .eq 13, 3) := by decide +kernel
theorem d_Mod_thread_32 : decode prog_10_method_12_code 32 = .ok (.iload_n 2, 1) := by decide +kernel
theorem d_Mod_thread_33 : decode prog_10_method_12_code 33 = .ok (.iconst 0, 1) := by decide +kernel
theorem d_Mod_thread_34 : decode prog_10_method_12_code 34 = .ok (.bipush 7, 2) := by decide +kernel
theorem d_Mod_thread_36 : decode prog_10_method_12_code 36 = .ok (.invokestatic 157, 3) := by decide +kernel
theorem d_Mod_thread_39 : decode prog_10_method_12_code 39 = .ok (.ifCond .ne 5, 3) := by decide +kernel
theorem d_Mod_thread_42 : decode prog_10_method_12_code 42 = .ok (.iconst (-1), 1) := by decide +kernel
theorem d_Mod_thread_43 : decode prog_10_method_12_code 43 = .ok (.ireturn, 1) := by decide +kernel
theorem d_Mod_thread_44 : decode prog_10_method_12_code 44 = .ok (.aload_n 0, 1) := by decide +kernel
theorem d_Mod_thread_45 : decode prog_10_method_12_code 45 = .ok (.getfield 144, 3) := by decide +kernel
theorem d_Mod_thread_48 : decode prog_10_method_12_code 48 = .ok (.bipush 8, 2) := by decide +kernel
theorem d_Mod_thread_50 : decode prog_10_method_12_code 50 = .ok (.if_icmp .ne 6, 3) := by decide +kernel
theorem d_Mod_thread_53 : decode prog_10_method_12_code 53 = .ok (.bipush (-2), 2) := by decide +kernel
theorem d_Mod_thread_55 : decode prog_10_method_12_code 55 = .ok (.ireturn, 1) := by decide +kernel
theorem d_Mod_thread_56 : decode prog_10_method_12_code 56 = .ok (.aload_n 0, 1) := by decide +kernel
theorem d_Mod_thread_57 : decode prog_10_method_12_code 57 = .ok (.dup, 1) := by decide +kernel
theorem d_Mod_thread_58 : decode prog_10_method_12_code 58 = .ok (.getfield 144, 3) := by decide +kernel
theorem d_Mod_thread_61 : decode prog_10_method_12_code 61 = .ok (.dup_x1, 1) := by decide +kernel
theorem d_Mod_thread_62 : decode prog_10_method_12_code 62 = .ok (.iconst 1, 1) := by decide +kernel
theorem d_Mod_thread_63 : decode prog_10_method_12_code 63 = .ok (.iadd, 1) := by decide +kernel
theorem d_Mod_thread_64 : decode prog_10_method_12_code 64 = .ok (.putfield 144, 3) := by decide +kernel
theorem d_Mod_thread_67 : decode prog_10_method_12_code 67 = .ok (.istore_n 3, 1) := by decide +kernel
theorem d_Mod_thread_68 : decode prog_10_method_12_code 68 = .ok (.aload_n 0, 1) := by decide +kernel
theorem d_Mod_thread_69 : decode prog_10_method_12_code 69 = .ok (.getfield 25, 3) := by decide +kernel
theorem d_Mod_thread_72 : decode prog_10_method_12_code 72 = .ok (.iload_n 3, 1) := by decide +kernel
theorem d_Mod_thread_73 : decode prog_10_method_12_code 73 = .ok (.iload_n 1, 1) := by decide +kernel
theorem d_Mod_thread_74 : decode prog_10_method_12_code 74 = .ok (.iastore, 1) := by decide +kernel
theorem d_Mod_thread_75 : decode prog_10_method_12_code 75 = .ok (.aload_n 0, 1) := by decide +kernel
theorem d_Mod_thread_76 : decode prog_10_method_12_code 76 = .ok (.getfield 28, 3) := by decide +kernel
theorem d_Mod_thread_79 : decode prog_10_method_12_code 79 = .ok (.iload_n 3, 1) := by decide +kernel
theorem d_Mod_thread_80 : decode prog_10_method_12_code 80 = .ok (.iload_n 2, 1) := by decide +kernel
theorem d_Mod_thread_81 : decode prog_10_method_12_code 81 = .ok (.iastore, 1) := by decide +kernel
theorem d_Mod_thread_82 : decode prog_10_method_12_code 82 = .ok (.aload_n 0, 1) := by decide +kernel
theorem d_Mod_thread_83 : decode prog_10_method_12_code 83 = .ok (.getfield 34, 3) := by decide +kernel
theorem d_Mod_thread_86 : decode prog_10_method_12_code 86 = .ok (.iload_n 3, 1) := by decide +kernel
theorem d_Mod_thread_87 : decode prog_10_method_12_code 87 = .ok (.bipush (-10), 2) := by decide +kernel
theorem d_Mod_thread_89 : decode prog_10_method_12_code 89 = .ok (.iastore, 1) := by decide +kernel
theorem d_Mod_thread_90 : decode prog_10_method_12_code 90 = .ok (.aload_n 0, 1) := by decide +kernel
theorem d_Mod_thread_91 : decode prog_10_method_12_code 91 = .ok (.getfield 49, 3) := by decide +kernel
theorem d_Mod_thread_94 : decode prog_10_method_12_code 94 = .ok (.iload_n 3, 1) := by decide +kernel
theorem d_Mod_thread_95 : decode prog_10_method_12_code 95 = .ok (.iconst (-1), 1) := by decide +kernel
theorem d_Mod_thread_96 : decode prog_10_method_12_code 96 = .ok (.iastore, 1) := by decide +kernel
theorem d_Mod_thread_97 : decode prog_10_method_12_code 97 = .ok (.aload_n 0, 1) := by decide +kernel
theorem d_Mod_thread_98 : decode prog_10_method_12_code 98 = .ok (.getfield 16, 3) := by decide +kernel
theorem d_Mod_thread_101 : decode prog_10_method_12_code 101 = .ok (.iload_n 1, 1) := by decide +kernel
theorem d_Mod_thread_102 : decode prog_10_method_12_code 102 = .ok (.dup2, 1) := by decide +kernel
theorem d_Mod_thread_103 : decode prog_10_method_12_code 103 = .ok (.iaload, 1) := by decide +kernel
theorem d_Mod_thread_104 : decode prog_10_method_12_code 104 = .ok (.iconst 1, 1) := by decide +kernel
theorem d_Mod_thread_105 : decode prog_10_method_12_code 105 = .ok (.iadd, 1) := by decide +kernel
theorem d_Mod_thread_106 : decode prog_10_method_12_code 106 = .ok (.iastore, 1) := by decide +kernel
theorem d_Mod_thread_107 : decode prog_10_method_12_code 107 = .ok (.aload_n 0, 1) := by decide +kernel
theorem d_Mod_thread_108 : decode prog_10_method_12_code 108 = .ok (.getfield 13, 3) := by decide +kernel
theorem d_Mod_thread_111 : decode prog_10_method_12_code 111 = .ok (.iload_n 1, 1) := by decide +kernel
theorem d_Mod_thread_112 : decode prog_10_method_12_code 112 = .ok (.dup2, 1) := by decide +kernel
theorem d_Mod_thread_113 : decode prog_10_method_12_code 113 = .ok (.iaload, 1) := by decide +kernel
theorem d_Mod_thread_114 : decode prog_10_method_12_code 114 = .ok (.iconst 1, 1) := by decide +kernel
theorem d_Mod_thread_115 : decode prog_10_method_12_code 115 = .ok (.iadd, 1) := by decide +kernel
theorem d_Mod_thread_116 : decode prog_10_method_12_code 116 = .ok (.iastore, 1) := by decide +kernel
theorem d_Mod_thread_117 : decode prog_10_method_12_code 117 = .ok (.aload_n 0, 1) := by decide +kernel
theorem d_Mod_thread_118 : decode prog_10_method_12_code 118 = .ok (.iload_n 3, 1) := by decide +kernel
theorem d_Mod_thread_119 : decode prog_10_method_12_code 119 = .ok (.invokevirtual 164, 3) := by decide +kernel
theorem d_Mod_thread_122 : decode prog_10_method_12_code 122 = .ok (.aload_n 0, 1) := by decide +kernel
theorem d_Mod_thread_123 : decode prog_10_method_12_code 123 = .ok (.iload_n 3, 1) := by decide +kernel
theorem d_Mod_thread_124 : decode prog_10_method_12_code 124 = .ok (.invokevirtual 168, 3) := by decide +kernel
theorem d_Mod_thread_127 : decode prog_10_method_12_code 127 = .ok (.ireturn, 1) := by decide +kernel
theorem d_Mod_isSignaled_0 : decode prog_10_method_18_code 0 = .ok (.aload_n 0, 1) := by decide +kernel
theorem d_Mod_isSignaled_1 : decode prog_10_method_18_code 1 = .ok (.getfield 77, 3) := by decide +kernel
theorem d_Mod_isSignaled_4 : decode prog_10_method_18_code 4 = .ok (.iload_n 1, 1) := by decide +kernel
theorem d_Mod_isSignaled_5 : decode prog_10_method_18_code 5 = .ok (.iaload, 1) := by decide +kernel
theorem d_Mod_isSignaled_6 : decode prog_10_method_18_code 6 = .ok (.iconst 3, 1) := by decide +kernel
theorem d_Mod_isSignaled_7 : decode prog_10_method_18_code 7 = .ok (.if_icmp .ne 18, 3) := by decide +kernel
theorem d_Mod_isSignaled_10 : decode prog_10_method_18_code 10 = .ok (.aload_n 0, 1) := by decide +kernel
theorem d_Mod_isSignaled_11 : decode prog_10_method_18_code 11 = .ok (.getfield 83, 3) := by decide +kernel
theorem d_Mod_isSignaled_14 : decode prog_10_method_18_code 14 = .ok (.iload_n 1, 1) := by decide +kernel
theorem d_Mod_isSignaled_15 : decode prog_10_method_18_code 15 = .ok (.iaload, 1) := by decide +kernel
theorem d_Mod_isSignaled_16 : decode prog_10_method_18_code 16 = .ok (.ifCond .le 7, 3) := by decide +kernel
theorem d_Mod_isSignaled_19 : decode prog_10_method_18_code 19 = .ok (.iconst 1, 1) := by decide +kernel
theorem d_Mod_isSignaled_20 : decode prog_10_method_18_code 20 = .ok (.goto 4, 3) := by decide +kernel
theorem d_Mod_isSignaled_23 : decode prog_10_method_18_code 23 = .ok (.iconst 0, 1) := by decide +kernel
theorem d_Mod_isSignaled_24 : decode prog_10_method_18_code 24 = .ok (.ireturn, 1) := by decide +kernel
theorem d_Mod_isSignaled_25 : decode prog_10_method_18_code 25 = .ok (.aload_n 0, 1) := by decide +kernel
theorem d_Mod_isSignaled_26 : decode prog_10_method_18_code 26 = .ok (.getfield 77, 3) := by decide +kernel
theorem d_Mod_isSignaled_29 : decode prog_10_method_18_code 29 = .ok (.iload_n 1, 1) := by decide +kernel
theorem d_Mod_isSignaled_30 : decode prog_10_method_18_code 30 = .ok (.iaload, 1) := by decide +kernel
theorem d_Mod_isSignaled_31 : decode prog_10_method_18_code 31 = .ok (.iconst 2, 1) := by decide +kernel
theorem d_Mod_isSignaled_32 : decode prog_10_method_18_code 32 = .ok (.if_icmp .ne 39, 3) := by decide +kernel
theorem d_Mod_isSignaled_35 : decode prog_10_method_18_code 35 = .ok (.aload_n 0, 1) := by decide +kernel
theorem d_Mod_isSignaled_36 : decode prog_10_method_18_code 36 = .ok (.getfield 86, 3) := by decide +kernel
theorem d_Mod_isSignaled_39 : decode prog_10_method_18_code 39 = .ok (.iload_n 1, 1) := by decide +kernel
theorem d_Mod_isSignaled_40 : decode prog_10_method_18_code 40 = .ok (.iaload, 1) := by decide +kernel
theorem d_Mod_isSignaled_41 : decode prog_10_method_18_code 41 = .ok (.ifCond .lt 24, 3) := by decide +kernel
theorem d_Mod_isSignaled_44 : decode prog_10_method_18_code 44 = .ok (.aload_n 0, 1) := by decide +kernel
theorem d_Mod_isSignaled_45 : decode prog_10_method_18_code 45 = .ok (.getfield 86, 3) := by decide +kernel
theorem d_Mod_isSignaled_48 : decode prog_10_method_18_code 48 = .ok (.iload_n 1, 1) := by decide +kernel
theorem d_Mod_isSignaled_49 : decode prog_10_method_18_code 49 = .ok (.iaload, 1) := by decide +kernel
theorem d_Mod_isSignaled_50 : decode prog_10_method_18_code 50 = .ok (.iload_n 2, 1) := by decide +kernel
theorem d_Mod_isSignaled_51 : decode prog_10_method_18_code 51 = .ok (.if_icmp .ne 18, 3) := by decide +kernel
theorem d_Mod_isSignaled_54 : decode prog_10_method_18_code 54 = .ok (.aload_n 0, 1) := by decide +kernel
theorem d_Mod_isSignaled_55 : decode prog_10_method_18_code 55 = .ok (.getfield 83, 3) := by decide +kernel
theorem d_Mod_isSignaled_58 : decode prog_10_method_18_code 58 = .ok (.iload_n 1, 1) := by decide +kernel
theorem d_Mod_isSignaled_59 : decode prog_10_method_18_code 59 = .ok (.iaload, 1) := by decide +kernel
theorem d_Mod_isSignaled_60 : decode prog_10_method_18_code 60 = .ok (.bipush 9, 2) := by decide +kernel
theorem d_Mod_isSignaled_62 : decode prog_10_method_18_code 62 = .ok (.if_icmp .ge 7, 3) := by decide +kernel
theorem d_Mod_isSignaled_65 : decode prog_10_method_18_code 65 = .ok (.iconst 1, 1) := by decide +kernel
theorem d_Mod_isSignaled_66 : decode prog_10_method_18_code 66 = .ok (.goto 4, 3) := by decide +kernel
theorem d_Mod_isSignaled_69 : decode prog_10_method_18_code 69 = .ok (.iconst 0, 1) := by decide +kernel
theorem d_Mod_isSignaled_70 : decode prog_10_method_18_code 70 = .ok (.ireturn, 1) := by decide +kernel
theorem d_Mod_isSignaled_71 : decode prog_10_method_18_code 71 = .ok (.aload_n 0, 1) := by decide +kernel
theorem d_Mod_isSignaled_72 : decode prog_10_method_18_code 72 = .ok (.getfield 71, 3) := by decide +kernel
theorem d_Mod_isSignaled_75 : decode prog_10_method_18_code 75 = .ok (.iload_n 1, 1) := by decide +kernel
theorem d_Mod_isSignaled_76 : decode prog_10_method_18_code 76 = .ok (.baload, 1) := by decide +kernel
theorem d_Mod_isSignaled_77 : decode prog_10_method_18_code 77 = .ok (.ireturn, 1) := by decide +kernel
theorem d_Mod_take_0 : decode prog_10_method_19_code 0 = .ok (.aload_n 0, 1) := by decide +kernel
theorem d_Mod_take_1 : decode prog_10_method_19_code 1 = .ok (.getfield 77, 3) := by decide +kernel
theorem d_Mod_take_4 : decode prog_10_method_19_code 4 = .ok (.iload_n 1, 1) := by decide +kernel
theorem d_Mod_take_5 : decode prog_10_method_19_code 5 = .ok (.iaload, 1) := by decide +kernel
theorem d_Mod_take_6 : decode prog_10_method_19_code 6 = .ok (.iconst 1, 1) := by decide +kernel
theorem d_Mod_take_7 : decode prog_10_method_19_code 7 = .ok (.if_icmp .ne 10, 3) := by decide +kernel
theorem d_Mod_take_10 : decode prog_10_method_19_code 10 = .ok (.aload_n 0, 1) := by decide +kernel
theorem d_Mod_take_11 : decode prog_10_method_19_code 11 = .ok (.getfield 71, 3) := by decide +kernel
theorem d_Mod_take_14 : decode prog_10_method_19_code 14 = .ok (.iload_n 1, 1) := by decide +kernel
theorem d_Mod_take_15 : decode prog_10_method_19_code 15 = .ok (.iconst 0, 1) := by decide +kernel
theorem d_Mod_take_16 : decode prog_10_method_19_code 16 = .ok (.bastore, 1) := by decide +kernel
theorem d_Mod_take_17 : decode prog_10_method_19_code 17 = .ok (.aload_n 0, 1) := by decide +kernel
theorem d_Mod_take_18 : decode prog_10_method_19_code 18 = .ok (.getfield 77, 3) := by decide +kernel
theorem d_Mod_take_21 : decode prog_10_method_19_code 21 = .ok (.iload_n 1, 1) := by decide +kernel
theorem d_Mod_take_22 : decode prog_10_method_19_code 22 = .ok (.iaload, 1) := by decide +kernel
theorem d_Mod_take_23 : decode prog_10_method_19_code 23 = .ok (.iconst 3, 1) := by decide +kernel
theorem d_Mod_take_24 : decode prog_10_method_19_code 24 = .ok (.if_icmp .ne 13, 3) := by decide +kernel
theorem d_Mod_take_27 : decode prog_10_method_19_code 27 = .ok (.aload_n 0, 1) := by decide +kernel
theorem d_Mod_take_28 : decode prog_10_method_19_code 28 = .ok (.getfield 83, 3) := by decide +kernel
theorem d_Mod_take_31 : decode prog_10_method_19_code 31 = .ok (.iload_n 1, 1) := by decide +kernel
theorem d_Mod_take_32 : decode prog_10_method_19_code 32 = .ok (.dup2, 1) := by decide +kernel
theorem d_Mod_take_33 : decode prog_10_method_19_code 33 = .ok (.iaload, 1) := by decide +kernel
theorem d_Mod_take_34 : decode prog_10_method_19_code 34 = .ok (.iconst 1, 1) := by decide +kernel
theorem d_Mod_take_35 : decode prog_10_method_19_code 35 = .ok (.isub, 1) := by decide +kernel
theorem d_Mod_take_36 : decode prog_10_method_19_code 36 = .ok (.iastore, 1) := by decide +kernel
theorem d_Mod_take_37 : decode prog_10_method_19_code 37 = .ok (.aload_n 0, 1) := by decide +kernel
theorem d_Mod_take_38 : decode prog_10_method_19_code 38 = .ok (.getfield 77, 3) := by decide +kernel
theorem d_Mod_take_41 : decode prog_10_method_19_code 41 = .ok (.iload_n 1, 1) := by decide +kernel
theorem d_Mod_take_42 : decode prog_10_method_19_code 42 = .ok (.iaload, 1) := by decide +kernel
theorem d_Mod_take_43 : decode prog_10_method_19_code 43 = .ok (.iconst 2, 1) := by decide +kernel
theorem d_Mod_take_44 : decode prog_10_method_19_code 44 = .ok (.if_icmp .eq 5, 3) := by decide +kernel
theorem d_Mod_take_47 : decode prog_10_method_19_code 47 = .ok (.iconst 0, 1) := by decide +kernel
theorem d_Mod_take_48 : decode prog_10_method_19_code 48 = .ok (.ireturn, 1) := by decide +kernel
theorem d_Mod_take_49 : decode prog_10_method_19_code 49 = .ok (.aload_n 0, 1) := by decide +kernel
theorem d_Mod_take_50 : decode prog_10_method_19_code 50 = .ok (.getfield 74, 3) := by decide +kernel
theorem d_Mod_take_53 : decode prog_10_method_19_code 53 = .ok (.iload_n 1, 1) := by decide +kernel
theorem d_Mod_take_54 : decode prog_10_method_19_code 54 = .ok (.baload, 1) := by decide +kernel
theorem d_Mod_take_55 : decode prog_10_method_19_code 55 = .ok (.istore_n 3, 1) := by decide +kernel
theorem d_Mod_take_56 : decode prog_10_method_19_code 56 = .ok (.aload_n 0, 1) := by decide +kernel
theorem d_Mod_take_57 : decode prog_10_method_19_code 57 = .ok (.getfield 74, 3) := by decide +kernel
theorem d_Mod_take_60 : decode prog_10_method_19_code 60 = .ok (.iload_n 1, 1) := by decide +kernel
theorem d_Mod_take_61 : decode prog_10_method_19_code 61 = .ok (.iconst 0, 1) := by decide +kernel
theorem d_Mod_take_62 : decode prog_10_method_19_code 62 = .ok (.bastore, 1) := by decide +kernel
theorem d_Mod_take_63 : decode prog_10_method_19_code 63 = .ok (.aload_n 0, 1) := by decide +kernel
theorem d_Mod_take_64 : decode prog_10_method_19_code 64 = .ok (.getfield 86, 3) := by decide +kernel
theorem d_Mod_take_67 : decode prog_10_method_19_code 67 = .ok (.iload_n 1, 1) := by decide +kernel
theorem d_Mod_take_68 : decode prog_10_method_19_code 68 = .ok (.iload_n 2, 1) := by decide +kernel
theorem d_Mod_take_69 : decode prog_10_method_19_code 69 = .ok (.iastore, 1) := by decide +kernel
theorem d_Mod_take_70 : decode prog_10_method_19_code 70 = .ok (.aload_n 0, 1) := by decide +kernel
theorem d_Mod_take_71 : decode prog_10_method_19_code 71 = .ok (.getfield 83, 3) := by decide +kernel
theorem d_Mod_take_74 : decode prog_10_method_19_code 74 = .ok (.iload_n 1, 1) := by decide +kernel
theorem d_Mod_take_75 : decode prog_10_method_19_code 75 = .ok (.dup2, 1) := by decide +kernel
theorem d_Mod_take_76 : decode prog_10_method_19_code 76 = .ok (.iaload, 1) := by decide +kernel
theorem d_Mod_take_77 : decode prog_10_method_19_code 77 = .ok (.iconst 1, 1) := by decide +kernel
theorem d_Mod_take_78 : decode prog_10_method_19_code 78 = .ok (.iadd, 1) := by decide +kernel
theorem d_Mod_take_79 : decode prog_10_method_19_code 79 = .ok (.iastore, 1) := by decide +kernel
theorem d_Mod_take_80 : decode prog_10_method_19_code 80 = .ok (.iload_n 3, 1) := by decide +kernel
theorem d_Mod_take_81 : decode prog_10_method_19_code 81 = .ok (.ifCond .eq 8, 3) := by decide +kernel
theorem d_Mod_take_84 : decode prog_10_method_19_code 84 = .ok (.bipush 16, 2) := by decide +kernel
theorem d_Mod_take_86 : decode prog_10_method_19_code 86 = .ok (.goto 4, 3) := by decide +kernel
theorem d_Mod_take_89 : decode prog_10_method_19_code 89 = .ok (.iconst 0, 1) := by decide +kernel
theorem d_Mod_take_90 : decode prog_10_method_19_code 90 = .ok (.ireturn, 1) := by decide +kernel
theorem d_Mod_satisfy_0 : decode prog_10_method_20_code 0 = .ok (.iconst 0, 1) := by decide +kernel
theorem d_Mod_satisfy_1 : decode prog_10_method_20_code 1 = .ok (.istore_n 2, 1) := by decide +kernel
theorem d_Mod_satisfy_2 : decode prog_10_method_20_code 2 = .ok (.iconst 0, 1) := by decide +kernel
theorem d_Mod_satisfy_3 : decode prog_10_method_20_code 3 = .ok (.istore_n 3, 1) := by decide +kernel
theorem d_Mod_satisfy_4 : decode prog_10_method_20_code 4 = .ok (.iconst (-1), 1) := by decide +kernel
theorem d_Mod_satisfy_5 : decode prog_10_method_20_code 5 = .ok (.istore 4, 2) := by decide +kernel
theorem d_Mod_satisfy_7 : decode prog_10_method_20_code 7 = .ok (.iconst 0, 1) := by decide +kernel
theorem d_Mod_satisfy_8 : decode prog_10_method_20_code 8 = .ok (.istore 5, 2) := by decide +kernel
theorem d_Mod_satisfy_10 : decode prog_10_method_20_code 10 = .ok (.iload 5, 2) := by decide +kernel
theorem d_Mod_satisfy_12 : decode prog_10_method_20_code 12 = .ok (.iconst 3, 1) := by decide +kernel
theorem d_Mod_satisfy_13 : decode prog_10_method_20_code 13 = .ok (.if_icmp .ge 58, 3) := by decide +kernel
theorem d_Mod_satisfy_16 : decode prog_10_method_20_code 16 = .ok (.aload_n 0, 1) := by decide +kernel
theorem d_Mod_satisfy_17 : decode prog_10_method_20_code 17 = .ok (.getfield 61, 3) := by decide +kernel
theorem d_Mod_satisfy_20 : decode prog_10_method_20_code 20 = .ok (.iconst 3, 1) := by decide +kernel
theorem d_Mod_satisfy_21 : decode prog_10_method_20_code 21 = .ok (.iload_n 1, 1) := by decide +kernel
theorem d_Mod_satisfy_22 : decode prog_10_method_20_code 22 = .ok (.imul, 1) := by decide +kernel
theorem d_Mod_satisfy_23 : decode prog_10_method_20_code 23 = .ok (.iload 5, 2) := by decide +kernel
theorem d_Mod_satisfy_25 : decode prog_10_method_20_code 25 = .ok (.iadd, 1) := by decide +kernel
theorem d_Mod_satisfy_26 : decode prog_10_method_20_code 26 = .ok (.iaload, 1) := by decide +kernel
theorem d_Mod_satisfy_27 : decode prog_10_method_20_code 27 = .ok (.istore 6, 2) := by decide +kernel
theorem d_Mod_satisfy_29 : decode prog_10_method_20_code 29 = .ok (.iload 6, 2) := by decide +kernel
theorem d_Mod_satisfy_31 : decode prog_10_method_20_code 31 = .ok (.ifCond .ge 6, 3) := by decide +kernel
theorem d_Mod_satisfy_34 : decode prog_10_method_20_code 34 = .ok (.goto 31, 3) := by decide +kernel
theorem d_Mod_satisfy_37 : decode prog_10_method_20_code 37 = .ok (.iinc 2 1, 3) := by decide +kernel
theorem d_Mod_satisfy_40 : decode prog_10_method_20_code 40 = .ok (.aload_n 0, 1) := by decide +kernel
theorem d_Mod_satisfy_41 : decode prog_10_method_20_code 41 = .ok (.iload 6, 2) := by decide +kernel
theorem d_Mod_satisfy_43 : decode prog_10_method_20_code 43 = .ok (.iload_n 1, 1) := by decide +kernel
theorem d_Mod_satisfy_44 : decode prog_10_method_20_code 44 = .ok (.invokevirtual 196, 3) := by decide +kernel
theorem d_Mod_satisfy_47 : decode prog_10_method_20_code 47 = .ok (.ifCond .ne 6, 3) := by decide +kernel
theorem d_Mod_satisfy_50 : decode prog_10_method_20_code 50 = .ok (.goto 15, 3) := by decide +kernel
theorem d_Mod_satisfy_53 : decode prog_10_method_20_code 53 = .ok (.iinc 3 1, 3) := by decide +kernel
theorem d_Mod_satisfy_56 : decode prog_10_method_20_code 56 = .ok (.iload 4, 2) := by decide +kernel
theorem d_Mod_satisfy_58 : decode prog_10_method_20_code 58 = .ok (.ifCond .ge 7, 3) := by decide +kernel
theorem d_Mod_satisfy_61 : decode prog_10_method_20_code 61 = .ok (.iload 5, 2) := by decide +kernel
theorem d_Mod_satisfy_63 : decode prog_10_method_20_code 63 = .ok (.istore 4, 2) := by decide +kernel
theorem d_Mod_satisfy_65 : decode prog_10_method_20_code 65 = .ok (.iinc 5 1, 3) := by decide +kernel
theorem d_Mod_satisfy_68 : decode prog_10_method_20_code 68 = .ok (.goto (-58), 3) := by decide +kernel
theorem d_Mod_satisfy_71 : decode prog_10_method_20_code 71 = .ok (.aload_n 0, 1) := by decide +kernel
theorem d_Mod_satisfy_72 : decode prog_10_method_20_code 72 = .ok (.getfield 52, 3) := by decide +kernel
theorem d_Mod_satisfy_75 : decode prog_10_method_20_code 75 = .ok (.iload_n 1, 1) := by decide +kernel
theorem d_Mod_satisfy_76 : decode prog_10_method_20_code 76 = .ok (.iaload, 1) := by decide +kernel
theorem d_Mod_satisfy_77 : decode prog_10_method_20_code 77 = .ok (.iconst 1, 1) := by decide +kernel
theorem d_Mod_satisfy_78 : decode prog_10_method_20_code 78 = .ok (.iand, 1) := by decide +kernel
theorem d_Mod_satisfy_79 : decode prog_10_method_20_code 79 = .ok (.ifCond .ne 32, 3) := by decide +kernel
theorem d_Mod_satisfy_82 : decode prog_10_method_20_code 82 = .ok (.iload 4, 2) := by decide +kernel
theorem d_Mod_satisfy_84 : decode prog_10_method_20_code 84 = .ok (.ifCond .ge 7, 3) := by decide +kernel
theorem d_Mod_satisfy_87 : decode prog_10_method_20_code 87 = .ok (.iconst (-1), 1) := by decide +kernel
theorem d_Mod_satisfy_88 : decode prog_10_method_20_code 88 = .ok (.goto 22, 3) := by decide +kernel
theorem d_Mod_satisfy_91 : decode prog_10_method_20_code 91 = .ok (.iload 4, 2) := by decide +kernel
theorem d_Mod_satisfy_93 : decode prog_10_method_20_code 93 = .ok (.aload_n 0, 1) := by decide +kernel
theorem d_Mod_satisfy_94 : decode prog_10_method_20_code 94 = .ok (.aload_n 0, 1) := by decide +kernel
theorem d_Mod_satisfy_95 : decode prog_10_method_20_code 95 = .ok (.getfield 61, 3) := by decide +kernel
theorem d_Mod_satisfy_98 : decode prog_10_method_20_code 98 = .ok (.iconst 3, 1) := by decide +kernel
theorem d_Mod_satisfy_99 : decode prog_10_method_20_code 99 = .ok (.iload_n 1, 1) := by decide +kernel
theorem d_Mod_satisfy_100 : decode prog_10_method_20_code 100 = .ok (.imul, 1) := by decide +kernel
theorem d_Mod_satisfy_101 : decode prog_10_method_20_code 101 = .ok (.iload 4, 2) := by decide +kernel
theorem d_Mod_satisfy_103 : decode prog_10_method_20_code 103 = .ok (.iadd, 1) := by decide +kernel
theorem d_Mod_satisfy_104 : decode prog_10_method_20_code 104 = .ok (.iaload, 1) := by decide +kernel
theorem d_Mod_satisfy_105 : decode prog_10_method_20_code 105 = .ok (.iload_n 1, 1) := by decide +kernel
theorem d_Mod_satisfy_106 : decode prog_10_method_20_code 106 = .ok (.invokevirtual 200, 3) := by decide +kernel
theorem d_Mod_satisfy_109 : decode prog_10_method_20_code 109 = .ok (.iadd, 1) := by decide +kernel
theorem d_Mod_satisfy_110 : decode prog_10_method_20_code 110 = .ok (.ireturn, 1) := by decide +kernel
theorem d_Mod_satisfy_111 : decode prog_10_method_20_code 111 = .ok (.iload_n 3, 1) := by decide +kernel
theorem d_Mod_satisfy_112 : decode prog_10_method_20_code 112 = .ok (.iload_n 2, 1) := by decide +kernel
theorem d_Mod_satisfy_113 : decode prog_10_method_20_code 113 = .ok (.if_icmp .ge 5, 3) := by decide +kernel
theorem d_Mod_satisfy_116 : decode prog_10_method_20_code 116 = .ok (.iconst (-1), 1) := by decide +kernel
theorem d_Mod_satisfy_117 : decode prog_10_method_20_code 117 = .ok (.ireturn, 1) := by decide +kernel
theorem d_Mod_satisfy_118 : decode prog_10_method_20_code 118 = .ok (.iconst 0, 1) := by decide +kernel
theorem d_Mod_satisfy_119 : decode prog_10_method_20_code 119 = .ok (.istore 5, 2) := by decide +kernel
theorem d_Mod_satisfy_121 : decode prog_10_method_20_code 121 = .ok (.iconst 0, 1) := by decide +kernel
theorem d_Mod_satisfy_122 : decode prog_10_method_20_code 122 = .ok (.istore 6, 2) := by decide +kernel
theorem d_Mod_satisfy_124 : decode prog_10_method_20_code 124 = .ok (.iload 6, 2) := by decide +kernel
theorem d_Mod_satisfy_126 : decode prog_10_method_20_code 126 = .ok (.iconst 3, 1) := by decide +kernel
theorem d_Mod_satisfy_127 : decode prog_10_method_20_code 127 = .ok (.if_icmp .ge 44, 3) := by decide +kernel
theorem d_Mod_satisfy_130 : decode prog_10_method_20_code 130 = .ok (.aload_n 0, 1) := by decide +kernel
theorem d_Mod_satisfy_131 : decode prog_10_method_20_code 131 = .ok (.getfield 61, 3) := by decide +kernel
theorem d_Mod_satisfy_134 : decode prog_10_method_20_code 134 = .ok (.iconst 3, 1) := by decide +kernel
theorem d_Mod_satisfy_135 : decode prog_10_method_20_code 135 = .ok (.iload_n 1, 1) := by decide +kernel
theorem d_Mod_satisfy_136 : decode prog_10_method_20_code 136 = .ok (.imul, 1) := by decide +kernel
theorem d_Mod_satisfy_137 : decode prog_10_method_20_code 137 = .ok (.iload 6, 2) := by decide +kernel
theorem d_Mod_satisfy_139 : decode prog_10_method_20_code 139 = .ok (.iadd, 1) := by decide +kernel
theorem d_Mod_satisfy_140 : decode prog_10_method_20_code 140 = .ok (.iaload, 1) := by decide +kernel
theorem d_Mod_satisfy_141 : decode prog_10_method_20_code 141 = .ok (.ifCond .lt 24, 3) := by decide +kernel
theorem d_Mod_satisfy_144 : decode prog_10_method_20_code 144 = .ok (.iload 5, 2) := by decide +kernel
theorem d_Mod_satisfy_146 : decode prog_10_method_20_code 146 = .ok (.aload_n 0, 1) := by decide +kernel
theorem d_Mod_satisfy_147 : decode prog_10_method_20_code 147 = .ok (.aload_n 0, 1) := by decide +kernel
theorem d_Mod_satisfy_148 : decode prog_10_method_20_code 148 = .ok (.getfield 61, 3) := by decide +kernel
theorem d_Mod_satisfy_151 : decode prog_10_method_20_code 151 = .ok (.iconst 3, 1) := by decide +kernel
theorem d_Mod_satisfy_152 : decode prog_10_method_20_code 152 = .ok (.iload_n 1, 1) := by decide +kernel
theorem d_Mod_satisfy_153 : decode prog_10_method_20_code 153 = .ok (.imul, 1) := by decide +kernel
