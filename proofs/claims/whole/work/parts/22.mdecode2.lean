theorem d_Mod_clse_26 : decode prog_10_method_31_code 26 = .ok (.aload_n 0, 1) := by decide +kernel
theorem d_Mod_clse_27 : decode prog_10_method_31_code 27 = .ok (.getfield 19, 3) := by decide +kernel
theorem d_Mod_clse_30 : decode prog_10_method_31_code 30 = .ok (.bipush 8, 2) := by decide +kernel
theorem d_Mod_clse_32 : decode prog_10_method_31_code 32 = .ok (.aload_n 0, 1) := by decide +kernel
theorem d_Mod_clse_33 : decode prog_10_method_31_code 33 = .ok (.getfield 25, 3) := by decide +kernel
theorem d_Mod_clse_36 : decode prog_10_method_31_code 36 = .ok (.aload_n 0, 1) := by decide +kernel
theorem d_Mod_clse_37 : decode prog_10_method_31_code 37 = .ok (.getfield 137, 3) := by decide +kernel
theorem d_Mod_clse_40 : decode prog_10_method_31_code 40 = .ok (.iaload, 1) := by decide +kernel
theorem d_Mod_clse_41 : decode prog_10_method_31_code 41 = .ok (.imul, 1) := by decide +kernel
theorem d_Mod_clse_42 : decode prog_10_method_31_code 42 = .ok (.iload_n 1, 1) := by decide +kernel
theorem d_Mod_clse_43 : decode prog_10_method_31_code 43 = .ok (.iadd, 1) := by decide +kernel
theorem d_Mod_clse_44 : decode prog_10_method_31_code 44 = .ok (.iconst (-1), 1) := by decide +kernel
theorem d_Mod_clse_45 : decode prog_10_method_31_code 45 = .ok (.iastore, 1) := by decide +kernel
theorem d_Mod_clse_46 : decode prog_10_method_31_code 46 = .ok (.aload_n 0, 1) := by decide +kernel
theorem d_Mod_clse_47 : decode prog_10_method_31_code 47 = .ok (.iload_n 2, 1) := by decide +kernel
theorem d_Mod_clse_48 : decode prog_10_method_31_code 48 = .ok (.invokevirtual 150, 3) := by decide +kernel
theorem d_Mod_clse_51 : decode prog_10_method_31_code 51 = .ok (.istore_n 3, 1) := by decide +kernel
theorem d_Mod_clse_52 : decode prog_10_method_31_code 52 = .ok (.aload_n 0, 1) := by decide +kernel
theorem d_Mod_clse_53 : decode prog_10_method_31_code 53 = .ok (.iload_n 3, 1) := by decide +kernel
theorem d_Mod_clse_54 : decode prog_10_method_31_code 54 = .ok (.invokevirtual 168, 3) := by decide +kernel
theorem d_Mod_clse_57 : decode prog_10_method_31_code 57 = .ok (.ireturn, 1) := by decide +kernel
theorem d_Mod_rule_0 : decode prog_10_method_32_code 0 = .ok (.aload_n 0, 1) := by decide +kernel
theorem d_Mod_rule_1 : decode prog_10_method_32_code 1 = .ok (.getfield 137, 3) := by decide +kernel
theorem d_Mod_rule_4 : decode prog_10_method_32_code 4 = .ok (.ifCond .ge 6, 3) := by decide +kernel
theorem d_Mod_rule_7 : decode prog_10_method_32_code 7 = .ok (.bipush (-3), 2) := by decide +kernel
theorem d_Mod_rule_9 : decode prog_10_method_32_code 9 = .ok (.ireturn, 1) := by decide +kernel
theorem d_Mod_rule_10 : decode prog_10_method_32_code 10 = .ok (.aload_n 0, 1) := by decide +kernel
theorem d_Mod_rule_11 : decode prog_10_method_32_code 11 = .ok (.iload_n 1, 1) := by decide +kernel
theorem d_Mod_rule_12 : decode prog_10_method_32_code 12 = .ok (.invokevirtual 220, 3) := by decide +kernel
theorem d_Mod_rule_15 : decode prog_10_method_32_code 15 = .ok (.ifCond .eq 33, 3) := by decide +kernel
theorem d_Mod_rule_18 : decode prog_10_method_32_code 18 = .ok (.iload_n 2, 1) := by decide +kernel
theorem d_Mod_rule_19 : decode prog_10_method_32_code 19 = .ok (.iconst 0, 1) := by decide +kernel
theorem d_Mod_rule_20 : decode prog_10_method_32_code 20 = .ok (.iconst 1, 1) := by decide +kernel
theorem d_Mod_rule_21 : decode prog_10_method_32_code 21 = .ok (.invokestatic 157, 3) := by decide +kernel
theorem d_Mod_rule_24 : decode prog_10_method_32_code 24 = .ok (.ifCond .eq 24, 3) := by decide +kernel
theorem d_Mod_rule_27 : decode prog_10_method_32_code 27 = .ok (.iload_n 3, 1) := by decide +kernel
theorem d_Mod_rule_28 : decode prog_10_method_32_code 28 = .ok (.iconst 0, 1) := by decide +kernel
theorem d_Mod_rule_29 : decode prog_10_method_32_code 29 = .ok (.bipush 7, 2) := by decide +kernel
theorem d_Mod_rule_31 : decode prog_10_method_32_code 31 = .ok (.invokestatic 157, 3) := by decide +kernel
theorem d_Mod_rule_34 : decode prog_10_method_32_code 34 = .ok (.ifCond .eq 14, 3) := by decide +kernel
theorem d_Mod_rule_37 : decode prog_10_method_32_code 37 = .ok (.iload 4, 2) := by decide +kernel
theorem d_Mod_rule_39 : decode prog_10_method_32_code 39 = .ok (.iconst 1, 1) := by decide +kernel
theorem d_Mod_rule_40 : decode prog_10_method_32_code 40 = .ok (.bipush 7, 2) := by decide +kernel
theorem d_Mod_rule_42 : decode prog_10_method_32_code 42 = .ok (.invokestatic 157, 3) := by decide +kernel
theorem d_Mod_rule_45 : decode prog_10_method_32_code 45 = .ok (.ifCond .ne 5, 3) := by decide +kernel
theorem d_Mod_rule_48 : decode prog_10_method_32_code 48 = .ok (.iconst (-1), 1) := by decide +kernel
theorem d_Mod_rule_49 : decode prog_10_method_32_code 49 = .ok (.ireturn, 1) := by decide +kernel
theorem d_Mod_rule_50 : decode prog_10_method_32_code 50 = .ok (.aload_n 0, 1) := by decide +kernel
theorem d_Mod_rule_51 : decode prog_10_method_32_code 51 = .ok (.iload_n 1, 1) := by decide +kernel
theorem d_Mod_rule_52 : decode prog_10_method_32_code 52 = .ok (.iconst 2, 1) := by decide +kernel
theorem d_Mod_rule_53 : decode prog_10_method_32_code 53 = .ok (.invokevirtual 227, 3) := by decide +kernel
theorem d_Mod_rule_56 : decode prog_10_method_32_code 56 = .ok (.ifCond .eq 6, 3) := by decide +kernel
theorem d_Mod_rule_59 : decode prog_10_method_32_code 59 = .ok (.bipush (-5), 2) := by decide +kernel
theorem d_Mod_rule_61 : decode prog_10_method_32_code 61 = .ok (.ireturn, 1) := by decide +kernel
theorem d_Mod_rule_62 : decode prog_10_method_32_code 62 = .ok (.aload_n 0, 1) := by decide +kernel
theorem d_Mod_rule_63 : decode prog_10_method_32_code 63 = .ok (.iload_n 1, 1) := by decide +kernel
theorem d_Mod_rule_64 : decode prog_10_method_32_code 64 = .ok (.invokevirtual 224, 3) := by decide +kernel
theorem d_Mod_rule_67 : decode prog_10_method_32_code 67 = .ok (.istore 5, 2) := by decide +kernel
theorem d_Mod_rule_69 : decode prog_10_method_32_code 69 = .ok (.aload_n 0, 1) := by decide +kernel
theorem d_Mod_rule_70 : decode prog_10_method_32_code 70 = .ok (.getfield 92, 3) := by decide +kernel
theorem d_Mod_rule_73 : decode prog_10_method_32_code 73 = .ok (.iload 5, 2) := by decide +kernel
theorem d_Mod_rule_75 : decode prog_10_method_32_code 75 = .ok (.iaload, 1) := by decide +kernel
theorem d_Mod_rule_76 : decode prog_10_method_32_code 76 = .ok (.iconst 4, 1) := by decide +kernel
theorem d_Mod_rule_77 : decode prog_10_method_32_code 77 = .ok (.if_icmp .ne 6, 3) := by decide +kernel
theorem d_Mod_rule_80 : decode prog_10_method_32_code 80 = .ok (.bipush (-2), 2) := by decide +kernel
theorem d_Mod_rule_82 : decode prog_10_method_32_code 82 = .ok (.ireturn, 1) := by decide +kernel
theorem d_Mod_rule_83 : decode prog_10_method_32_code 83 = .ok (.iconst 4, 1) := by decide +kernel
theorem d_Mod_rule_84 : decode prog_10_method_32_code 84 = .ok (.iload 5, 2) := by decide +kernel
theorem d_Mod_rule_86 : decode prog_10_method_32_code 86 = .ok (.imul, 1) := by decide +kernel
theorem d_Mod_rule_87 : decode prog_10_method_32_code 87 = .ok (.aload_n 0, 1) := by decide +kernel
theorem d_Mod_rule_88 : decode prog_10_method_32_code 88 = .ok (.getfield 92, 3) := by decide +kernel
theorem d_Mod_rule_91 : decode prog_10_method_32_code 91 = .ok (.iload 5, 2) := by decide +kernel
theorem d_Mod_rule_93 : decode prog_10_method_32_code 93 = .ok (.dup2, 1) := by decide +kernel
theorem d_Mod_rule_94 : decode prog_10_method_32_code 94 = .ok (.iaload, 1) := by decide +kernel
theorem d_Mod_rule_95 : decode prog_10_method_32_code 95 = .ok (.dup_x2, 1) := by decide +kernel
theorem d_Mod_rule_96 : decode prog_10_method_32_code 96 = .ok (.iconst 1, 1) := by decide +kernel
theorem d_Mod_rule_97 : decode prog_10_method_32_code 97 = .ok (.iadd, 1) := by decide +kernel
theorem d_Mod_rule_98 : decode prog_10_method_32_code 98 = .ok (.iastore, 1) := by decide +kernel
theorem d_Mod_rule_99 : decode prog_10_method_32_code 99 = .ok (.iadd, 1) := by decide +kernel
theorem d_Mod_rule_100 : decode prog_10_method_32_code 100 = .ok (.istore 6, 2) := by decide +kernel
theorem d_Mod_rule_102 : decode prog_10_method_32_code 102 = .ok (.aload_n 0, 1) := by decide +kernel
theorem d_Mod_rule_103 : decode prog_10_method_32_code 103 = .ok (.getfield 95, 3) := by decide +kernel
theorem d_Mod_rule_106 : decode prog_10_method_32_code 106 = .ok (.iload 6, 2) := by decide +kernel
theorem d_Mod_rule_108 : decode prog_10_method_32_code 108 = .ok (.iload_n 2, 1) := by decide +kernel
theorem d_Mod_rule_109 : decode prog_10_method_32_code 109 = .ok (.iastore, 1) := by decide +kernel
theorem d_Mod_rule_110 : decode prog_10_method_32_code 110 = .ok (.aload_n 0, 1) := by decide +kernel
theorem d_Mod_rule_111 : decode prog_10_method_32_code 111 = .ok (.getfield 98, 3) := by decide +kernel
theorem d_Mod_rule_114 : decode prog_10_method_32_code 114 = .ok (.iload 6, 2) := by decide +kernel
theorem d_Mod_rule_116 : decode prog_10_method_32_code 116 = .ok (.iload_n 3, 1) := by decide +kernel
theorem d_Mod_rule_117 : decode prog_10_method_32_code 117 = .ok (.iastore, 1) := by decide +kernel
theorem d_Mod_rule_118 : decode prog_10_method_32_code 118 = .ok (.aload_n 0, 1) := by decide +kernel
theorem d_Mod_rule_119 : decode prog_10_method_32_code 119 = .ok (.getfield 101, 3) := by decide +kernel
theorem d_Mod_rule_122 : decode prog_10_method_32_code 122 = .ok (.iload 6, 2) := by decide +kernel
theorem d_Mod_rule_124 : decode prog_10_method_32_code 124 = .ok (.iload 4, 2) := by decide +kernel
theorem d_Mod_rule_126 : decode prog_10_method_32_code 126 = .ok (.iastore, 1) := by decide +kernel
theorem d_Mod_rule_127 : decode prog_10_method_32_code 127 = .ok (.aload_n 0, 1) := by decide +kernel
theorem d_Mod_rule_128 : decode prog_10_method_32_code 128 = .ok (.getfield 92, 3) := by decide +kernel
theorem d_Mod_rule_131 : decode prog_10_method_32_code 131 = .ok (.iload 5, 2) := by decide +kernel
theorem d_Mod_rule_133 : decode prog_10_method_32_code 133 = .ok (.iaload, 1) := by decide +kernel
theorem d_Mod_rule_134 : decode prog_10_method_32_code 134 = .ok (.ireturn, 1) := by decide +kernel
theorem d_Mod_sett_0 : decode prog_10_method_33_code 0 = .ok (.aload_n 0, 1) := by decide +kernel
theorem d_Mod_sett_1 : decode prog_10_method_33_code 1 = .ok (.getfield 137, 3) := by decide +kernel
theorem d_Mod_sett_4 : decode prog_10_method_33_code 4 = .ok (.ifCond .ge 6, 3) := by decide +kernel
theorem d_Mod_sett_7 : decode prog_10_method_33_code 7 = .ok (.bipush (-3), 2) := by decide +kernel
theorem d_Mod_sett_9 : decode prog_10_method_33_code 9 = .ok (.ireturn, 1) := by decide +kernel
theorem d_Mod_sett_10 : decode prog_10_method_33_code 10 = .ok (.aload_n 0, 1) := by decide +kernel
theorem d_Mod_sett_11 : decode prog_10_method_33_code 11 = .ok (.iload_n 1, 1) := by decide +kernel
theorem d_Mod_sett_12 : decode prog_10_method_33_code 12 = .ok (.invokevirtual 220, 3) := by decide +kernel
theorem d_Mod_sett_15 : decode prog_10_method_33_code 15 = .ok (.ifCond .ne 5, 3) := by decide +kernel
theorem d_Mod_sett_18 : decode prog_10_method_33_code 18 = .ok (.iconst (-1), 1) := by decide +kernel
theorem d_Mod_sett_19 : decode prog_10_method_33_code 19 = .ok (.ireturn, 1) := by decide +kernel
theorem d_Mod_sett_20 : decode prog_10_method_33_code 20 = .ok (.aload_n 0, 1) := by decide +kernel
theorem d_Mod_sett_21 : decode prog_10_method_33_code 21 = .ok (.iload_n 1, 1) := by decide +kernel
theorem d_Mod_sett_22 : decode prog_10_method_33_code 22 = .ok (.invokevirtual 224, 3) := by decide +kernel
theorem d_Mod_sett_25 : decode prog_10_method_33_code 25 = .ok (.istore_n 3, 1) := by decide +kernel
theorem d_Mod_sett_26 : decode prog_10_method_33_code 26 = .ok (.aload_n 0, 1) := by decide +kernel
theorem d_Mod_sett_27 : decode prog_10_method_33_code 27 = .ok (.getfield 77, 3) := by decide +kernel
theorem d_Mod_sett_30 : decode prog_10_method_33_code 30 = .ok (.iload_n 3, 1) := by decide +kernel
theorem d_Mod_sett_31 : decode prog_10_method_33_code 31 = .ok (.iaload, 1) := by decide +kernel
theorem d_Mod_sett_32 : decode prog_10_method_33_code 32 = .ok (.istore 4, 2) := by decide +kernel
theorem d_Mod_sett_34 : decode prog_10_method_33_code 34 = .ok (.aload_n 0, 1) := by decide +kernel
theorem d_Mod_sett_35 : decode prog_10_method_33_code 35 = .ok (.getfield 71, 3) := by decide +kernel
theorem d_Mod_sett_38 : decode prog_10_method_33_code 38 = .ok (.iload_n 3, 1) := by decide +kernel
theorem d_Mod_sett_39 : decode prog_10_method_33_code 39 = .ok (.baload, 1) := by decide +kernel
theorem d_Mod_sett_40 : decode prog_10_method_33_code 40 = .ok (.ifCond .eq 7, 3) := by decide +kernel
theorem d_Mod_sett_43 : decode prog_10_method_33_code 43 = .ok (.iconst 1, 1) := by decide +kernel
theorem d_Mod_sett_44 : decode prog_10_method_33_code 44 = .ok (.goto 4, 3) := by decide +kernel
theorem d_Mod_sett_47 : decode prog_10_method_33_code 47 = .ok (.iconst 0, 1) := by decide +kernel
theorem d_Mod_sett_48 : decode prog_10_method_33_code 48 = .ok (.istore 5, 2) := by decide +kernel
theorem d_Mod_sett_50 : decode prog_10_method_33_code 50 = .ok (.aload_n 0, 1) := by decide +kernel
theorem d_Mod_sett_51 : decode prog_10_method_33_code 51 = .ok (.getfield 83, 3) := by decide +kernel
theorem d_Mod_sett_54 : decode prog_10_method_33_code 54 = .ok (.iload_n 3, 1) := by decide +kernel
theorem d_Mod_sett_55 : decode prog_10_method_33_code 55 = .ok (.iaload, 1) := by decide +kernel
theorem d_Mod_sett_56 : decode prog_10_method_33_code 56 = .ok (.istore 6, 2) := by decide +kernel
theorem d_Mod_sett_58 : decode prog_10_method_33_code 58 = .ok (.iload 4, 2) := by decide +kernel
theorem d_Mod_sett_60 : decode prog_10_method_33_code 60 = .ok (.iconst 5, 1) := by decide +kernel
theorem d_Mod_sett_61 : decode prog_10_method_33_code 61 = .ok (.if_icmp .eq 61, 3) := by decide +kernel
theorem d_Mod_sett_64 : decode prog_10_method_33_code 64 = .ok (.iload 4, 2) := by decide +kernel
theorem d_Mod_sett_66 : decode prog_10_method_33_code 66 = .ok (.iconst 2, 1) := by decide +kernel
theorem d_Mod_sett_67 : decode prog_10_method_33_code 67 = .ok (.if_icmp .ge 12, 3) := by decide +kernel
theorem d_Mod_sett_70 : decode prog_10_method_33_code 70 = .ok (.iload_n 2, 1) := by decide +kernel
theorem d_Mod_sett_71 : decode prog_10_method_33_code 71 = .ok (.iconst 0, 1) := by decide +kernel
theorem d_Mod_sett_72 : decode prog_10_method_33_code 72 = .ok (.iconst 1, 1) := by decide +kernel
theorem d_Mod_sett_73 : decode prog_10_method_33_code 73 = .ok (.invokestatic 157, 3) := by decide +kernel
theorem d_Mod_sett_76 : decode prog_10_method_33_code 76 = .ok (.ifCond .eq 46, 3) := by decide +kernel
theorem d_Mod_sett_79 : decode prog_10_method_33_code 79 = .ok (.iload 4, 2) := by decide +kernel
theorem d_Mod_sett_81 : decode prog_10_method_33_code 81 = .ok (.iconst 2, 1) := by decide +kernel
theorem d_Mod_sett_82 : decode prog_10_method_33_code 82 = .ok (.if_icmp .ne 8, 3) := by decide +kernel
theorem d_Mod_sett_85 : decode prog_10_method_33_code 85 = .ok (.iload_n 2, 1) := by decide +kernel
theorem d_Mod_sett_86 : decode prog_10_method_33_code 86 = .ok (.iconst 1, 1) := by decide +kernel
theorem d_Mod_sett_87 : decode prog_10_method_33_code 87 = .ok (.if_icmp .ne 35, 3) := by decide +kernel
theorem d_Mod_sett_90 : decode prog_10_method_33_code 90 = .ok (.iload 4, 2) := by decide +kernel
theorem d_Mod_sett_92 : decode prog_10_method_33_code 92 = .ok (.iconst 3, 1) := by decide +kernel
theorem d_Mod_sett_93 : decode prog_10_method_33_code 93 = .ok (.if_icmp .ne 13, 3) := by decide +kernel
theorem d_Mod_sett_96 : decode prog_10_method_33_code 96 = .ok (.iload_n 2, 1) := by decide +kernel
theorem d_Mod_sett_97 : decode prog_10_method_33_code 97 = .ok (.iconst 1, 1) := by decide +kernel
theorem d_Mod_sett_98 : decode prog_10_method_33_code 98 = .ok (.bipush 9, 2) := by decide +kernel
theorem d_Mod_sett_100 : decode prog_10_method_33_code 100 = .ok (.invokestatic 157, 3) := by decide +kernel
theorem d_Mod_sett_103 : decode prog_10_method_33_code 103 = .ok (.ifCond .eq 19, 3) := by decide +kernel
theorem d_Mod_sett_106 : decode prog_10_method_33_code 106 = .ok (.iload 4, 2) := by decide +kernel
theorem d_Mod_sett_108 : decode prog_10_method_33_code 108 = .ok (.iconst 4, 1) := by decide +kernel
theorem d_Mod_sett_109 : decode prog_10_method_33_code 109 = .ok (.if_icmp .ne 15, 3) := by decide +kernel
theorem d_Mod_sett_112 : decode prog_10_method_33_code 112 = .ok (.iload_n 2, 1) := by decide +kernel
theorem d_Mod_sett_113 : decode prog_10_method_33_code 113 = .ok (.iconst 0, 1) := by decide +kernel
theorem d_Mod_sett_114 : decode prog_10_method_33_code 114 = .ok (.bipush 99, 2) := by decide +kernel
theorem d_Mod_sett_116 : decode prog_10_method_33_code 116 = .ok (.invokestatic 157, 3) := by decide +kernel
theorem d_Mod_sett_119 : decode prog_10_method_33_code 119 = .ok (.ifCond .ne 5, 3) := by decide +kernel
theorem d_Mod_sett_122 : decode prog_10_method_33_code 122 = .ok (.iconst (-1), 1) := by decide +kernel
theorem d_Mod_sett_123 : decode prog_10_method_33_code 123 = .ok (.ireturn, 1) := by decide +kernel
theorem d_Mod_sett_124 : decode prog_10_method_33_code 124 = .ok (.aload_n 0, 1) := by decide +kernel
theorem d_Mod_sett_125 : decode prog_10_method_33_code 125 = .ok (.iload_n 1, 1) := by decide +kernel
theorem d_Mod_sett_126 : decode prog_10_method_33_code 126 = .ok (.iconst 2, 1) := by decide +kernel
theorem d_Mod_sett_127 : decode prog_10_method_33_code 127 = .ok (.invokevirtual 227, 3) := by decide +kernel
theorem d_Mod_sett_130 : decode prog_10_method_33_code 130 = .ok (.ifCond .eq 6, 3) := by decide +kernel
theorem d_Mod_sett_133 : decode prog_10_method_33_code 133 = .ok (.bipush (-5), 2) := by decide +kernel
theorem d_Mod_sett_135 : decode prog_10_method_33_code 135 = .ok (.ireturn, 1) := by decide +kernel
theorem d_Mod_sett_136 : decode prog_10_method_33_code 136 = .ok (.iload 4, 2) := by decide +kernel
theorem d_Mod_sett_138 : decode prog_10_method_33_code 138 = .ok (.iconst 3, 1) := by decide +kernel
theorem d_Mod_sett_139 : decode prog_10_method_33_code 139 = .ok (.if_icmp .ne 15, 3) := by decide +kernel
theorem d_Mod_sett_142 : decode prog_10_method_33_code 142 = .ok (.iload 6, 2) := by decide +kernel
theorem d_Mod_sett_144 : decode prog_10_method_33_code 144 = .ok (.iload_n 2, 1) := by decide +kernel
theorem d_Mod_sett_145 : decode prog_10_method_33_code 145 = .ok (.iadd, 1) := by decide +kernel
theorem d_Mod_sett_146 : decode prog_10_method_33_code 146 = .ok (.bipush 9, 2) := by decide +kernel
theorem d_Mod_sett_148 : decode prog_10_method_33_code 148 = .ok (.if_icmp .le 6, 3) := by decide +kernel
theorem d_Mod_sett_151 : decode prog_10_method_33_code 151 = .ok (.bipush (-8), 2) := by decide +kernel
theorem d_Mod_sett_153 : decode prog_10_method_33_code 153 = .ok (.ireturn, 1) := by decide +kernel
theorem d_Mod_sett_154 : decode prog_10_method_33_code 154 = .ok (.iload 4, 2) := by decide +kernel
theorem d_Mod_sett_156 : decode prog_10_method_33_code 156 = .ok (.iconst 2, 1) := by decide +kernel
theorem d_Mod_sett_157 : decode prog_10_method_33_code 157 = .ok (.if_icmp .ne 19, 3) := by decide +kernel
theorem d_Mod_sett_160 : decode prog_10_method_33_code 160 = .ok (.aload_n 0, 1) := by decide +kernel
theorem d_Mod_sett_161 : decode prog_10_method_33_code 161 = .ok (.getfield 86, 3) := by decide +kernel
theorem d_Mod_sett_164 : decode prog_10_method_33_code 164 = .ok (.iload_n 3, 1) := by decide +kernel
theorem d_Mod_sett_165 : decode prog_10_method_33_code 165 = .ok (.iaload, 1) := by decide +kernel
theorem d_Mod_sett_166 : decode prog_10_method_33_code 166 = .ok (.aload_n 0, 1) := by decide +kernel
theorem d_Mod_sett_167 : decode prog_10_method_33_code 167 = .ok (.getfield 137, 3) := by decide +kernel
theorem d_Mod_sett_170 : decode prog_10_method_33_code 170 = .ok (.if_icmp .eq 6, 3) := by decide +kernel
theorem d_Mod_sett_173 : decode prog_10_method_33_code 173 = .ok (.bipush (-9), 2) := by decide +kernel
theorem d_Mod_sett_175 : decode prog_10_method_33_code 175 = .ok (.ireturn, 1) := by decide +kernel
theorem d_Mod_sett_176 : decode prog_10_method_33_code 176 = .ok (.iload 4, 2) := by decide +kernel
theorem d_Mod_sett_178 : decode prog_10_method_33_code 178 = .ok (.iconst 2, 1) := by decide +kernel
theorem d_Mod_sett_179 : decode prog_10_method_33_code 179 = .ok (.if_icmp .ge 35, 3) := by decide +kernel
theorem d_Mod_sett_182 : decode prog_10_method_33_code 182 = .ok (.aload_n 0, 1) := by decide +kernel
theorem d_Mod_sett_183 : decode prog_10_method_33_code 183 = .ok (.getfield 71, 3) := by decide +kernel
theorem d_Mod_sett_186 : decode prog_10_method_33_code 186 = .ok (.iload_n 3, 1) := by decide +kernel
theorem d_Mod_sett_187 : decode prog_10_method_33_code 187 = .ok (.iload_n 2, 1) := by decide +kernel
theorem d_Mod_sett_188 : decode prog_10_method_33_code 188 = .ok (.iconst 1, 1) := by decide +kernel
theorem d_Mod_sett_189 : decode prog_10_method_33_code 189 = .ok (.if_icmp .ne 7, 3) := by decide +kernel
theorem d_Mod_sett_192 : decode prog_10_method_33_code 192 = .ok (.iconst 1, 1) := by decide +kernel
theorem d_Mod_sett_193 : decode prog_10_method_33_code 193 = .ok (.goto 4, 3) := by decide +kernel
theorem d_Mod_sett_196 : decode prog_10_method_33_code 196 = .ok (.iconst 0, 1) := by decide +kernel
theorem d_Mod_sett_197 : decode prog_10_method_33_code 197 = .ok (.bastore, 1) := by decide +kernel
theorem d_Mod_sett_198 : decode prog_10_method_33_code 198 = .ok (.iload_n 2, 1) := by decide +kernel
theorem d_Mod_sett_199 : decode prog_10_method_33_code 199 = .ok (.iconst 1, 1) := by decide +kernel
theorem d_Mod_sett_200 : decode prog_10_method_33_code 200 = .ok (.if_icmp .ne 7, 3) := by decide +kernel
theorem d_Mod_sett_203 : decode prog_10_method_33_code 203 = .ok (.aload_n 0, 1) := by decide +kernel
theorem d_Mod_sett_204 : decode prog_10_method_33_code 204 = .ok (.invokevirtual 214, 3) := by decide +kernel
theorem d_Mod_sett_207 : decode prog_10_method_33_code 207 = .ok (.aload_n 0, 1) := by decide +kernel
theorem d_Mod_sett_208 : decode prog_10_method_33_code 208 = .ok (.iload 5, 2) := by decide +kernel
theorem d_Mod_sett_210 : decode prog_10_method_33_code 210 = .ok (.invokevirtual 168, 3) := by decide +kernel
theorem d_Mod_sett_213 : decode prog_10_method_33_code 213 = .ok (.ireturn, 1) := by decide +kernel
theorem d_Mod_sett_214 : decode prog_10_method_33_code 214 = .ok (.iload 4, 2) := by decide +kernel
theorem d_Mod_sett_216 : decode prog_10_method_33_code 216 = .ok (.iconst 3, 1) := by decide +kernel
theorem d_Mod_sett_217 : decode prog_10_method_33_code 217 = .ok (.if_icmp .ne 24, 3) := by decide +kernel
theorem d_Mod_sett_220 : decode prog_10_method_33_code 220 = .ok (.aload_n 0, 1) := by decide +kernel
theorem d_Mod_sett_221 : decode prog_10_method_33_code 221 = .ok (.getfield 83, 3) := by decide +kernel
theorem d_Mod_sett_224 : decode prog_10_method_33_code 224 = .ok (.iload_n 3, 1) := by decide +kernel
theorem d_Mod_sett_225 : decode prog_10_method_33_code 225 = .ok (.dup2, 1) := by decide +kernel
theorem d_Mod_sett_226 : decode prog_10_method_33_code 226 = .ok (.iaload, 1) := by decide +kernel
theorem d_Mod_sett_227 : decode prog_10_method_33_code 227 = .ok (.iload_n 2, 1) := by decide +kernel
theorem d_Mod_sett_228 : decode prog_10_method_33_code 228 = .ok (.iadd, 1) := by decide +kernel
theorem d_Mod_sett_229 : decode prog_10_method_33_code 229 = .ok (.iastore, 1) := by decide +kernel
theorem d_Mod_sett_230 : decode prog_10_method_33_code 230 = .ok (.aload_n 0, 1) := by decide +kernel
theorem d_Mod_sett_231 : decode prog_10_method_33_code 231 = .ok (.invokevirtual 214, 3) := by decide +kernel
theorem d_Mod_sett_234 : decode prog_10_method_33_code 234 = .ok (.aload_n 0, 1) := by decide +kernel
theorem d_Mod_sett_235 : decode prog_10_method_33_code 235 = .ok (.iload 6, 2) := by decide +kernel
theorem d_Mod_sett_237 : decode prog_10_method_33_code 237 = .ok (.invokevirtual 168, 3) := by decide +kernel
theorem d_Mod_sett_240 : decode prog_10_method_33_code 240 = .ok (.ireturn, 1) := by decide +kernel
theorem d_Mod_sett_241 : decode prog_10_method_33_code 241 = .ok (.iload 4, 2) := by decide +kernel
theorem d_Mod_sett_243 : decode prog_10_method_33_code 243 = .ok (.iconst 4, 1) := by decide +kernel
theorem d_Mod_sett_244 : decode prog_10_method_33_code 244 = .ok (.if_icmp .ne 37, 3) := by decide +kernel
theorem d_Mod_sett_247 : decode prog_10_method_33_code 247 = .ok (.aload_n 0, 1) := by decide +kernel
theorem d_Mod_sett_248 : decode prog_10_method_33_code 248 = .ok (.getfield 71, 3) := by decide +kernel
theorem d_Mod_sett_251 : decode prog_10_method_33_code 251 = .ok (.iload_n 3, 1) := by decide +kernel
theorem d_Mod_sett_252 : decode prog_10_method_33_code 252 = .ok (.iconst 0, 1) := by decide +kernel
theorem d_Mod_sett_253 : decode prog_10_method_33_code 253 = .ok (.bastore, 1) := by decide +kernel
theorem d_Mod_sett_254 : decode prog_10_method_33_code 254 = .ok (.aload_n 0, 1) := by decide +kernel
theorem d_Mod_sett_255 : decode prog_10_method_33_code 255 = .ok (.getfield 89, 3) := by decide +kernel
theorem d_Mod_sett_258 : decode prog_10_method_33_code 258 = .ok (.iload_n 3, 1) := by decide +kernel
theorem d_Mod_sett_259 : decode prog_10_method_33_code 259 = .ok (.iload_n 2, 1) := by decide +kernel
theorem d_Mod_sett_260 : decode prog_10_method_33_code 260 = .ok (.ifCond .ne 7, 3) := by decide +kernel
theorem d_Mod_sett_263 : decode prog_10_method_33_code 263 = .ok (.iconst 0, 1) := by decide +kernel
theorem d_Mod_sett_264 : decode prog_10_method_33_code 264 = .ok (.goto 9, 3) := by decide +kernel
theorem d_Mod_sett_267 : decode prog_10_method_33_code 267 = .ok (.aload_n 0, 1) := by decide +kernel
theorem d_Mod_sett_268 : decode prog_10_method_33_code 268 = .ok (.getfield 230, 3) := by decide +kernel
theorem d_Mod_sett_271 : decode prog_10_method_33_code 271 = .ok (.iload_n 2, 1) := by decide +kernel
theorem d_Mod_sett_272 : decode prog_10_method_33_code 272 = .ok (.iadd, 1) := by decide +kernel
theorem d_Mod_sett_273 : decode prog_10_method_33_code 273 = .ok (.iastore, 1) := by decide +kernel
theorem d_Mod_sett_274 : decode prog_10_method_33_code 274 = .ok (.aload_n 0, 1) := by decide +kernel
theorem d_Mod_sett_275 : decode prog_10_method_33_code 275 = .ok (.iload 5, 2) := by decide +kernel
theorem d_Mod_sett_277 : decode prog_10_method_33_code 277 = .ok (.invokevirtual 168, 3) := by decide +kernel
theorem d_Mod_sett_280 : decode prog_10_method_33_code 280 = .ok (.ireturn, 1) := by decide +kernel
theorem d_Mod_sett_281 : decode prog_10_method_33_code 281 = .ok (.aload_n 0, 1) := by decide +kernel
theorem d_Mod_sett_282 : decode prog_10_method_33_code 282 = .ok (.getfield 83, 3) := by decide +kernel
theorem d_Mod_sett_285 : decode prog_10_method_33_code 285 = .ok (.iload_n 3, 1) := by decide +kernel
theorem d_Mod_sett_286 : decode prog_10_method_33_code 286 = .ok (.dup2, 1) := by decide +kernel
theorem d_Mod_sett_287 : decode prog_10_method_33_code 287 = .ok (.iaload, 1) := by decide +kernel
theorem d_Mod_sett_288 : decode prog_10_method_33_code 288 = .ok (.iconst 1, 1) := by decide +kernel
theorem d_Mod_sett_289 : decode prog_10_method_33_code 289 = .ok (.isub, 1) := by decide +kernel
theorem d_Mod_sett_290 : decode prog_10_method_33_code 290 = .ok (.iastore, 1) := by decide +kernel
theorem d_Mod_sett_291 : decode prog_10_method_33_code 291 = .ok (.iload 6, 2) := by decide +kernel
theorem d_Mod_sett_293 : decode prog_10_method_33_code 293 = .ok (.iconst 1, 1) := by decide +kernel
theorem d_Mod_sett_294 : decode prog_10_method_33_code 294 = .ok (.if_icmp .ne 14, 3) := by decide +kernel
theorem d_Mod_sett_297 : decode prog_10_method_33_code 297 = .ok (.aload_n 0, 1) := by decide +kernel
theorem d_Mod_sett_298 : decode prog_10_method_33_code 298 = .ok (.getfield 86, 3) := by decide +kernel
theorem d_Mod_sett_301 : decode prog_10_method_33_code 301 = .ok (.iload_n 3, 1) := by decide +kernel
theorem d_Mod_sett_302 : decode prog_10_method_33_code 302 = .ok (.iconst (-1), 1) := by decide +kernel
theorem d_Mod_sett_303 : decode prog_10_method_33_code 303 = .ok (.iastore, 1) := by decide +kernel
theorem d_Mod_sett_304 : decode prog_10_method_33_code 304 = .ok (.aload_n 0, 1) := by decide +kernel
theorem d_Mod_sett_305 : decode prog_10_method_33_code 305 = .ok (.invokevirtual 214, 3) := by decide +kernel
theorem d_Mod_sett_308 : decode prog_10_method_33_code 308 = .ok (.aload_n 0, 1) := by decide +kernel
theorem d_Mod_sett_309 : decode prog_10_method_33_code 309 = .ok (.iload 6, 2) := by decide +kernel
theorem d_Mod_sett_311 : decode prog_10_method_33_code 311 = .ok (.iconst 1, 1) := by decide +kernel
theorem d_Mod_sett_312 : decode prog_10_method_33_code 312 = .ok (.isub, 1) := by decide +kernel
theorem d_Mod_sett_313 : decode prog_10_method_33_code 313 = .ok (.invokevirtual 168, 3) := by decide +kernel
theorem d_Mod_sett_316 : decode prog_10_method_33_code 316 = .ok (.ireturn, 1) := by decide +kernel
theorem d_Mod_call_0 : decode prog_10_method_34_code 0 = .ok (.iload_n 1, 1) := by decide +kernel
theorem d_Mod_call_1 : decode prog_10_method_34_code 1 = .ok (.iconst 0, 1) := by decide +kernel
theorem d_Mod_call_2 : decode prog_10_method_34_code 2 = .ok (.aload_n 0, 1) := by decide +kernel
theorem d_Mod_call_3 : decode prog_10_method_34_code 3 = .ok (.getfield 144, 3) := by decide +kernel
theorem d_Mod_call_6 : decode prog_10_method_34_code 6 = .ok (.iconst 1, 1) := by decide +kernel
theorem d_Mod_call_7 : decode prog_10_method_34_code 7 = .ok (.isub, 1) := by decide +kernel
theorem d_Mod_call_8 : decode prog_10_method_34_code 8 = .ok (.invokestatic 157, 3) := by decide +kernel
theorem d_Mod_call_11 : decode prog_10_method_34_code 11 = .ok (.ifCond .eq 23, 3) := by decide +kernel
theorem d_Mod_call_14 : decode prog_10_method_34_code 14 = .ok (.aload_n 0, 1) := by decide +kernel
theorem d_Mod_call_15 : decode prog_10_method_34_code 15 = .ok (.getfield 31, 3) := by decide +kernel
theorem d_Mod_call_18 : decode prog_10_method_34_code 18 = .ok (.iload_n 1, 1) := by decide +kernel
theorem d_Mod_call_19 : decode prog_10_method_34_code 19 = .ok (.iaload, 1) := by decide +kernel
theorem d_Mod_call_20 : decode prog_10_method_34_code 20 = .ok (.iconst 3, 1) := by decide +kernel
theorem d_Mod_call_21 : decode prog_10_method_34_code 21 = .ok (.if_icmp .eq 13, 3) := by decide +kernel
theorem d_Mod_call_24 : decode prog_10_method_34_code 24 = .ok (.iload_n 2, 1) := by decide +kernel
theorem d_Mod_call_25 : decode prog_10_method_34_code 25 = .ok (.iconst 1, 1) := by decide +kernel
theorem d_Mod_call_26 : decode prog_10_method_34_code 26 = .ok (.bipush 99, 2) := by decide +kernel
theorem d_Mod_call_28 : decode prog_10_method_34_code 28 = .ok (.invokestatic 157, 3) := by decide +kernel
theorem d_Mod_call_31 : decode prog_10_method_34_code 31 = .ok (.ifCond .ne 5, 3) := by decide +kernel
theorem d_Mod_call_34 : decode prog_10_method_34_code 34 = .ok (.iconst (-1), 1) := by decide +kernel
theorem d_Mod_call_35 : decode prog_10_method_34_code 35 = .ok (.ireturn, 1) := by decide +kernel
theorem d_Mod_call_36 : decode prog_10_method_34_code 36 = .ok (.aload_n 0, 1) := by decide +kernel
theorem d_Mod_call_37 : decode prog_10_method_34_code 37 = .ok (.getfield 37, 3) := by decide +kernel
theorem d_Mod_call_40 : decode prog_10_method_34_code 40 = .ok (.iload_n 1, 1) := by decide +kernel
theorem d_Mod_call_41 : decode prog_10_method_34_code 41 = .ok (.iaload, 1) := by decide +kernel
theorem d_Mod_call_42 : decode prog_10_method_34_code 42 = .ok (.iconst 4, 1) := by decide +kernel
theorem d_Mod_call_43 : decode prog_10_method_34_code 43 = .ok (.if_icmp .ne 6, 3) := by decide +kernel
theorem d_Mod_call_46 : decode prog_10_method_34_code 46 = .ok (.bipush (-2), 2) := by decide +kernel
theorem d_Mod_call_48 : decode prog_10_method_34_code 48 = .ok (.ireturn, 1) := by decide +kernel
theorem d_Mod_call_49 : decode prog_10_method_34_code 49 = .ok (.aload_n 0, 1) := by decide +kernel
theorem d_Mod_call_50 : decode prog_10_method_34_code 50 = .ok (.getfield 64, 3) := by decide +kernel
theorem d_Mod_call_53 : decode prog_10_method_34_code 53 = .ok (.iconst 4, 1) := by decide +kernel
theorem d_Mod_call_54 : decode prog_10_method_34_code 54 = .ok (.iload_n 1, 1) := by decide +kernel
theorem d_Mod_call_55 : decode prog_10_method_34_code 55 = .ok (.imul, 1) := by decide +kernel
theorem d_Mod_call_56 : decode prog_10_method_34_code 56 = .ok (.aload_n 0, 1) := by decide +kernel
theorem d_Mod_call_57 : decode prog_10_method_34_code 57 = .ok (.getfield 37, 3) := by decide +kernel
theorem d_Mod_call_60 : decode prog_10_method_34_code 60 = .ok (.iload_n 1, 1) := by decide +kernel
theorem d_Mod_call_61 : decode prog_10_method_34_code 61 = .ok (.dup2, 1) := by decide +kernel
theorem d_Mod_call_62 : decode prog_10_method_34_code 62 = .ok (.iaload, 1) := by decide +kernel
theorem d_Mod_call_63 : decode prog_10_method_34_code 63 = .ok (.dup_x2, 1) := by decide +kernel
theorem d_Mod_call_64 : decode prog_10_method_34_code 64 = .ok (.iconst 1, 1) := by decide +kernel
theorem d_Mod_call_65 : decode prog_10_method_34_code 65 = .ok (.iadd, 1) := by decide +kernel
theorem d_Mod_call_66 : decode prog_10_method_34_code 66 = .ok (.iastore, 1) := by decide +kernel
theorem d_Mod_call_67 : decode prog_10_method_34_code 67 = .ok (.iadd, 1) := by decide +kernel
theorem d_Mod_call_68 : decode prog_10_method_34_code 68 = .ok (.iload_n 2, 1) := by decide +kernel
theorem d_Mod_call_69 : decode prog_10_method_34_code 69 = .ok (.iastore, 1) := by decide +kernel
theorem d_Mod_call_70 : decode prog_10_method_34_code 70 = .ok (.aload_n 0, 1) := by decide +kernel
theorem d_Mod_call_71 : decode prog_10_method_34_code 71 = .ok (.iload_n 1, 1) := by decide +kernel
theorem d_Mod_call_72 : decode prog_10_method_34_code 72 = .ok (.invokevirtual 243, 3) := by decide +kernel
theorem d_Mod_call_75 : decode prog_10_method_34_code 75 = .ok (.aload_n 0, 1) := by decide +kernel
theorem d_Mod_call_76 : decode prog_10_method_34_code 76 = .ok (.aload_n 0, 1) := by decide +kernel
theorem d_Mod_call_77 : decode prog_10_method_34_code 77 = .ok (.getfield 37, 3) := by decide +kernel
theorem d_Mod_call_80 : decode prog_10_method_34_code 80 = .ok (.iload_n 1, 1) := by decide +kernel
theorem d_Mod_call_81 : decode prog_10_method_34_code 81 = .ok (.iaload, 1) := by decide +kernel
theorem d_Mod_call_82 : decode prog_10_method_34_code 82 = .ok (.invokevirtual 168, 3) := by decide +kernel
theorem d_Mod_call_85 : decode prog_10_method_34_code 85 = .ok (.ireturn, 1) := by decide +kernel
theorem d_Mod_firstOf_0 : decode prog_10_method_36_code 0 = .ok (.iconst (-1), 1) := by decide +kernel
theorem d_Mod_firstOf_1 : decode prog_10_method_36_code 1 = .ok (.istore_n 2, 1) := by decide +kernel
theorem d_Mod_firstOf_2 : decode prog_10_method_36_code 2 = .ok (.iconst 0, 1) := by decide +kernel
theorem d_Mod_firstOf_3 : decode prog_10_method_36_code 3 = .ok (.istore_n 3, 1) := by decide +kernel
theorem d_Mod_firstOf_4 : decode prog_10_method_36_code 4 = .ok (.iload_n 3, 1) := by decide +kernel
theorem d_Mod_firstOf_5 : decode prog_10_method_36_code 5 = .ok (.bipush 8, 2) := by decide +kernel
theorem d_Mod_firstOf_7 : decode prog_10_method_36_code 7 = .ok (.if_icmp .ge 49, 3) := by decide +kernel
theorem d_Mod_firstOf_10 : decode prog_10_method_36_code 10 = .ok (.aload_n 0, 1) := by decide +kernel
theorem d_Mod_firstOf_11 : decode prog_10_method_36_code 11 = .ok (.getfield 104, 3) := by decide +kernel
theorem d_Mod_firstOf_14 : decode prog_10_method_36_code 14 = .ok (.iload_n 3, 1) := by decide +kernel
theorem d_Mod_firstOf_15 : decode prog_10_method_36_code 15 = .ok (.iaload, 1) := by decide +kernel
theorem d_Mod_firstOf_16 : decode prog_10_method_36_code 16 = .ok (.ifCond .ne 34, 3) := by decide +kernel
theorem d_Mod_firstOf_19 : decode prog_10_method_36_code 19 = .ok (.aload_n 0, 1) := by decide +kernel
theorem d_Mod_firstOf_20 : decode prog_10_method_36_code 20 = .ok (.getfield 113, 3) := by decide +kernel
theorem d_Mod_firstOf_23 : decode prog_10_method_36_code 23 = .ok (.iload_n 3, 1) := by decide +kernel
theorem d_Mod_firstOf_24 : decode prog_10_method_36_code 24 = .ok (.iaload, 1) := by decide +kernel
theorem d_Mod_firstOf_25 : decode prog_10_method_36_code 25 = .ok (.iload_n 1, 1) := by decide +kernel
theorem d_Mod_firstOf_26 : decode prog_10_method_36_code 26 = .ok (.if_icmp .ne 24, 3) := by decide +kernel
theorem d_Mod_firstOf_29 : decode prog_10_method_36_code 29 = .ok (.iload_n 2, 1) := by decide +kernel
theorem d_Mod_firstOf_30 : decode prog_10_method_36_code 30 = .ok (.ifCond .lt 18, 3) := by decide +kernel
theorem d_Mod_firstOf_33 : decode prog_10_method_36_code 33 = .ok (.aload_n 0, 1) := by decide +kernel
theorem d_Mod_firstOf_34 : decode prog_10_method_36_code 34 = .ok (.getfield 122, 3) := by decide +kernel
theorem d_Mod_firstOf_37 : decode prog_10_method_36_code 37 = .ok (.iload_n 3, 1) := by decide +kernel
theorem d_Mod_firstOf_38 : decode prog_10_method_36_code 38 = .ok (.iaload, 1) := by decide +kernel
theorem d_Mod_firstOf_39 : decode prog_10_method_36_code 39 = .ok (.aload_n 0, 1) := by decide +kernel
theorem d_Mod_firstOf_40 : decode prog_10_method_36_code 40 = .ok (.getfield 122, 3) := by decide +kernel
theorem d_Mod_firstOf_43 : decode prog_10_method_36_code 43 = .ok (.iload_n 2, 1) := by decide +kernel
theorem d_Mod_firstOf_44 : decode prog_10_method_36_code 44 = .ok (.iaload, 1) := by decide +kernel
theorem d_Mod_firstOf_45 : decode prog_10_method_36_code 45 = .ok (.if_icmp .ge 5, 3) := by decide +kernel
theorem d_Mod_firstOf_48 : decode prog_10_method_36_code 48 = .ok (.iload_n 3, 1) := by decide +kernel
theorem d_Mod_firstOf_49 : decode prog_10_method_36_code 49 = .ok (.istore_n 2, 1) := by decide +kernel
theorem d_Mod_firstOf_50 : decode prog_10_method_36_code 50 = .ok (.iinc 3 1, 3) := by decide +kernel
theorem d_Mod_firstOf_53 : decode prog_10_method_36_code 53 = .ok (.goto (-49), 3) := by decide +kernel
theorem d_Mod_firstOf_56 : decode prog_10_method_36_code 56 = .ok (.iload_n 2, 1) := by decide +kernel
theorem d_Mod_firstOf_57 : decode prog_10_method_36_code 57 = .ok (.ireturn, 1) := by decide +kernel
theorem d_Mod_over_0 : decode prog_10_method_37_code 0 = .ok (.aload_n 0, 1) := by decide +kernel
theorem d_Mod_over_1 : decode prog_10_method_37_code 1 = .ok (.getfield 104, 3) := by decide +kernel
theorem d_Mod_over_4 : decode prog_10_method_37_code 4 = .ok (.iload_n 1, 1) := by decide +kernel
theorem d_Mod_over_5 : decode prog_10_method_37_code 5 = .ok (.iload_n 2, 1) := by decide +kernel
theorem d_Mod_over_6 : decode prog_10_method_37_code 6 = .ok (.iastore, 1) := by decide +kernel
theorem d_Mod_over_7 : decode prog_10_method_37_code 7 = .ok (.aload_n 0, 1) := by decide +kernel
theorem d_Mod_over_8 : decode prog_10_method_37_code 8 = .ok (.getfield 107, 3) := by decide +kernel
theorem d_Mod_over_11 : decode prog_10_method_37_code 11 = .ok (.iload_n 1, 1) := by decide +kernel
theorem d_Mod_over_12 : decode prog_10_method_37_code 12 = .ok (.iload_n 3, 1) := by decide +kernel
theorem d_Mod_over_13 : decode prog_10_method_37_code 13 = .ok (.iastore, 1) := by decide +kernel
theorem d_Mod_over_14 : decode prog_10_method_37_code 14 = .ok (.aload_n 0, 1) := by decide +kernel
theorem d_Mod_over_15 : decode prog_10_method_37_code 15 = .ok (.dup, 1) := by decide +kernel
theorem d_Mod_over_16 : decode prog_10_method_37_code 16 = .ok (.getfield 250, 3) := by decide +kernel
theorem d_Mod_over_19 : decode prog_10_method_37_code 19 = .ok (.iconst 1, 1) := by decide +kernel
theorem d_Mod_over_20 : decode prog_10_method_37_code 20 = .ok (.iadd, 1) := by decide +kernel
theorem d_Mod_over_21 : decode prog_10_method_37_code 21 = .ok (.putfield 250, 3) := by decide +kernel
theorem d_Mod_over_24 : decode prog_10_method_37_code 24 = .ok (.aload_n 0, 1) := by decide +kernel
theorem d_Mod_over_25 : decode prog_10_method_37_code 25 = .ok (.getfield 119, 3) := by decide +kernel
theorem d_Mod_over_28 : decode prog_10_method_37_code 28 = .ok (.iload_n 1, 1) := by decide +kernel
theorem d_Mod_over_29 : decode prog_10_method_37_code 29 = .ok (.iaload, 1) := by decide +kernel
theorem d_Mod_over_30 : decode prog_10_method_37_code 30 = .ok (.ifCond .lt 13, 3) := by decide +kernel
theorem d_Mod_over_33 : decode prog_10_method_37_code 33 = .ok (.aload_n 0, 1) := by decide +kernel
theorem d_Mod_over_34 : decode prog_10_method_37_code 34 = .ok (.aload_n 0, 1) := by decide +kernel
theorem d_Mod_over_35 : decode prog_10_method_37_code 35 = .ok (.getfield 119, 3) := by decide +kernel
theorem d_Mod_over_38 : decode prog_10_method_37_code 38 = .ok (.iload_n 1, 1) := by decide +kernel
theorem d_Mod_over_39 : decode prog_10_method_37_code 39 = .ok (.iaload, 1) := by decide +kernel
theorem d_Mod_over_40 : decode prog_10_method_37_code 40 = .ok (.invokevirtual 253, 3) := by decide +kernel
theorem d_Mod_over_43 : decode prog_10_method_37_code 43 = .ok (.return_, 1) := by decide +kernel
theorem d_Mod_finish_0 : decode prog_10_method_38_code 0 = .ok (.aload_n 0, 1) := by decide +kernel
theorem d_Mod_finish_1 : decode prog_10_method_38_code 1 = .ok (.iload_n 1, 1) := by decide +kernel
theorem d_Mod_finish_2 : decode prog_10_method_38_code 2 = .ok (.invokevirtual 256, 3) := by decide +kernel
theorem d_Mod_finish_5 : decode prog_10_method_38_code 5 = .ok (.istore_n 3, 1) := by decide +kernel
theorem d_Mod_finish_6 : decode prog_10_method_38_code 6 = .ok (.iload_n 3, 1) := by decide +kernel
theorem d_Mod_finish_7 : decode prog_10_method_38_code 7 = .ok (.ifCond .ge 4, 3) := by decide +kernel
theorem d_Mod_finish_10 : decode prog_10_method_38_code 10 = .ok (.return_, 1) := by decide +kernel
theorem d_Mod_finish_11 : decode prog_10_method_38_code 11 = .ok (.aload_n 0, 1) := by decide +kernel
theorem d_Mod_finish_12 : decode prog_10_method_38_code 12 = .ok (.getfield 125, 3) := by decide +kernel
theorem d_Mod_finish_15 : decode prog_10_method_38_code 15 = .ok (.iload_n 3, 1) := by decide +kernel
theorem d_Mod_finish_16 : decode prog_10_method_38_code 16 = .ok (.baload, 1) := by decide +kernel
theorem d_Mod_finish_17 : decode prog_10_method_38_code 17 = .ok (.ifCond .eq 13, 3) := by decide +kernel
theorem d_Mod_finish_20 : decode prog_10_method_38_code 20 = .ok (.aload_n 0, 1) := by decide +kernel
theorem d_Mod_finish_21 : decode prog_10_method_38_code 21 = .ok (.iload_n 3, 1) := by decide +kernel
theorem d_Mod_finish_22 : decode prog_10_method_38_code 22 = .ok (.iconst 5, 1) := by decide +kernel
theorem d_Mod_finish_23 : decode prog_10_method_38_code 23 = .ok (.iconst 0, 1) := by decide +kernel
theorem d_Mod_finish_24 : decode prog_10_method_38_code 24 = .ok (.invokevirtual 259, 3) := by decide +kernel
theorem d_Mod_finish_27 : decode prog_10_method_38_code 27 = .ok (.goto 77, 3) := by decide +kernel
theorem d_Mod_finish_30 : decode prog_10_method_38_code 30 = .ok (.iload_n 2, 1) := by decide +kernel
theorem d_Mod_finish_31 : decode prog_10_method_38_code 31 = .ok (.ifCond .eq 18, 3) := by decide +kernel
theorem d_Mod_finish_34 : decode prog_10_method_38_code 34 = .ok (.aload_n 0, 1) := by decide +kernel
theorem d_Mod_finish_35 : decode prog_10_method_38_code 35 = .ok (.iload_n 3, 1) := by decide +kernel
theorem d_Mod_finish_36 : decode prog_10_method_38_code 36 = .ok (.iconst 1, 1) := by decide +kernel
theorem d_Mod_finish_37 : decode prog_10_method_38_code 37 = .ok (.aload_n 0, 1) := by decide +kernel
theorem d_Mod_finish_38 : decode prog_10_method_38_code 38 = .ok (.getfield 116, 3) := by decide +kernel
theorem d_Mod_finish_41 : decode prog_10_method_38_code 41 = .ok (.iload_n 3, 1) := by decide +kernel
theorem d_Mod_finish_42 : decode prog_10_method_38_code 42 = .ok (.iaload, 1) := by decide +kernel
theorem d_Mod_finish_43 : decode prog_10_method_38_code 43 = .ok (.invokevirtual 259, 3) := by decide +kernel
theorem d_Mod_finish_46 : decode prog_10_method_38_code 46 = .ok (.goto 58, 3) := by decide +kernel
theorem d_Mod_finish_49 : decode prog_10_method_38_code 49 = .ok (.aload_n 0, 1) := by decide +kernel
theorem d_Mod_finish_50 : decode prog_10_method_38_code 50 = .ok (.getfield 83, 3) := by decide +kernel
theorem d_Mod_finish_53 : decode prog_10_method_38_code 53 = .ok (.iload_n 1, 1) := by decide +kernel
theorem d_Mod_finish_54 : decode prog_10_method_38_code 54 = .ok (.iaload, 1) := by decide +kernel
theorem d_Mod_finish_55 : decode prog_10_method_38_code 55 = .ok (.iconst 5, 1) := by decide +kernel
theorem d_Mod_finish_56 : decode prog_10_method_38_code 56 = .ok (.iand, 1) := by decide +kernel
theorem d_Mod_finish_57 : decode prog_10_method_38_code 57 = .ok (.iconst 5, 1) := by decide +kernel
theorem d_Mod_finish_58 : decode prog_10_method_38_code 58 = .ok (.if_icmp .ne 39, 3) := by decide +kernel
theorem d_Mod_finish_61 : decode prog_10_method_38_code 61 = .ok (.aload_n 0, 1) := by decide +kernel
theorem d_Mod_finish_62 : decode prog_10_method_38_code 62 = .ok (.getfield 128, 3) := by decide +kernel
theorem d_Mod_finish_65 : decode prog_10_method_38_code 65 = .ok (.iload_n 3, 1) := by decide +kernel
theorem d_Mod_finish_66 : decode prog_10_method_38_code 66 = .ok (.baload, 1) := by decide +kernel
theorem d_Mod_finish_67 : decode prog_10_method_38_code 67 = .ok (.ifCond .ne 30, 3) := by decide +kernel
theorem d_Mod_finish_70 : decode prog_10_method_38_code 70 = .ok (.aload_n 0, 1) := by decide +kernel
theorem d_Mod_finish_71 : decode prog_10_method_38_code 71 = .ok (.getfield 128, 3) := by decide +kernel
theorem d_Mod_finish_74 : decode prog_10_method_38_code 74 = .ok (.iload_n 3, 1) := by decide +kernel
theorem d_Mod_finish_75 : decode prog_10_method_38_code 75 = .ok (.iconst 1, 1) := by decide +kernel
theorem d_Mod_finish_76 : decode prog_10_method_38_code 76 = .ok (.bastore, 1) := by decide +kernel
theorem d_Mod_finish_77 : decode prog_10_method_38_code 77 = .ok (.aload_n 0, 1) := by decide +kernel
theorem d_Mod_finish_78 : decode prog_10_method_38_code 78 = .ok (.getfield 122, 3) := by decide +kernel
theorem d_Mod_finish_81 : decode prog_10_method_38_code 81 = .ok (.iload_n 3, 1) := by decide +kernel
theorem d_Mod_finish_82 : decode prog_10_method_38_code 82 = .ok (.aload_n 0, 1) := by decide +kernel
theorem d_Mod_finish_83 : decode prog_10_method_38_code 83 = .ok (.dup, 1) := by decide +kernel
theorem d_Mod_finish_84 : decode prog_10_method_38_code 84 = .ok (.getfield 171, 3) := by decide +kernel
theorem d_Mod_finish_87 : decode prog_10_method_38_code 87 = .ok (.iconst 1, 1) := by decide +kernel
theorem d_Mod_finish_88 : decode prog_10_method_38_code 88 = .ok (.iadd, 1) := by decide +kernel
theorem d_Mod_finish_89 : decode prog_10_method_38_code 89 = .ok (.dup_x1, 1) := by decide +kernel
theorem d_Mod_finish_90 : decode prog_10_method_38_code 90 = .ok (.putfield 171, 3) := by decide +kernel
theorem d_Mod_finish_93 : decode prog_10_method_38_code 93 = .ok (.iastore, 1) := by decide +kernel
theorem d_Mod_finish_94 : decode prog_10_method_38_code 94 = .ok (.goto 10, 3) := by decide +kernel
theorem d_Mod_finish_97 : decode prog_10_method_38_code 97 = .ok (.aload_n 0, 1) := by decide +kernel
theorem d_Mod_finish_98 : decode prog_10_method_38_code 98 = .ok (.iload_n 3, 1) := by decide +kernel
theorem d_Mod_finish_99 : decode prog_10_method_38_code 99 = .ok (.iconst 4, 1) := by decide +kernel
theorem d_Mod_finish_100 : decode prog_10_method_38_code 100 = .ok (.iconst 0, 1) := by decide +kernel
theorem d_Mod_finish_101 : decode prog_10_method_38_code 101 = .ok (.invokevirtual 259, 3) := by decide +kernel
theorem d_Mod_finish_104 : decode prog_10_method_38_code 104 = .ok (.return_, 1) := by decide +kernel
theorem d_Mod_level_0 : decode prog_10_method_35_code 0 = .ok (.aload_n 0, 1) := by decide +kernel
theorem d_Mod_level_1 : decode prog_10_method_35_code 1 = .ok (.getfield 137, 3) := by decide +kernel
theorem d_Mod_level_4 : decode prog_10_method_35_code 4 = .ok (.ifCond .ge 6, 3) := by decide +kernel
theorem d_Mod_level_7 : decode prog_10_method_35_code 7 = .ok (.bipush (-3), 2) := by decide +kernel
theorem d_Mod_level_9 : decode prog_10_method_35_code 9 = .ok (.ireturn, 1) := by decide +kernel
theorem d_Mod_level_10 : decode prog_10_method_35_code 10 = .ok (.iload_n 1, 1) := by decide +kernel
theorem d_Mod_level_11 : decode prog_10_method_35_code 11 = .ok (.iconst 0, 1) := by decide +kernel
theorem d_Mod_level_12 : decode prog_10_method_35_code 12 = .ok (.iconst 1, 1) := by decide +kernel
theorem d_Mod_level_13 : decode prog_10_method_35_code 13 = .ok (.invokestatic 157, 3) := by decide +kernel
theorem d_Mod_level_16 : decode prog_10_method_35_code 16 = .ok (.ifCond .ne 5, 3) := by decide +kernel
theorem d_Mod_level_19 : decode prog_10_method_35_code 19 = .ok (.iconst (-1), 1) := by decide +kernel
theorem d_Mod_level_20 : decode prog_10_method_35_code 20 = .ok (.ireturn, 1) := by decide +kernel
theorem d_Mod_level_21 : decode prog_10_method_35_code 21 = .ok (.aload_n 0, 1) := by decide +kernel
theorem d_Mod_level_22 : decode prog_10_method_35_code 22 = .ok (.getfield 177, 3) := by decide +kernel
theorem d_Mod_level_25 : decode prog_10_method_35_code 25 = .ok (.istore_n 2, 1) := by decide +kernel
theorem d_Mod_level_26 : decode prog_10_method_35_code 26 = .ok (.aload_n 0, 1) := by decide +kernel
theorem d_Mod_level_27 : decode prog_10_method_35_code 27 = .ok (.iload_n 1, 1) := by decide +kernel
theorem d_Mod_level_28 : decode prog_10_method_35_code 28 = .ok (.putfield 177, 3) := by decide +kernel
theorem d_Mod_level_31 : decode prog_10_method_35_code 31 = .ok (.iload_n 1, 1) := by decide +kernel
theorem d_Mod_level_32 : decode prog_10_method_35_code 32 = .ok (.ifCond .ne 116, 3) := by decide +kernel
theorem d_Mod_level_35 : decode prog_10_method_35_code 35 = .ok (.aload_n 0, 1) := by decide +kernel
theorem d_Mod_level_36 : decode prog_10_method_35_code 36 = .ok (.getfield 147, 3) := by decide +kernel
theorem d_Mod_level_39 : decode prog_10_method_35_code 39 = .ok (.ifCond .le 88, 3) := by decide +kernel
theorem d_Mod_level_42 : decode prog_10_method_35_code 42 = .ok (.aload_n 0, 1) := by decide +kernel
theorem d_Mod_level_43 : decode prog_10_method_35_code 43 = .ok (.getfield 131, 3) := by decide +kernel
theorem d_Mod_level_46 : decode prog_10_method_35_code 46 = .ok (.iconst 0, 1) := by decide +kernel
theorem d_Mod_level_47 : decode prog_10_method_35_code 47 = .ok (.iaload, 1) := by decide +kernel
theorem d_Mod_level_48 : decode prog_10_method_35_code 48 = .ok (.istore_n 3, 1) := by decide +kernel
theorem d_Mod_level_49 : decode prog_10_method_35_code 49 = .ok (.aload_n 0, 1) := by decide +kernel
theorem d_Mod_level_50 : decode prog_10_method_35_code 50 = .ok (.getfield 134, 3) := by decide +kernel
theorem d_Mod_level_53 : decode prog_10_method_35_code 53 = .ok (.iconst 0, 1) := by decide +kernel
theorem d_Mod_level_54 : decode prog_10_method_35_code 54 = .ok (.baload, 1) := by decide +kernel
theorem d_Mod_level_55 : decode prog_10_method_35_code 55 = .ok (.istore 4, 2) := by decide +kernel
theorem d_Mod_level_57 : decode prog_10_method_35_code 57 = .ok (.aload_n 0, 1) := by decide +kernel
theorem d_Mod_level_58 : decode prog_10_method_35_code 58 = .ok (.dup, 1) := by decide +kernel
theorem d_Mod_level_59 : decode prog_10_method_35_code 59 = .ok (.getfield 147, 3) := by decide +kernel
theorem d_Mod_level_62 : decode prog_10_method_35_code 62 = .ok (.iconst 1, 1) := by decide +kernel
theorem d_Mod_level_63 : decode prog_10_method_35_code 63 = .ok (.isub, 1) := by decide +kernel
theorem d_Mod_level_64 : decode prog_10_method_35_code 64 = .ok (.putfield 147, 3) := by decide +kernel
theorem d_Mod_level_67 : decode prog_10_method_35_code 67 = .ok (.iconst 0, 1) := by decide +kernel
theorem d_Mod_level_68 : decode prog_10_method_35_code 68 = .ok (.istore 5, 2) := by decide +kernel
theorem d_Mod_level_70 : decode prog_10_method_35_code 70 = .ok (.iload 5, 2) := by decide +kernel
theorem d_Mod_level_72 : decode prog_10_method_35_code 72 = .ok (.aload_n 0, 1) := by decide +kernel
theorem d_Mod_level_73 : decode prog_10_method_35_code 73 = .ok (.getfield 147, 3) := by decide +kernel
theorem d_Mod_level_76 : decode prog_10_method_35_code 76 = .ok (.if_icmp .ge 41, 3) := by decide +kernel
theorem d_Mod_level_79 : decode prog_10_method_35_code 79 = .ok (.aload_n 0, 1) := by decide +kernel
theorem d_Mod_level_80 : decode prog_10_method_35_code 80 = .ok (.getfield 131, 3) := by decide +kernel
theorem d_Mod_level_83 : decode prog_10_method_35_code 83 = .ok (.iload 5, 2) := by decide +kernel
theorem d_Mod_level_85 : decode prog_10_method_35_code 85 = .ok (.aload_n 0, 1) := by decide +kernel
theorem d_Mod_level_86 : decode prog_10_method_35_code 86 = .ok (.getfield 131, 3) := by decide +kernel
theorem d_Mod_level_89 : decode prog_10_method_35_code 89 = .ok (.iload 5, 2) := by decide +kernel
theorem d_Mod_level_91 : decode prog_10_method_35_code 91 = .ok (.iconst 1, 1) := by decide +kernel
theorem d_Mod_level_92 : decode prog_10_method_35_code 92 = .ok (.iadd, 1) := by decide +kernel
theorem d_Mod_level_93 : decode prog_10_method_35_code 93 = .ok (.iaload, 1) := by decide +kernel
theorem d_Mod_level_94 : decode prog_10_method_35_code 94 = .ok (.iastore, 1) := by decide +kernel
theorem d_Mod_level_95 : decode prog_10_method_35_code 95 = .ok (.aload_n 0, 1) := by decide +kernel
theorem d_Mod_level_96 : decode prog_10_method_35_code 96 = .ok (.getfield 134, 3) := by decide +kernel
theorem d_Mod_level_99 : decode prog_10_method_35_code 99 = .ok (.iload 5, 2) := by decide +kernel
theorem d_Mod_level_101 : decode prog_10_method_35_code 101 = .ok (.aload_n 0, 1) := by decide +kernel
theorem d_Mod_level_102 : decode prog_10_method_35_code 102 = .ok (.getfield 134, 3) := by decide +kernel
theorem d_Mod_level_105 : decode prog_10_method_35_code 105 = .ok (.iload 5, 2) := by decide +kernel
theorem d_Mod_level_107 : decode prog_10_method_35_code 107 = .ok (.iconst 1, 1) := by decide +kernel
theorem d_Mod_level_108 : decode prog_10_method_35_code 108 = .ok (.iadd, 1) := by decide +kernel
theorem d_Mod_level_109 : decode prog_10_method_35_code 109 = .ok (.baload, 1) := by decide +kernel
theorem d_Mod_level_110 : decode prog_10_method_35_code 110 = .ok (.bastore, 1) := by decide +kernel
theorem d_Mod_level_111 : decode prog_10_method_35_code 111 = .ok (.iinc 5 1, 3) := by decide +kernel
theorem d_Mod_level_114 : decode prog_10_method_35_code 114 = .ok (.goto (-44), 3) := by decide +kernel
theorem d_Mod_level_117 : decode prog_10_method_35_code 117 = .ok (.aload_n 0, 1) := by decide +kernel
theorem d_Mod_level_118 : decode prog_10_method_35_code 118 = .ok (.iload_n 3, 1) := by decide +kernel
theorem d_Mod_level_119 : decode prog_10_method_35_code 119 = .ok (.iload 4, 2) := by decide +kernel
theorem d_Mod_level_121 : decode prog_10_method_35_code 121 = .ok (.invokevirtual 246, 3) := by decide +kernel
theorem d_Mod_level_124 : decode prog_10_method_35_code 124 = .ok (.goto (-89), 3) := by decide +kernel
theorem d_Mod_level_127 : decode prog_10_method_35_code 127 = .ok (.iconst 0, 1) := by decide +kernel
theorem d_Mod_level_128 : decode prog_10_method_35_code 128 = .ok (.istore_n 3, 1) := by decide +kernel
theorem d_Mod_level_129 : decode prog_10_method_35_code 129 = .ok (.iload_n 3, 1) := by decide +kernel
theorem d_Mod_level_130 : decode prog_10_method_35_code 130 = .ok (.aload_n 0, 1) := by decide +kernel
theorem d_Mod_level_131 : decode prog_10_method_35_code 131 = .ok (.getfield 144, 3) := by decide +kernel
theorem d_Mod_level_134 : decode prog_10_method_35_code 134 = .ok (.if_icmp .ge 14, 3) := by decide +kernel
theorem d_Mod_level_137 : decode prog_10_method_35_code 137 = .ok (.aload_n 0, 1) := by decide +kernel
theorem d_Mod_level_138 : decode prog_10_method_35_code 138 = .ok (.iload_n 3, 1) := by decide +kernel
theorem d_Mod_level_139 : decode prog_10_method_35_code 139 = .ok (.invokevirtual 243, 3) := by decide +kernel
theorem d_Mod_level_142 : decode prog_10_method_35_code 142 = .ok (.iinc 3 1, 3) := by decide +kernel
theorem d_Mod_level_145 : decode prog_10_method_35_code 145 = .ok (.goto (-16), 3) := by decide +kernel
theorem d_Mod_level_148 : decode prog_10_method_35_code 148 = .ok (.aload_n 0, 1) := by decide +kernel
theorem d_Mod_level_149 : decode prog_10_method_35_code 149 = .ok (.iload_n 2, 1) := by decide +kernel
theorem d_Mod_level_150 : decode prog_10_method_35_code 150 = .ok (.invokevirtual 168, 3) := by decide +kernel
theorem d_Mod_level_153 : decode prog_10_method_35_code 153 = .ok (.ireturn, 1) := by decide +kernel
theorem d_Mod_interrupt_0 : decode prog_10_method_39_code 0 = .ok (.iload_n 1, 1) := by decide +kernel
theorem d_Mod_interrupt_1 : decode prog_10_method_39_code 1 = .ok (.iconst 0, 1) := by decide +kernel
theorem d_Mod_interrupt_2 : decode prog_10_method_39_code 2 = .ok (.bipush 15, 2) := by decide +kernel
theorem d_Mod_interrupt_4 : decode prog_10_method_39_code 4 = .ok (.invokestatic 157, 3) := by decide +kernel
theorem d_Mod_interrupt_7 : decode prog_10_method_39_code 7 = .ok (.ifCond .eq 22, 3) := by decide +kernel
theorem d_Mod_interrupt_10 : decode prog_10_method_39_code 10 = .ok (.aload_n 0, 1) := by decide +kernel
theorem d_Mod_interrupt_11 : decode prog_10_method_39_code 11 = .ok (.getfield 67, 3) := by decide +kernel
theorem d_Mod_interrupt_14 : decode prog_10_method_39_code 14 = .ok (.iload_n 1, 1) := by decide +kernel
theorem d_Mod_interrupt_15 : decode prog_10_method_39_code 15 = .ok (.baload, 1) := by decide +kernel
theorem d_Mod_interrupt_16 : decode prog_10_method_39_code 16 = .ok (.ifCond .eq 13, 3) := by decide +kernel
theorem d_Mod_interrupt_19 : decode prog_10_method_39_code 19 = .ok (.aload_n 0, 1) := by decide +kernel
theorem d_Mod_interrupt_20 : decode prog_10_method_39_code 20 = .ok (.getfield 77, 3) := by decide +kernel
theorem d_Mod_interrupt_23 : decode prog_10_method_39_code 23 = .ok (.iload_n 1, 1) := by decide +kernel
theorem d_Mod_interrupt_24 : decode prog_10_method_39_code 24 = .ok (.iaload, 1) := by decide +kernel
theorem d_Mod_interrupt_25 : decode prog_10_method_39_code 25 = .ok (.iconst 5, 1) := by decide +kernel
theorem d_Mod_interrupt_26 : decode prog_10_method_39_code 26 = .ok (.if_icmp .eq 5, 3) := by decide +kernel
theorem d_Mod_interrupt_29 : decode prog_10_method_39_code 29 = .ok (.iconst (-1), 1) := by decide +kernel
theorem d_Mod_interrupt_30 : decode prog_10_method_39_code 30 = .ok (.ireturn, 1) := by decide +kernel
theorem d_Mod_interrupt_31 : decode prog_10_method_39_code 31 = .ok (.aload_n 0, 1) := by decide +kernel
theorem d_Mod_interrupt_32 : decode prog_10_method_39_code 32 = .ok (.getfield 177, 3) := by decide +kernel
theorem d_Mod_interrupt_35 : decode prog_10_method_39_code 35 = .ok (.ifCond .ne 15, 3) := by decide +kernel
theorem d_Mod_interrupt_38 : decode prog_10_method_39_code 38 = .ok (.aload_n 0, 1) := by decide +kernel
theorem d_Mod_interrupt_39 : decode prog_10_method_39_code 39 = .ok (.iload_n 1, 1) := by decide +kernel
theorem d_Mod_interrupt_40 : decode prog_10_method_39_code 40 = .ok (.iload_n 2, 1) := by decide +kernel
theorem d_Mod_interrupt_41 : decode prog_10_method_39_code 41 = .ok (.invokevirtual 246, 3) := by decide +kernel
theorem d_Mod_interrupt_44 : decode prog_10_method_39_code 44 = .ok (.aload_n 0, 1) := by decide +kernel
theorem d_Mod_interrupt_45 : decode prog_10_method_39_code 45 = .ok (.iconst 1, 1) := by decide +kernel
theorem d_Mod_interrupt_46 : decode prog_10_method_39_code 46 = .ok (.invokevirtual 168, 3) := by decide +kernel
theorem d_Mod_interrupt_49 : decode prog_10_method_39_code 49 = .ok (.ireturn, 1) := by decide +kernel
theorem d_Mod_interrupt_50 : decode prog_10_method_39_code 50 = .ok (.aload_n 0, 1) := by decide +kernel
theorem d_Mod_interrupt_51 : decode prog_10_method_39_code 51 = .ok (.getfield 147, 3) := by decide +kernel
theorem d_Mod_interrupt_54 : decode prog_10_method_39_code 54 = .ok (.bipush 8, 2) := by decide +kernel
theorem d_Mod_interrupt_56 : decode prog_10_method_39_code 56 = .ok (.if_icmp .ne 6, 3) := by decide +kernel
theorem d_Mod_interrupt_59 : decode prog_10_method_39_code 59 = .ok (.bipush (-2), 2) := by decide +kernel
theorem d_Mod_interrupt_61 : decode prog_10_method_39_code 61 = .ok (.ireturn, 1) := by decide +kernel
theorem d_Mod_interrupt_62 : decode prog_10_method_39_code 62 = .ok (.aload_n 0, 1) := by decide +kernel
theorem d_Mod_interrupt_63 : decode prog_10_method_39_code 63 = .ok (.getfield 131, 3) := by decide +kernel
theorem d_Mod_interrupt_66 : decode prog_10_method_39_code 66 = .ok (.aload_n 0, 1) := by decide +kernel
theorem d_Mod_interrupt_67 : decode prog_10_method_39_code 67 = .ok (.getfield 147, 3) := by decide +kernel
theorem d_Mod_interrupt_70 : decode prog_10_method_39_code 70 = .ok (.iload_n 1, 1) := by decide +kernel
theorem d_Mod_interrupt_71 : decode prog_10_method_39_code 71 = .ok (.iastore, 1) := by decide +kernel
theorem d_Mod_interrupt_72 : decode prog_10_method_39_code 72 = .ok (.aload_n 0, 1) := by decide +kernel
theorem d_Mod_interrupt_73 : decode prog_10_method_39_code 73 = .ok (.getfield 134, 3) := by decide +kernel
theorem d_Mod_interrupt_76 : decode prog_10_method_39_code 76 = .ok (.aload_n 0, 1) := by decide +kernel
theorem d_Mod_interrupt_77 : decode prog_10_method_39_code 77 = .ok (.dup, 1) := by decide +kernel
theorem d_Mod_interrupt_78 : decode prog_10_method_39_code 78 = .ok (.getfield 147, 3) := by decide +kernel
theorem d_Mod_interrupt_81 : decode prog_10_method_39_code 81 = .ok (.dup_x1, 1) := by decide +kernel
theorem d_Mod_interrupt_82 : decode prog_10_method_39_code 82 = .ok (.iconst 1, 1) := by decide +kernel
theorem d_Mod_interrupt_83 : decode prog_10_method_39_code 83 = .ok (.iadd, 1) := by decide +kernel
theorem d_Mod_interrupt_84 : decode prog_10_method_39_code 84 = .ok (.putfield 147, 3) := by decide +kernel
theorem d_Mod_interrupt_87 : decode prog_10_method_39_code 87 = .ok (.iload_n 2, 1) := by decide +kernel
theorem d_Mod_interrupt_88 : decode prog_10_method_39_code 88 = .ok (.bastore, 1) := by decide +kernel
theorem d_Mod_interrupt_89 : decode prog_10_method_39_code 89 = .ok (.iconst 0, 1) := by decide +kernel
theorem d_Mod_interrupt_90 : decode prog_10_method_39_code 90 = .ok (.ireturn, 1) := by decide +kernel
theorem d_Mod_transfer_0 : decode prog_10_method_40_code 0 = .ok (.aload_n 0, 1) := by decide +kernel
theorem d_Mod_transfer_1 : decode prog_10_method_40_code 1 = .ok (.getfield 137, 3) := by decide +kernel
theorem d_Mod_transfer_4 : decode prog_10_method_40_code 4 = .ok (.ifCond .ge 6, 3) := by decide +kernel
theorem d_Mod_transfer_7 : decode prog_10_method_40_code 7 = .ok (.bipush (-3), 2) := by decide +kernel
theorem d_Mod_transfer_9 : decode prog_10_method_40_code 9 = .ok (.ireturn, 1) := by decide +kernel
theorem d_Mod_transfer_10 : decode prog_10_method_40_code 10 = .ok (.aload_n 0, 1) := by decide +kernel
theorem d_Mod_transfer_11 : decode prog_10_method_40_code 11 = .ok (.iload_n 1, 1) := by decide +kernel
theorem d_Mod_transfer_12 : decode prog_10_method_40_code 12 = .ok (.invokevirtual 220, 3) := by decide +kernel
theorem d_Mod_transfer_15 : decode prog_10_method_40_code 15 = .ok (.ifCond .eq 68, 3) := by decide +kernel
theorem d_Mod_transfer_18 : decode prog_10_method_40_code 18 = .ok (.aload_n 0, 1) := by decide +kernel
theorem d_Mod_transfer_19 : decode prog_10_method_40_code 19 = .ok (.getfield 77, 3) := by decide +kernel
theorem d_Mod_transfer_22 : decode prog_10_method_40_code 22 = .ok (.aload_n 0, 1) := by decide +kernel
theorem d_Mod_transfer_23 : decode prog_10_method_40_code 23 = .ok (.iload_n 1, 1) := by decide +kernel
theorem d_Mod_transfer_24 : decode prog_10_method_40_code 24 = .ok (.invokevirtual 224, 3) := by decide +kernel
theorem d_Mod_transfer_27 : decode prog_10_method_40_code 27 = .ok (.iaload, 1) := by decide +kernel
theorem d_Mod_transfer_28 : decode prog_10_method_40_code 28 = .ok (.iconst 5, 1) := by decide +kernel
theorem d_Mod_transfer_29 : decode prog_10_method_40_code 29 = .ok (.if_icmp .ne 54, 3) := by decide +kernel
theorem d_Mod_transfer_32 : decode prog_10_method_40_code 32 = .ok (.iload_n 2, 1) := by decide +kernel
theorem d_Mod_transfer_33 : decode prog_10_method_40_code 33 = .ok (.iconst 0, 1) := by decide +kernel
theorem d_Mod_transfer_34 : decode prog_10_method_40_code 34 = .ok (.sipush 255, 3) := by decide +kernel
theorem d_Mod_transfer_37 : decode prog_10_method_40_code 37 = .ok (.invokestatic 157, 3) := by decide +kernel
theorem d_Mod_transfer_40 : decode prog_10_method_40_code 40 = .ok (.ifCond .eq 43, 3) := by decide +kernel
theorem d_Mod_transfer_43 : decode prog_10_method_40_code 43 = .ok (.iload_n 3, 1) := by decide +kernel
theorem d_Mod_transfer_44 : decode prog_10_method_40_code 44 = .ok (.iconst 1, 1) := by decide +kernel
theorem d_Mod_transfer_45 : decode prog_10_method_40_code 45 = .ok (.bipush 99, 2) := by decide +kernel
theorem d_Mod_transfer_47 : decode prog_10_method_40_code 47 = .ok (.invokestatic 157, 3) := by decide +kernel
theorem d_Mod_transfer_50 : decode prog_10_method_40_code 50 = .ok (.ifCond .eq 33, 3) := by decide +kernel
theorem d_Mod_transfer_53 : decode prog_10_method_40_code 53 = .ok (.iload 4, 2) := by decide +kernel
theorem d_Mod_transfer_55 : decode prog_10_method_40_code 55 = .ok (.iconst (-1), 1) := by decide +kernel
theorem d_Mod_transfer_56 : decode prog_10_method_40_code 56 = .ok (.if_icmp .eq 29, 3) := by decide +kernel
theorem d_Mod_transfer_59 : decode prog_10_method_40_code 59 = .ok (.aload_n 0, 1) := by decide +kernel
theorem d_Mod_transfer_60 : decode prog_10_method_40_code 60 = .ok (.iload 4, 2) := by decide +kernel
theorem d_Mod_transfer_62 : decode prog_10_method_40_code 62 = .ok (.invokevirtual 220, 3) := by decide +kernel
theorem d_Mod_transfer_65 : decode prog_10_method_40_code 65 = .ok (.ifCond .eq 18, 3) := by decide +kernel
theorem d_Mod_transfer_68 : decode prog_10_method_40_code 68 = .ok (.aload_n 0, 1) := by decide +kernel
theorem d_Mod_transfer_69 : decode prog_10_method_40_code 69 = .ok (.getfield 77, 3) := by decide +kernel
theorem d_Mod_transfer_72 : decode prog_10_method_40_code 72 = .ok (.aload_n 0, 1) := by decide +kernel
theorem d_Mod_transfer_73 : decode prog_10_method_40_code 73 = .ok (.iload 4, 2) := by decide +kernel
theorem d_Mod_transfer_75 : decode prog_10_method_40_code 75 = .ok (.invokevirtual 224, 3) := by decide +kernel
theorem d_Mod_transfer_78 : decode prog_10_method_40_code 78 = .ok (.iaload, 1) := by decide +kernel
theorem d_Mod_transfer_79 : decode prog_10_method_40_code 79 = .ok (.iconst 1, 1) := by decide +kernel
theorem d_Mod_transfer_80 : decode prog_10_method_40_code 80 = .ok (.if_icmp .le 5, 3) := by decide +kernel
theorem d_Mod_transfer_83 : decode prog_10_method_40_code 83 = .ok (.iconst (-1), 1) := by decide +kernel
theorem d_Mod_transfer_84 : decode prog_10_method_40_code 84 = .ok (.ireturn, 1) := by decide +kernel
theorem d_Mod_transfer_85 : decode prog_10_method_40_code 85 = .ok (.aload_n 0, 1) := by decide +kernel
theorem d_Mod_transfer_86 : decode prog_10_method_40_code 86 = .ok (.iload_n 1, 1) := by decide +kernel
theorem d_Mod_transfer_87 : decode prog_10_method_40_code 87 = .ok (.iconst 1, 1) := by decide +kernel
theorem d_Mod_transfer_88 : decode prog_10_method_40_code 88 = .ok (.invokevirtual 227, 3) := by decide +kernel
theorem d_Mod_transfer_91 : decode prog_10_method_40_code 91 = .ok (.ifCond .ne 19, 3) := by decide +kernel
theorem d_Mod_transfer_94 : decode prog_10_method_40_code 94 = .ok (.iload 4, 2) := by decide +kernel
theorem d_Mod_transfer_96 : decode prog_10_method_40_code 96 = .ok (.iconst (-1), 1) := by decide +kernel
theorem d_Mod_transfer_97 : decode prog_10_method_40_code 97 = .ok (.if_icmp .eq 16, 3) := by decide +kernel
theorem d_Mod_transfer_100 : decode prog_10_method_40_code 100 = .ok (.aload_n 0, 1) := by decide +kernel
theorem d_Mod_transfer_101 : decode prog_10_method_40_code 101 = .ok (.iload 4, 2) := by decide +kernel
theorem d_Mod_transfer_103 : decode prog_10_method_40_code 103 = .ok (.iconst 2, 1) := by decide +kernel
theorem d_Mod_transfer_104 : decode prog_10_method_40_code 104 = .ok (.invokevirtual 227, 3) := by decide +kernel
theorem d_Mod_transfer_107 : decode prog_10_method_40_code 107 = .ok (.ifCond .eq 6, 3) := by decide +kernel
theorem d_Mod_transfer_110 : decode prog_10_method_40_code 110 = .ok (.bipush (-5), 2) := by decide +kernel
theorem d_Mod_transfer_112 : decode prog_10_method_40_code 112 = .ok (.ireturn, 1) := by decide +kernel
theorem d_Mod_transfer_113 : decode prog_10_method_40_code 113 = .ok (.iconst 0, 1) := by decide +kernel
theorem d_Mod_transfer_114 : decode prog_10_method_40_code 114 = .ok (.istore 5, 2) := by decide +kernel
theorem d_Mod_transfer_116 : decode prog_10_method_40_code 116 = .ok (.aload_n 0, 1) := by decide +kernel
theorem d_Mod_transfer_117 : decode prog_10_method_40_code 117 = .ok (.iload_n 1, 1) := by decide +kernel
theorem d_Mod_transfer_118 : decode prog_10_method_40_code 118 = .ok (.invokevirtual 224, 3) := by decide +kernel
theorem d_Mod_transfer_121 : decode prog_10_method_40_code 121 = .ok (.istore 6, 2) := by decide +kernel
theorem d_Mod_transfer_123 : decode prog_10_method_40_code 123 = .ok (.aload_n 0, 1) := by decide +kernel
theorem d_Mod_transfer_124 : decode prog_10_method_40_code 124 = .ok (.getfield 83, 3) := by decide +kernel
theorem d_Mod_transfer_127 : decode prog_10_method_40_code 127 = .ok (.iload 6, 2) := by decide +kernel
theorem d_Mod_transfer_129 : decode prog_10_method_40_code 129 = .ok (.iaload, 1) := by decide +kernel
theorem d_Mod_transfer_130 : decode prog_10_method_40_code 130 = .ok (.istore 7, 2) := by decide +kernel
theorem d_Mod_transfer_132 : decode prog_10_method_40_code 132 = .ok (.iload 5, 2) := by decide +kernel
theorem d_Mod_transfer_134 : decode prog_10_method_40_code 134 = .ok (.bipush 8, 2) := by decide +kernel
theorem d_Mod_transfer_136 : decode prog_10_method_40_code 136 = .ok (.if_icmp .ge 19, 3) := by decide +kernel
theorem d_Mod_transfer_139 : decode prog_10_method_40_code 139 = .ok (.aload_n 0, 1) := by decide +kernel
theorem d_Mod_transfer_140 : decode prog_10_method_40_code 140 = .ok (.getfield 104, 3) := by decide +kernel
theorem d_Mod_transfer_143 : decode prog_10_method_40_code 143 = .ok (.iload 5, 2) := by decide +kernel
theorem d_Mod_transfer_145 : decode prog_10_method_40_code 145 = .ok (.iaload, 1) := by decide +kernel
theorem d_Mod_transfer_146 : decode prog_10_method_40_code 146 = .ok (.ifCond .ne 9, 3) := by decide +kernel
theorem d_Mod_transfer_149 : decode prog_10_method_40_code 149 = .ok (.iinc 5 1, 3) := by decide +kernel
theorem d_Mod_transfer_152 : decode prog_10_method_40_code 152 = .ok (.goto (-20), 3) := by decide +kernel
theorem d_Mod_transfer_155 : decode prog_10_method_40_code 155 = .ok (.iload 5, 2) := by decide +kernel
theorem d_Mod_transfer_157 : decode prog_10_method_40_code 157 = .ok (.bipush 8, 2) := by decide +kernel
theorem d_Mod_transfer_159 : decode prog_10_method_40_code 159 = .ok (.if_icmp .ne 6, 3) := by decide +kernel
theorem d_Mod_transfer_162 : decode prog_10_method_40_code 162 = .ok (.bipush (-2), 2) := by decide +kernel
theorem d_Mod_transfer_164 : decode prog_10_method_40_code 164 = .ok (.ireturn, 1) := by decide +kernel
theorem d_Mod_transfer_165 : decode prog_10_method_40_code 165 = .ok (.iload 7, 2) := by decide +kernel
theorem d_Mod_transfer_167 : decode prog_10_method_40_code 167 = .ok (.iconst 2, 1) := by decide +kernel
theorem d_Mod_transfer_168 : decode prog_10_method_40_code 168 = .ok (.iand, 1) := by decide +kernel
theorem d_Mod_transfer_169 : decode prog_10_method_40_code 169 = .ok (.iconst 2, 1) := by decide +kernel
theorem d_Mod_transfer_170 : decode prog_10_method_40_code 170 = .ok (.if_icmp .ne 7, 3) := by decide +kernel
