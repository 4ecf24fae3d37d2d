theorem d_Mod_handle_1 : decode prog_10_method_50_code 1 = .ok (.iconst 0, 1) := by decide +kernel
theorem d_Mod_handle_2 : decode prog_10_method_50_code 2 = .ok (.aload_n 0, 1) := by decide +kernel
theorem d_Mod_handle_3 : decode prog_10_method_50_code 3 = .ok (.getfield 161, 3) := by decide +kernel
theorem d_Mod_handle_6 : decode prog_10_method_50_code 6 = .ok (.iconst 1, 1) := by decide +kernel
theorem d_Mod_handle_7 : decode prog_10_method_50_code 7 = .ok (.isub, 1) := by decide +kernel
theorem d_Mod_handle_8 : decode prog_10_method_50_code 8 = .ok (.invokestatic 157, 3) := by decide +kernel
theorem d_Mod_handle_11 : decode prog_10_method_50_code 11 = .ok (.ifCond .eq 36, 3) := by decide +kernel
theorem d_Mod_handle_14 : decode prog_10_method_50_code 14 = .ok (.iload_n 2, 1) := by decide +kernel
theorem d_Mod_handle_15 : decode prog_10_method_50_code 15 = .ok (.iconst 0, 1) := by decide +kernel
theorem d_Mod_handle_16 : decode prog_10_method_50_code 16 = .ok (.bipush 7, 2) := by decide +kernel
theorem d_Mod_handle_18 : decode prog_10_method_50_code 18 = .ok (.invokestatic 157, 3) := by decide +kernel
theorem d_Mod_handle_21 : decode prog_10_method_50_code 21 = .ok (.ifCond .eq 26, 3) := by decide +kernel
theorem d_Mod_handle_24 : decode prog_10_method_50_code 24 = .ok (.aload_n 0, 1) := by decide +kernel
theorem d_Mod_handle_25 : decode prog_10_method_50_code 25 = .ok (.getfield 19, 3) := by decide +kernel
theorem d_Mod_handle_28 : decode prog_10_method_50_code 28 = .ok (.bipush 8, 2) := by decide +kernel
theorem d_Mod_handle_30 : decode prog_10_method_50_code 30 = .ok (.iload_n 1, 1) := by decide +kernel
theorem d_Mod_handle_31 : decode prog_10_method_50_code 31 = .ok (.imul, 1) := by decide +kernel
theorem d_Mod_handle_32 : decode prog_10_method_50_code 32 = .ok (.iload_n 2, 1) := by decide +kernel
theorem d_Mod_handle_33 : decode prog_10_method_50_code 33 = .ok (.iadd, 1) := by decide +kernel
theorem d_Mod_handle_34 : decode prog_10_method_50_code 34 = .ok (.iaload, 1) := by decide +kernel
theorem d_Mod_handle_35 : decode prog_10_method_50_code 35 = .ok (.ifCond .lt 12, 3) := by decide +kernel
theorem d_Mod_handle_38 : decode prog_10_method_50_code 38 = .ok (.iload_n 3, 1) := by decide +kernel
theorem d_Mod_handle_39 : decode prog_10_method_50_code 39 = .ok (.iconst 0, 1) := by decide +kernel
theorem d_Mod_handle_40 : decode prog_10_method_50_code 40 = .ok (.iconst 1, 1) := by decide +kernel
theorem d_Mod_handle_41 : decode prog_10_method_50_code 41 = .ok (.invokestatic 157, 3) := by decide +kernel
theorem d_Mod_handle_44 : decode prog_10_method_50_code 44 = .ok (.ifCond .ne 5, 3) := by decide +kernel
theorem d_Mod_handle_47 : decode prog_10_method_50_code 47 = .ok (.iconst (-1), 1) := by decide +kernel
theorem d_Mod_handle_48 : decode prog_10_method_50_code 48 = .ok (.ireturn, 1) := by decide +kernel
theorem d_Mod_handle_49 : decode prog_10_method_50_code 49 = .ok (.iload_n 3, 1) := by decide +kernel
theorem d_Mod_handle_50 : decode prog_10_method_50_code 50 = .ok (.ifCond .ne 17, 3) := by decide +kernel
theorem d_Mod_handle_53 : decode prog_10_method_50_code 53 = .ok (.aload_n 0, 1) := by decide +kernel
theorem d_Mod_handle_54 : decode prog_10_method_50_code 54 = .ok (.getfield 19, 3) := by decide +kernel
theorem d_Mod_handle_57 : decode prog_10_method_50_code 57 = .ok (.bipush 8, 2) := by decide +kernel
theorem d_Mod_handle_59 : decode prog_10_method_50_code 59 = .ok (.iload_n 1, 1) := by decide +kernel
theorem d_Mod_handle_60 : decode prog_10_method_50_code 60 = .ok (.imul, 1) := by decide +kernel
theorem d_Mod_handle_61 : decode prog_10_method_50_code 61 = .ok (.iload_n 2, 1) := by decide +kernel
theorem d_Mod_handle_62 : decode prog_10_method_50_code 62 = .ok (.iadd, 1) := by decide +kernel
theorem d_Mod_handle_63 : decode prog_10_method_50_code 63 = .ok (.iaload, 1) := by decide +kernel
theorem d_Mod_handle_64 : decode prog_10_method_50_code 64 = .ok (.goto 14, 3) := by decide +kernel
theorem d_Mod_handle_67 : decode prog_10_method_50_code 67 = .ok (.aload_n 0, 1) := by decide +kernel
theorem d_Mod_handle_68 : decode prog_10_method_50_code 68 = .ok (.getfield 22, 3) := by decide +kernel
theorem d_Mod_handle_71 : decode prog_10_method_50_code 71 = .ok (.bipush 8, 2) := by decide +kernel
theorem d_Mod_handle_73 : decode prog_10_method_50_code 73 = .ok (.iload_n 1, 1) := by decide +kernel
theorem d_Mod_handle_74 : decode prog_10_method_50_code 74 = .ok (.imul, 1) := by decide +kernel
theorem d_Mod_handle_75 : decode prog_10_method_50_code 75 = .ok (.iload_n 2, 1) := by decide +kernel
theorem d_Mod_handle_76 : decode prog_10_method_50_code 76 = .ok (.iadd, 1) := by decide +kernel
theorem d_Mod_handle_77 : decode prog_10_method_50_code 77 = .ok (.iaload, 1) := by decide +kernel
theorem d_Mod_handle_78 : decode prog_10_method_50_code 78 = .ok (.ireturn, 1) := by decide +kernel
theorem d_Mod_count_0 : decode prog_10_method_51_code 0 = .ok (.iconst 0, 1) := by decide +kernel
theorem d_Mod_count_1 : decode prog_10_method_51_code 1 = .ok (.istore_n 2, 1) := by decide +kernel
theorem d_Mod_count_2 : decode prog_10_method_51_code 2 = .ok (.iload_n 1, 1) := by decide +kernel
theorem d_Mod_count_3 : decode prog_10_method_51_code 3 = .ok (.tableswitch 117 0 8 #[49, 54, 59, 64, 69, 74, 102, 107, 112], 49) := by decide +kernel
theorem d_Mod_count_52 : decode prog_10_method_51_code 52 = .ok (.aload_n 0, 1) := by decide +kernel
theorem d_Mod_count_53 : decode prog_10_method_51_code 53 = .ok (.getfield 137, 3) := by decide +kernel
theorem d_Mod_count_56 : decode prog_10_method_51_code 56 = .ok (.ireturn, 1) := by decide +kernel
theorem d_Mod_count_57 : decode prog_10_method_51_code 57 = .ok (.aload_n 0, 1) := by decide +kernel
theorem d_Mod_count_58 : decode prog_10_method_51_code 58 = .ok (.getfield 230, 3) := by decide +kernel
theorem d_Mod_count_61 : decode prog_10_method_51_code 61 = .ok (.ireturn, 1) := by decide +kernel
theorem d_Mod_count_62 : decode prog_10_method_51_code 62 = .ok (.aload_n 0, 1) := by decide +kernel
theorem d_Mod_count_63 : decode prog_10_method_51_code 63 = .ok (.getfield 177, 3) := by decide +kernel
theorem d_Mod_count_66 : decode prog_10_method_51_code 66 = .ok (.ireturn, 1) := by decide +kernel
theorem d_Mod_count_67 : decode prog_10_method_51_code 67 = .ok (.aload_n 0, 1) := by decide +kernel
theorem d_Mod_count_68 : decode prog_10_method_51_code 68 = .ok (.getfield 161, 3) := by decide +kernel
theorem d_Mod_count_71 : decode prog_10_method_51_code 71 = .ok (.ireturn, 1) := by decide +kernel
theorem d_Mod_count_72 : decode prog_10_method_51_code 72 = .ok (.aload_n 0, 1) := by decide +kernel
theorem d_Mod_count_73 : decode prog_10_method_51_code 73 = .ok (.getfield 144, 3) := by decide +kernel
theorem d_Mod_count_76 : decode prog_10_method_51_code 76 = .ok (.ireturn, 1) := by decide +kernel
theorem d_Mod_count_77 : decode prog_10_method_51_code 77 = .ok (.iconst 0, 1) := by decide +kernel
theorem d_Mod_count_78 : decode prog_10_method_51_code 78 = .ok (.istore_n 3, 1) := by decide +kernel
theorem d_Mod_count_79 : decode prog_10_method_51_code 79 = .ok (.iload_n 3, 1) := by decide +kernel
theorem d_Mod_count_80 : decode prog_10_method_51_code 80 = .ok (.bipush 16, 2) := by decide +kernel
theorem d_Mod_count_82 : decode prog_10_method_51_code 82 = .ok (.if_icmp .ge 21, 3) := by decide +kernel
theorem d_Mod_count_85 : decode prog_10_method_51_code 85 = .ok (.aload_n 0, 1) := by decide +kernel
theorem d_Mod_count_86 : decode prog_10_method_51_code 86 = .ok (.getfield 67, 3) := by decide +kernel
theorem d_Mod_count_89 : decode prog_10_method_51_code 89 = .ok (.iload_n 3, 1) := by decide +kernel
theorem d_Mod_count_90 : decode prog_10_method_51_code 90 = .ok (.baload, 1) := by decide +kernel
theorem d_Mod_count_91 : decode prog_10_method_51_code 91 = .ok (.ifCond .eq 6, 3) := by decide +kernel
theorem d_Mod_count_94 : decode prog_10_method_51_code 94 = .ok (.iinc 2 1, 3) := by decide +kernel
theorem d_Mod_count_97 : decode prog_10_method_51_code 97 = .ok (.iinc 3 1, 3) := by decide +kernel
theorem d_Mod_count_100 : decode prog_10_method_51_code 100 = .ok (.goto (-21), 3) := by decide +kernel
theorem d_Mod_count_103 : decode prog_10_method_51_code 103 = .ok (.iload_n 2, 1) := by decide +kernel
theorem d_Mod_count_104 : decode prog_10_method_51_code 104 = .ok (.ireturn, 1) := by decide +kernel
theorem d_Mod_count_105 : decode prog_10_method_51_code 105 = .ok (.aload_n 0, 1) := by decide +kernel
theorem d_Mod_count_106 : decode prog_10_method_51_code 106 = .ok (.getfield 147, 3) := by decide +kernel
theorem d_Mod_count_109 : decode prog_10_method_51_code 109 = .ok (.ireturn, 1) := by decide +kernel
theorem d_Mod_count_110 : decode prog_10_method_51_code 110 = .ok (.aload_n 0, 1) := by decide +kernel
theorem d_Mod_count_111 : decode prog_10_method_51_code 111 = .ok (.getfield 174, 3) := by decide +kernel
theorem d_Mod_count_114 : decode prog_10_method_51_code 114 = .ok (.ireturn, 1) := by decide +kernel
theorem d_Mod_count_115 : decode prog_10_method_51_code 115 = .ok (.aload_n 0, 1) := by decide +kernel
theorem d_Mod_count_116 : decode prog_10_method_51_code 116 = .ok (.getfield 250, 3) := by decide +kernel
theorem d_Mod_count_119 : decode prog_10_method_51_code 119 = .ok (.ireturn, 1) := by decide +kernel
theorem d_Mod_count_120 : decode prog_10_method_51_code 120 = .ok (.iconst (-1), 1) := by decide +kernel
theorem d_Mod_count_121 : decode prog_10_method_51_code 121 = .ok (.ireturn, 1) := by decide +kernel
