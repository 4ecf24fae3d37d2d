theorem d_Desk_clse_24 : decode prog_1_method_6_code 24 = .ok (.istore_n 3, 1) := by decide +kernel
theorem d_Desk_clse_25 : decode prog_1_method_6_code 25 = .ok (.iload_n 3, 1) := by decide +kernel
theorem d_Desk_clse_26 : decode prog_1_method_6_code 26 = .ok (.iconst (-1), 1) := by decide +kernel
theorem d_Desk_clse_27 : decode prog_1_method_6_code 27 = .ok (.if_icmp .ne 5, 3) := by decide +kernel
theorem d_Desk_clse_30 : decode prog_1_method_6_code 30 = .ok (.iconst (-1), 1) := by decide +kernel
theorem d_Desk_clse_31 : decode prog_1_method_6_code 31 = .ok (.ireturn, 1) := by decide +kernel
theorem d_Desk_clse_32 : decode prog_1_method_6_code 32 = .ok (.aload_n 0, 1) := by decide +kernel
theorem d_Desk_clse_33 : decode prog_1_method_6_code 33 = .ok (.aload_n 2, 1) := by decide +kernel
theorem d_Desk_clse_34 : decode prog_1_method_6_code 34 = .ok (.iload_n 1, 1) := by decide +kernel
theorem d_Desk_clse_35 : decode prog_1_method_6_code 35 = .ok (.invokevirtual 137, 3) := by decide +kernel
theorem d_Desk_clse_38 : decode prog_1_method_6_code 38 = .ok (.aload_n 0, 1) := by decide +kernel
theorem d_Desk_clse_39 : decode prog_1_method_6_code 39 = .ok (.getfield 29, 3) := by decide +kernel
theorem d_Desk_clse_42 : decode prog_1_method_6_code 42 = .ok (.iload_n 3, 1) := by decide +kernel
theorem d_Desk_clse_43 : decode prog_1_method_6_code 43 = .ok (.aaload, 1) := by decide +kernel
theorem d_Desk_clse_44 : decode prog_1_method_6_code 44 = .ok (.getfield 141, 3) := by decide +kernel
theorem d_Desk_clse_47 : decode prog_1_method_6_code 47 = .ok (.ireturn, 1) := by decide +kernel
theorem d_Proc_rightsOf_0 : decode prog_3_method_4_code 0 = .ok (.iload_n 1, 1) := by decide +kernel
theorem d_Proc_rightsOf_1 : decode prog_3_method_4_code 1 = .ok (.iconst 0, 1) := by decide +kernel
theorem d_Proc_rightsOf_2 : decode prog_3_method_4_code 2 = .ok (.bipush 7, 2) := by decide +kernel
theorem d_Proc_rightsOf_4 : decode prog_3_method_4_code 4 = .ok (.invokestatic 25, 3) := by decide +kernel
theorem d_Proc_rightsOf_7 : decode prog_3_method_4_code 7 = .ok (.ifCond .eq 12, 3) := by decide +kernel
theorem d_Proc_rightsOf_10 : decode prog_3_method_4_code 10 = .ok (.aload_n 0, 1) := by decide +kernel
theorem d_Proc_rightsOf_11 : decode prog_3_method_4_code 11 = .ok (.getfield 15, 3) := by decide +kernel
theorem d_Proc_rightsOf_14 : decode prog_3_method_4_code 14 = .ok (.iload_n 1, 1) := by decide +kernel
theorem d_Proc_rightsOf_15 : decode prog_3_method_4_code 15 = .ok (.iaload, 1) := by decide +kernel
theorem d_Proc_rightsOf_16 : decode prog_3_method_4_code 16 = .ok (.goto 4, 3) := by decide +kernel
theorem d_Proc_rightsOf_19 : decode prog_3_method_4_code 19 = .ok (.iconst 0, 1) := by decide +kernel
theorem d_Proc_rightsOf_20 : decode prog_3_method_4_code 20 = .ok (.ireturn, 1) := by decide +kernel
theorem d_Proc_lacks_0 : decode prog_3_method_5_code 0 = .ok (.aload_n 0, 1) := by decide +kernel
theorem d_Proc_lacks_1 : decode prog_3_method_5_code 1 = .ok (.iload_n 1, 1) := by decide +kernel
theorem d_Proc_lacks_2 : decode prog_3_method_5_code 2 = .ok (.invokevirtual 29, 3) := by decide +kernel
theorem d_Proc_lacks_5 : decode prog_3_method_5_code 5 = .ok (.iconst (-1), 1) := by decide +kernel
theorem d_Proc_lacks_6 : decode prog_3_method_5_code 6 = .ok (.if_icmp .eq 17, 3) := by decide +kernel
theorem d_Proc_lacks_9 : decode prog_3_method_5_code 9 = .ok (.aload_n 0, 1) := by decide +kernel
theorem d_Proc_lacks_10 : decode prog_3_method_5_code 10 = .ok (.iload_n 1, 1) := by decide +kernel
theorem d_Proc_lacks_11 : decode prog_3_method_5_code 11 = .ok (.invokevirtual 33, 3) := by decide +kernel
theorem d_Proc_lacks_14 : decode prog_3_method_5_code 14 = .ok (.iload_n 2, 1) := by decide +kernel
theorem d_Proc_lacks_15 : decode prog_3_method_5_code 15 = .ok (.iand, 1) := by decide +kernel
theorem d_Proc_lacks_16 : decode prog_3_method_5_code 16 = .ok (.ifCond .ne 7, 3) := by decide +kernel
theorem d_Proc_lacks_19 : decode prog_3_method_5_code 19 = .ok (.iconst 1, 1) := by decide +kernel
theorem d_Proc_lacks_20 : decode prog_3_method_5_code 20 = .ok (.goto 4, 3) := by decide +kernel
theorem d_Proc_lacks_23 : decode prog_3_method_5_code 23 = .ok (.iconst 0, 1) := by decide +kernel
theorem d_Proc_lacks_24 : decode prog_3_method_5_code 24 = .ok (.ireturn, 1) := by decide +kernel
theorem d_Rul_append_0 : decode prog_5_method_2_code 0 = .ok (.aload_n 0, 1) := by decide +kernel
theorem d_Rul_append_1 : decode prog_5_method_2_code 1 = .ok (.getfield 21, 3) := by decide +kernel
theorem d_Rul_append_4 : decode prog_5_method_2_code 4 = .ok (.iconst 4, 1) := by decide +kernel
theorem d_Rul_append_5 : decode prog_5_method_2_code 5 = .ok (.if_icmp .ge 43, 3) := by decide +kernel
theorem d_Rul_append_8 : decode prog_5_method_2_code 8 = .ok (.aload_n 0, 1) := by decide +kernel
theorem d_Rul_append_9 : decode prog_5_method_2_code 9 = .ok (.getfield 9, 3) := by decide +kernel
theorem d_Rul_append_12 : decode prog_5_method_2_code 12 = .ok (.aload_n 0, 1) := by decide +kernel
theorem d_Rul_append_13 : decode prog_5_method_2_code 13 = .ok (.getfield 21, 3) := by decide +kernel
theorem d_Rul_append_16 : decode prog_5_method_2_code 16 = .ok (.iload_n 1, 1) := by decide +kernel
theorem d_Rul_append_17 : decode prog_5_method_2_code 17 = .ok (.iastore, 1) := by decide +kernel
theorem d_Rul_append_18 : decode prog_5_method_2_code 18 = .ok (.aload_n 0, 1) := by decide +kernel
theorem d_Rul_append_19 : decode prog_5_method_2_code 19 = .ok (.getfield 15, 3) := by decide +kernel
theorem d_Rul_append_22 : decode prog_5_method_2_code 22 = .ok (.aload_n 0, 1) := by decide +kernel
theorem d_Rul_append_23 : decode prog_5_method_2_code 23 = .ok (.getfield 21, 3) := by decide +kernel
theorem d_Rul_append_26 : decode prog_5_method_2_code 26 = .ok (.iload_n 2, 1) := by decide +kernel
theorem d_Rul_append_27 : decode prog_5_method_2_code 27 = .ok (.iastore, 1) := by decide +kernel
theorem d_Rul_append_28 : decode prog_5_method_2_code 28 = .ok (.aload_n 0, 1) := by decide +kernel
theorem d_Rul_append_29 : decode prog_5_method_2_code 29 = .ok (.getfield 18, 3) := by decide +kernel
theorem d_Rul_append_32 : decode prog_5_method_2_code 32 = .ok (.aload_n 0, 1) := by decide +kernel
theorem d_Rul_append_33 : decode prog_5_method_2_code 33 = .ok (.getfield 21, 3) := by decide +kernel
theorem d_Rul_append_36 : decode prog_5_method_2_code 36 = .ok (.iload_n 3, 1) := by decide +kernel
theorem d_Rul_append_37 : decode prog_5_method_2_code 37 = .ok (.iastore, 1) := by decide +kernel
theorem d_Rul_append_38 : decode prog_5_method_2_code 38 = .ok (.aload_n 0, 1) := by decide +kernel
theorem d_Rul_append_39 : decode prog_5_method_2_code 39 = .ok (.dup, 1) := by decide +kernel
theorem d_Rul_append_40 : decode prog_5_method_2_code 40 = .ok (.getfield 21, 3) := by decide +kernel
theorem d_Rul_append_43 : decode prog_5_method_2_code 43 = .ok (.iconst 1, 1) := by decide +kernel
theorem d_Rul_append_44 : decode prog_5_method_2_code 44 = .ok (.iadd, 1) := by decide +kernel
theorem d_Rul_append_45 : decode prog_5_method_2_code 45 = .ok (.putfield 21, 3) := by decide +kernel
theorem d_Rul_append_48 : decode prog_5_method_2_code 48 = .ok (.return_, 1) := by decide +kernel
theorem d_Desk_rule_0 : decode prog_1_method_7_code 0 = .ok (.aload_n 0, 1) := by decide +kernel
theorem d_Desk_rule_1 : decode prog_1_method_7_code 1 = .ok (.getfield 18, 3) := by decide +kernel
theorem d_Desk_rule_4 : decode prog_1_method_7_code 4 = .ok (.getfield 92, 3) := by decide +kernel
theorem d_Desk_rule_7 : decode prog_1_method_7_code 7 = .ok (.iconst (-1), 1) := by decide +kernel
theorem d_Desk_rule_8 : decode prog_1_method_7_code 8 = .ok (.if_icmp .ne 6, 3) := by decide +kernel
theorem d_Desk_rule_11 : decode prog_1_method_7_code 11 = .ok (.bipush (-3), 2) := by decide +kernel
theorem d_Desk_rule_13 : decode prog_1_method_7_code 13 = .ok (.ireturn, 1) := by decide +kernel
theorem d_Desk_rule_14 : decode prog_1_method_7_code 14 = .ok (.aload_n 0, 1) := by decide +kernel
theorem d_Desk_rule_15 : decode prog_1_method_7_code 15 = .ok (.invokevirtual 102, 3) := by decide +kernel
theorem d_Desk_rule_18 : decode prog_1_method_7_code 18 = .ok (.astore 5, 2) := by decide +kernel
theorem d_Desk_rule_20 : decode prog_1_method_7_code 20 = .ok (.aload 5, 2) := by decide +kernel
theorem d_Desk_rule_22 : decode prog_1_method_7_code 22 = .ok (.iload_n 1, 1) := by decide +kernel
theorem d_Desk_rule_23 : decode prog_1_method_7_code 23 = .ok (.invokevirtual 134, 3) := by decide +kernel
theorem d_Desk_rule_26 : decode prog_1_method_7_code 26 = .ok (.istore 6, 2) := by decide +kernel
theorem d_Desk_rule_28 : decode prog_1_method_7_code 28 = .ok (.iload 6, 2) := by decide +kernel
theorem d_Desk_rule_30 : decode prog_1_method_7_code 30 = .ok (.iconst (-1), 1) := by decide +kernel
theorem d_Desk_rule_31 : decode prog_1_method_7_code 31 = .ok (.if_icmp .eq 12, 3) := by decide +kernel
theorem d_Desk_rule_34 : decode prog_1_method_7_code 34 = .ok (.iload_n 2, 1) := by decide +kernel
theorem d_Desk_rule_35 : decode prog_1_method_7_code 35 = .ok (.iconst 0, 1) := by decide +kernel
theorem d_Desk_rule_36 : decode prog_1_method_7_code 36 = .ok (.iconst 1, 1) := by decide +kernel
theorem d_Desk_rule_37 : decode prog_1_method_7_code 37 = .ok (.invokestatic 54, 3) := by decide +kernel
theorem d_Desk_rule_40 : decode prog_1_method_7_code 40 = .ok (.ifCond .ne 5, 3) := by decide +kernel
theorem d_Desk_rule_43 : decode prog_1_method_7_code 43 = .ok (.iconst (-1), 1) := by decide +kernel
theorem d_Desk_rule_44 : decode prog_1_method_7_code 44 = .ok (.ireturn, 1) := by decide +kernel
theorem d_Desk_rule_45 : decode prog_1_method_7_code 45 = .ok (.iload_n 3, 1) := by decide +kernel
theorem d_Desk_rule_46 : decode prog_1_method_7_code 46 = .ok (.iconst 0, 1) := by decide +kernel
theorem d_Desk_rule_47 : decode prog_1_method_7_code 47 = .ok (.bipush 7, 2) := by decide +kernel
theorem d_Desk_rule_49 : decode prog_1_method_7_code 49 = .ok (.invokestatic 54, 3) := by decide +kernel
theorem d_Desk_rule_52 : decode prog_1_method_7_code 52 = .ok (.ifCond .eq 14, 3) := by decide +kernel
theorem d_Desk_rule_55 : decode prog_1_method_7_code 55 = .ok (.iload 4, 2) := by decide +kernel
theorem d_Desk_rule_57 : decode prog_1_method_7_code 57 = .ok (.iconst 1, 1) := by decide +kernel
theorem d_Desk_rule_58 : decode prog_1_method_7_code 58 = .ok (.bipush 7, 2) := by decide +kernel
theorem d_Desk_rule_60 : decode prog_1_method_7_code 60 = .ok (.invokestatic 54, 3) := by decide +kernel
theorem d_Desk_rule_63 : decode prog_1_method_7_code 63 = .ok (.ifCond .ne 5, 3) := by decide +kernel
theorem d_Desk_rule_66 : decode prog_1_method_7_code 66 = .ok (.iconst (-1), 1) := by decide +kernel
theorem d_Desk_rule_67 : decode prog_1_method_7_code 67 = .ok (.ireturn, 1) := by decide +kernel
theorem d_Desk_rule_68 : decode prog_1_method_7_code 68 = .ok (.aload 5, 2) := by decide +kernel
theorem d_Desk_rule_70 : decode prog_1_method_7_code 70 = .ok (.iload_n 1, 1) := by decide +kernel
theorem d_Desk_rule_71 : decode prog_1_method_7_code 71 = .ok (.iconst 2, 1) := by decide +kernel
theorem d_Desk_rule_72 : decode prog_1_method_7_code 72 = .ok (.invokevirtual 144, 3) := by decide +kernel
theorem d_Desk_rule_75 : decode prog_1_method_7_code 75 = .ok (.ifCond .eq 6, 3) := by decide +kernel
theorem d_Desk_rule_78 : decode prog_1_method_7_code 78 = .ok (.bipush (-5), 2) := by decide +kernel
theorem d_Desk_rule_80 : decode prog_1_method_7_code 80 = .ok (.ireturn, 1) := by decide +kernel
theorem d_Desk_rule_81 : decode prog_1_method_7_code 81 = .ok (.aload_n 0, 1) := by decide +kernel
theorem d_Desk_rule_82 : decode prog_1_method_7_code 82 = .ok (.getfield 29, 3) := by decide +kernel
theorem d_Desk_rule_85 : decode prog_1_method_7_code 85 = .ok (.iload 6, 2) := by decide +kernel
theorem d_Desk_rule_87 : decode prog_1_method_7_code 87 = .ok (.aaload, 1) := by decide +kernel
theorem d_Desk_rule_88 : decode prog_1_method_7_code 88 = .ok (.getfield 124, 3) := by decide +kernel
theorem d_Desk_rule_91 : decode prog_1_method_7_code 91 = .ok (.astore 7, 2) := by decide +kernel
theorem d_Desk_rule_93 : decode prog_1_method_7_code 93 = .ok (.aload 7, 2) := by decide +kernel
theorem d_Desk_rule_95 : decode prog_1_method_7_code 95 = .ok (.getfield 147, 3) := by decide +kernel
theorem d_Desk_rule_98 : decode prog_1_method_7_code 98 = .ok (.iconst 4, 1) := by decide +kernel
theorem d_Desk_rule_99 : decode prog_1_method_7_code 99 = .ok (.if_icmp .ne 6, 3) := by decide +kernel
theorem d_Desk_rule_102 : decode prog_1_method_7_code 102 = .ok (.bipush (-2), 2) := by decide +kernel
theorem d_Desk_rule_104 : decode prog_1_method_7_code 104 = .ok (.ireturn, 1) := by decide +kernel
theorem d_Desk_rule_105 : decode prog_1_method_7_code 105 = .ok (.aload 7, 2) := by decide +kernel
theorem d_Desk_rule_107 : decode prog_1_method_7_code 107 = .ok (.iload_n 2, 1) := by decide +kernel
theorem d_Desk_rule_108 : decode prog_1_method_7_code 108 = .ok (.iload_n 3, 1) := by decide +kernel
theorem d_Desk_rule_109 : decode prog_1_method_7_code 109 = .ok (.iload 4, 2) := by decide +kernel
theorem d_Desk_rule_111 : decode prog_1_method_7_code 111 = .ok (.invokevirtual 150, 3) := by decide +kernel
theorem d_Desk_rule_114 : decode prog_1_method_7_code 114 = .ok (.aload 7, 2) := by decide +kernel
theorem d_Desk_rule_116 : decode prog_1_method_7_code 116 = .ok (.getfield 147, 3) := by decide +kernel
theorem d_Desk_rule_119 : decode prog_1_method_7_code 119 = .ok (.ireturn, 1) := by decide +kernel
theorem d_Desk_canBeSetTo_0 : decode prog_1_method_24_code 0 = .ok (.iload_n 0, 1) := by decide +kernel
theorem d_Desk_canBeSetTo_1 : decode prog_1_method_24_code 1 = .ok (.tableswitch 69 0 4 #[35, 35, 42, 53, 61], 35) := by decide +kernel
theorem d_Desk_canBeSetTo_36 : decode prog_1_method_24_code 36 = .ok (.iload_n 1, 1) := by decide +kernel
theorem d_Desk_canBeSetTo_37 : decode prog_1_method_24_code 37 = .ok (.iconst 0, 1) := by decide +kernel
theorem d_Desk_canBeSetTo_38 : decode prog_1_method_24_code 38 = .ok (.iconst 1, 1) := by decide +kernel
theorem d_Desk_canBeSetTo_39 : decode prog_1_method_24_code 39 = .ok (.invokestatic 54, 3) := by decide +kernel
theorem d_Desk_canBeSetTo_42 : decode prog_1_method_24_code 42 = .ok (.ireturn, 1) := by decide +kernel
theorem d_Desk_canBeSetTo_43 : decode prog_1_method_24_code 43 = .ok (.iload_n 1, 1) := by decide +kernel
theorem d_Desk_canBeSetTo_44 : decode prog_1_method_24_code 44 = .ok (.iconst 1, 1) := by decide +kernel
theorem d_Desk_canBeSetTo_45 : decode prog_1_method_24_code 45 = .ok (.if_icmp .ne 7, 3) := by decide +kernel
theorem d_Desk_canBeSetTo_48 : decode prog_1_method_24_code 48 = .ok (.iconst 1, 1) := by decide +kernel
theorem d_Desk_canBeSetTo_49 : decode prog_1_method_24_code 49 = .ok (.goto 4, 3) := by decide +kernel
theorem d_Desk_canBeSetTo_52 : decode prog_1_method_24_code 52 = .ok (.iconst 0, 1) := by decide +kernel
theorem d_Desk_canBeSetTo_53 : decode prog_1_method_24_code 53 = .ok (.ireturn, 1) := by decide +kernel
theorem d_Desk_canBeSetTo_54 : decode prog_1_method_24_code 54 = .ok (.iload_n 1, 1) := by decide +kernel
theorem d_Desk_canBeSetTo_55 : decode prog_1_method_24_code 55 = .ok (.iconst 1, 1) := by decide +kernel
theorem d_Desk_canBeSetTo_56 : decode prog_1_method_24_code 56 = .ok (.bipush 9, 2) := by decide +kernel
theorem d_Desk_canBeSetTo_58 : decode prog_1_method_24_code 58 = .ok (.invokestatic 54, 3) := by decide +kernel
theorem d_Desk_canBeSetTo_61 : decode prog_1_method_24_code 61 = .ok (.ireturn, 1) := by decide +kernel
theorem d_Desk_canBeSetTo_62 : decode prog_1_method_24_code 62 = .ok (.iload_n 1, 1) := by decide +kernel
theorem d_Desk_canBeSetTo_63 : decode prog_1_method_24_code 63 = .ok (.iconst 0, 1) := by decide +kernel
theorem d_Desk_canBeSetTo_64 : decode prog_1_method_24_code 64 = .ok (.bipush 99, 2) := by decide +kernel
theorem d_Desk_canBeSetTo_66 : decode prog_1_method_24_code 66 = .ok (.invokestatic 54, 3) := by decide +kernel
theorem d_Desk_canBeSetTo_69 : decode prog_1_method_24_code 69 = .ok (.ireturn, 1) := by decide +kernel
theorem d_Desk_canBeSetTo_70 : decode prog_1_method_24_code 70 = .ok (.iconst 0, 1) := by decide +kernel
theorem d_Desk_canBeSetTo_71 : decode prog_1_method_24_code 71 = .ok (.ireturn, 1) := by decide +kernel
theorem d_Row_get_0 : decode prog_4_method_2_code 0 = .ok (.iload_n 1, 1) := by decide +kernel
theorem d_Row_get_1 : decode prog_4_method_2_code 1 = .ok (.ifCond .lt 20, 3) := by decide +kernel
theorem d_Row_get_4 : decode prog_4_method_2_code 4 = .ok (.iload_n 1, 1) := by decide +kernel
theorem d_Row_get_5 : decode prog_4_method_2_code 5 = .ok (.aload_n 0, 1) := by decide +kernel
theorem d_Row_get_6 : decode prog_4_method_2_code 6 = .ok (.getfield 15, 3) := by decide +kernel
theorem d_Row_get_9 : decode prog_4_method_2_code 9 = .ok (.if_icmp .ge 12, 3) := by decide +kernel
theorem d_Row_get_12 : decode prog_4_method_2_code 12 = .ok (.aload_n 0, 1) := by decide +kernel
theorem d_Row_get_13 : decode prog_4_method_2_code 13 = .ok (.getfield 9, 3) := by decide +kernel
theorem d_Row_get_16 : decode prog_4_method_2_code 16 = .ok (.iload_n 1, 1) := by decide +kernel
theorem d_Row_get_17 : decode prog_4_method_2_code 17 = .ok (.iaload, 1) := by decide +kernel
theorem d_Row_get_18 : decode prog_4_method_2_code 18 = .ok (.goto 4, 3) := by decide +kernel
theorem d_Row_get_21 : decode prog_4_method_2_code 21 = .ok (.iconst (-1), 1) := by decide +kernel
theorem d_Row_get_22 : decode prog_4_method_2_code 22 = .ok (.ireturn, 1) := by decide +kernel
theorem d_Obj_isSignaledFor_0 : decode prog_2_method_6_code 0 = .ok (.aload_n 0, 1) := by decide +kernel
theorem d_Obj_isSignaledFor_1 : decode prog_2_method_6_code 1 = .ok (.getfield 37, 3) := by decide +kernel
theorem d_Obj_isSignaledFor_4 : decode prog_2_method_6_code 4 = .ok (.iconst 2, 1) := by decide +kernel
theorem d_Obj_isSignaledFor_5 : decode prog_2_method_6_code 5 = .ok (.if_icmp .ne 34, 3) := by decide +kernel
theorem d_Obj_isSignaledFor_8 : decode prog_2_method_6_code 8 = .ok (.aload_n 0, 1) := by decide +kernel
theorem d_Obj_isSignaledFor_9 : decode prog_2_method_6_code 9 = .ok (.getfield 31, 3) := by decide +kernel
theorem d_Obj_isSignaledFor_12 : decode prog_2_method_6_code 12 = .ok (.iconst (-1), 1) := by decide +kernel
theorem d_Obj_isSignaledFor_13 : decode prog_2_method_6_code 13 = .ok (.if_icmp .eq 20, 3) := by decide +kernel
theorem d_Obj_isSignaledFor_16 : decode prog_2_method_6_code 16 = .ok (.aload_n 0, 1) := by decide +kernel
theorem d_Obj_isSignaledFor_17 : decode prog_2_method_6_code 17 = .ok (.getfield 31, 3) := by decide +kernel
theorem d_Obj_isSignaledFor_20 : decode prog_2_method_6_code 20 = .ok (.iload_n 1, 1) := by decide +kernel
theorem d_Obj_isSignaledFor_21 : decode prog_2_method_6_code 21 = .ok (.if_icmp .ne 16, 3) := by decide +kernel
theorem d_Obj_isSignaledFor_24 : decode prog_2_method_6_code 24 = .ok (.aload_n 0, 1) := by decide +kernel
theorem d_Obj_isSignaledFor_25 : decode prog_2_method_6_code 25 = .ok (.getfield 40, 3) := by decide +kernel
theorem d_Obj_isSignaledFor_28 : decode prog_2_method_6_code 28 = .ok (.bipush 9, 2) := by decide +kernel
theorem d_Obj_isSignaledFor_30 : decode prog_2_method_6_code 30 = .ok (.if_icmp .ge 7, 3) := by decide +kernel
theorem d_Obj_isSignaledFor_33 : decode prog_2_method_6_code 33 = .ok (.iconst 1, 1) := by decide +kernel
theorem d_Obj_isSignaledFor_34 : decode prog_2_method_6_code 34 = .ok (.goto 4, 3) := by decide +kernel
theorem d_Obj_isSignaledFor_37 : decode prog_2_method_6_code 37 = .ok (.iconst 0, 1) := by decide +kernel
theorem d_Obj_isSignaledFor_38 : decode prog_2_method_6_code 38 = .ok (.ireturn, 1) := by decide +kernel
theorem d_Obj_isSignaledFor_39 : decode prog_2_method_6_code 39 = .ok (.aload_n 0, 1) := by decide +kernel
theorem d_Obj_isSignaledFor_40 : decode prog_2_method_6_code 40 = .ok (.getfield 40, 3) := by decide +kernel
theorem d_Obj_isSignaledFor_43 : decode prog_2_method_6_code 43 = .ok (.ifCond .eq 7, 3) := by decide +kernel
theorem d_Obj_isSignaledFor_46 : decode prog_2_method_6_code 46 = .ok (.iconst 1, 1) := by decide +kernel
theorem d_Obj_isSignaledFor_47 : decode prog_2_method_6_code 47 = .ok (.goto 4, 3) := by decide +kernel
theorem d_Obj_isSignaledFor_50 : decode prog_2_method_6_code 50 = .ok (.iconst 0, 1) := by decide +kernel
theorem d_Obj_isSignaledFor_51 : decode prog_2_method_6_code 51 = .ok (.ireturn, 1) := by decide +kernel
theorem d_Obj_take_0 : decode prog_2_method_7_code 0 = .ok (.aload_n 0, 1) := by decide +kernel
theorem d_Obj_take_1 : decode prog_2_method_7_code 1 = .ok (.getfield 43, 3) := by decide +kernel
theorem d_Obj_take_4 : decode prog_2_method_7_code 4 = .ok (.istore_n 2, 1) := by decide +kernel
theorem d_Obj_take_5 : decode prog_2_method_7_code 5 = .ok (.aload_n 0, 1) := by decide +kernel
theorem d_Obj_take_6 : decode prog_2_method_7_code 6 = .ok (.getfield 37, 3) := by decide +kernel
theorem d_Obj_take_9 : decode prog_2_method_7_code 9 = .ok (.iconst 1, 1) := by decide +kernel
theorem d_Obj_take_10 : decode prog_2_method_7_code 10 = .ok (.if_icmp .ne 11, 3) := by decide +kernel
theorem d_Obj_take_13 : decode prog_2_method_7_code 13 = .ok (.aload_n 0, 1) := by decide +kernel
theorem d_Obj_take_14 : decode prog_2_method_7_code 14 = .ok (.iconst 0, 1) := by decide +kernel
theorem d_Obj_take_15 : decode prog_2_method_7_code 15 = .ok (.putfield 40, 3) := by decide +kernel
theorem d_Obj_take_18 : decode prog_2_method_7_code 18 = .ok (.goto 52, 3) := by decide +kernel
theorem d_Obj_take_21 : decode prog_2_method_7_code 21 = .ok (.aload_n 0, 1) := by decide +kernel
theorem d_Obj_take_22 : decode prog_2_method_7_code 22 = .ok (.getfield 37, 3) := by decide +kernel
theorem d_Obj_take_25 : decode prog_2_method_7_code 25 = .ok (.iconst 3, 1) := by decide +kernel
theorem d_Obj_take_26 : decode prog_2_method_7_code 26 = .ok (.if_icmp .ne 16, 3) := by decide +kernel
theorem d_Obj_take_29 : decode prog_2_method_7_code 29 = .ok (.aload_n 0, 1) := by decide +kernel
theorem d_Obj_take_30 : decode prog_2_method_7_code 30 = .ok (.dup, 1) := by decide +kernel
theorem d_Obj_take_31 : decode prog_2_method_7_code 31 = .ok (.getfield 40, 3) := by decide +kernel
theorem d_Obj_take_34 : decode prog_2_method_7_code 34 = .ok (.iconst 1, 1) := by decide +kernel
theorem d_Obj_take_35 : decode prog_2_method_7_code 35 = .ok (.isub, 1) := by decide +kernel
theorem d_Obj_take_36 : decode prog_2_method_7_code 36 = .ok (.putfield 40, 3) := by decide +kernel
theorem d_Obj_take_39 : decode prog_2_method_7_code 39 = .ok (.goto 31, 3) := by decide +kernel
theorem d_Obj_take_42 : decode prog_2_method_7_code 42 = .ok (.aload_n 0, 1) := by decide +kernel
theorem d_Obj_take_43 : decode prog_2_method_7_code 43 = .ok (.getfield 37, 3) := by decide +kernel
theorem d_Obj_take_46 : decode prog_2_method_7_code 46 = .ok (.iconst 2, 1) := by decide +kernel
theorem d_Obj_take_47 : decode prog_2_method_7_code 47 = .ok (.if_icmp .ne 23, 3) := by decide +kernel
theorem d_Obj_take_50 : decode prog_2_method_7_code 50 = .ok (.aload_n 0, 1) := by decide +kernel
theorem d_Obj_take_51 : decode prog_2_method_7_code 51 = .ok (.iload_n 1, 1) := by decide +kernel
theorem d_Obj_take_52 : decode prog_2_method_7_code 52 = .ok (.putfield 31, 3) := by decide +kernel
theorem d_Obj_take_55 : decode prog_2_method_7_code 55 = .ok (.aload_n 0, 1) := by decide +kernel
theorem d_Obj_take_56 : decode prog_2_method_7_code 56 = .ok (.dup, 1) := by decide +kernel
theorem d_Obj_take_57 : decode prog_2_method_7_code 57 = .ok (.getfield 40, 3) := by decide +kernel
theorem d_Obj_take_60 : decode prog_2_method_7_code 60 = .ok (.iconst 1, 1) := by decide +kernel
theorem d_Obj_take_61 : decode prog_2_method_7_code 61 = .ok (.iadd, 1) := by decide +kernel
theorem d_Obj_take_62 : decode prog_2_method_7_code 62 = .ok (.putfield 40, 3) := by decide +kernel
theorem d_Obj_take_65 : decode prog_2_method_7_code 65 = .ok (.aload_n 0, 1) := by decide +kernel
theorem d_Obj_take_66 : decode prog_2_method_7_code 66 = .ok (.iconst 0, 1) := by decide +kernel
theorem d_Obj_take_67 : decode prog_2_method_7_code 67 = .ok (.putfield 43, 3) := by decide +kernel
theorem d_Obj_take_70 : decode prog_2_method_7_code 70 = .ok (.iload_n 2, 1) := by decide +kernel
theorem d_Obj_take_71 : decode prog_2_method_7_code 71 = .ok (.ireturn, 1) := by decide +kernel
theorem d_Desk_satisfyAll_0 : decode prog_1_method_46_code 0 = .ok (.iconst 0, 1) := by decide +kernel
theorem d_Desk_satisfyAll_1 : decode prog_1_method_46_code 1 = .ok (.istore_n 2, 1) := by decide +kernel
theorem d_Desk_satisfyAll_2 : decode prog_1_method_46_code 2 = .ok (.iload_n 2, 1) := by decide +kernel
theorem d_Desk_satisfyAll_3 : decode prog_1_method_46_code 3 = .ok (.iconst 3, 1) := by decide +kernel
theorem d_Desk_satisfyAll_4 : decode prog_1_method_46_code 4 = .ok (.if_icmp .ge 42, 3) := by decide +kernel
theorem d_Desk_satisfyAll_7 : decode prog_1_method_46_code 7 = .ok (.aload_n 0, 1) := by decide +kernel
theorem d_Desk_satisfyAll_8 : decode prog_1_method_46_code 8 = .ok (.getfield 26, 3) := by decide +kernel
theorem d_Desk_satisfyAll_11 : decode prog_1_method_46_code 11 = .ok (.iload_n 1, 1) := by decide +kernel
theorem d_Desk_satisfyAll_12 : decode prog_1_method_46_code 12 = .ok (.aaload, 1) := by decide +kernel
theorem d_Desk_satisfyAll_13 : decode prog_1_method_46_code 13 = .ok (.getfield 355, 3) := by decide +kernel
theorem d_Desk_satisfyAll_16 : decode prog_1_method_46_code 16 = .ok (.iload_n 2, 1) := by decide +kernel
theorem d_Desk_satisfyAll_17 : decode prog_1_method_46_code 17 = .ok (.iaload, 1) := by decide +kernel
theorem d_Desk_satisfyAll_18 : decode prog_1_method_46_code 18 = .ok (.istore_n 3, 1) := by decide +kernel
theorem d_Desk_satisfyAll_19 : decode prog_1_method_46_code 19 = .ok (.iload_n 3, 1) := by decide +kernel
theorem d_Desk_satisfyAll_20 : decode prog_1_method_46_code 20 = .ok (.iconst (-1), 1) := by decide +kernel
theorem d_Desk_satisfyAll_21 : decode prog_1_method_46_code 21 = .ok (.if_icmp .eq 19, 3) := by decide +kernel
theorem d_Desk_satisfyAll_24 : decode prog_1_method_46_code 24 = .ok (.aload_n 0, 1) := by decide +kernel
theorem d_Desk_satisfyAll_25 : decode prog_1_method_46_code 25 = .ok (.getfield 29, 3) := by decide +kernel
theorem d_Desk_satisfyAll_28 : decode prog_1_method_46_code 28 = .ok (.iload_n 3, 1) := by decide +kernel
theorem d_Desk_satisfyAll_29 : decode prog_1_method_46_code 29 = .ok (.aaload, 1) := by decide +kernel
theorem d_Desk_satisfyAll_30 : decode prog_1_method_46_code 30 = .ok (.iload_n 1, 1) := by decide +kernel
theorem d_Desk_satisfyAll_31 : decode prog_1_method_46_code 31 = .ok (.invokevirtual 358, 3) := by decide +kernel
theorem d_Desk_satisfyAll_34 : decode prog_1_method_46_code 34 = .ok (.ifCond .ne 6, 3) := by decide +kernel
theorem d_Desk_satisfyAll_37 : decode prog_1_method_46_code 37 = .ok (.bipush (-10), 2) := by decide +kernel
theorem d_Desk_satisfyAll_39 : decode prog_1_method_46_code 39 = .ok (.ireturn, 1) := by decide +kernel
theorem d_Desk_satisfyAll_40 : decode prog_1_method_46_code 40 = .ok (.iinc 2 1, 3) := by decide +kernel
theorem d_Desk_satisfyAll_43 : decode prog_1_method_46_code 43 = .ok (.goto (-41), 3) := by decide +kernel
theorem d_Desk_satisfyAll_46 : decode prog_1_method_46_code 46 = .ok (.iconst 0, 1) := by decide +kernel
theorem d_Desk_satisfyAll_47 : decode prog_1_method_46_code 47 = .ok (.istore_n 2, 1) := by decide +kernel
theorem d_Desk_satisfyAll_48 : decode prog_1_method_46_code 48 = .ok (.iconst 0, 1) := by decide +kernel
theorem d_Desk_satisfyAll_49 : decode prog_1_method_46_code 49 = .ok (.istore_n 3, 1) := by decide +kernel
theorem d_Desk_satisfyAll_50 : decode prog_1_method_46_code 50 = .ok (.iload_n 3, 1) := by decide +kernel
theorem d_Desk_satisfyAll_51 : decode prog_1_method_46_code 51 = .ok (.iconst 3, 1) := by decide +kernel
theorem d_Desk_satisfyAll_52 : decode prog_1_method_46_code 52 = .ok (.if_icmp .ge 44, 3) := by decide +kernel
theorem d_Desk_satisfyAll_55 : decode prog_1_method_46_code 55 = .ok (.aload_n 0, 1) := by decide +kernel
theorem d_Desk_satisfyAll_56 : decode prog_1_method_46_code 56 = .ok (.getfield 26, 3) := by decide +kernel
theorem d_Desk_satisfyAll_59 : decode prog_1_method_46_code 59 = .ok (.iload_n 1, 1) := by decide +kernel
theorem d_Desk_satisfyAll_60 : decode prog_1_method_46_code 60 = .ok (.aaload, 1) := by decide +kernel
theorem d_Desk_satisfyAll_61 : decode prog_1_method_46_code 61 = .ok (.getfield 355, 3) := by decide +kernel
theorem d_Desk_satisfyAll_64 : decode prog_1_method_46_code 64 = .ok (.iload_n 3, 1) := by decide +kernel
theorem d_Desk_satisfyAll_65 : decode prog_1_method_46_code 65 = .ok (.iaload, 1) := by decide +kernel
theorem d_Desk_satisfyAll_66 : decode prog_1_method_46_code 66 = .ok (.istore 4, 2) := by decide +kernel
theorem d_Desk_satisfyAll_68 : decode prog_1_method_46_code 68 = .ok (.iload 4, 2) := by decide +kernel
theorem d_Desk_satisfyAll_70 : decode prog_1_method_46_code 70 = .ok (.iconst (-1), 1) := by decide +kernel
theorem d_Desk_satisfyAll_71 : decode prog_1_method_46_code 71 = .ok (.if_icmp .eq 19, 3) := by decide +kernel
theorem d_Desk_satisfyAll_74 : decode prog_1_method_46_code 74 = .ok (.aload_n 0, 1) := by decide +kernel
theorem d_Desk_satisfyAll_75 : decode prog_1_method_46_code 75 = .ok (.getfield 29, 3) := by decide +kernel
theorem d_Desk_satisfyAll_78 : decode prog_1_method_46_code 78 = .ok (.iload 4, 2) := by decide +kernel
theorem d_Desk_satisfyAll_80 : decode prog_1_method_46_code 80 = .ok (.aaload, 1) := by decide +kernel
theorem d_Desk_satisfyAll_81 : decode prog_1_method_46_code 81 = .ok (.iload_n 1, 1) := by decide +kernel
theorem d_Desk_satisfyAll_82 : decode prog_1_method_46_code 82 = .ok (.invokevirtual 361, 3) := by decide +kernel
theorem d_Desk_satisfyAll_85 : decode prog_1_method_46_code 85 = .ok (.ifCond .eq 5, 3) := by decide +kernel
theorem d_Desk_satisfyAll_88 : decode prog_1_method_46_code 88 = .ok (.iconst 1, 1) := by decide +kernel
theorem d_Desk_satisfyAll_89 : decode prog_1_method_46_code 89 = .ok (.istore_n 2, 1) := by decide +kernel
theorem d_Desk_satisfyAll_90 : decode prog_1_method_46_code 90 = .ok (.iinc 3 1, 3) := by decide +kernel
theorem d_Desk_satisfyAll_93 : decode prog_1_method_46_code 93 = .ok (.goto (-43), 3) := by decide +kernel
theorem d_Desk_satisfyAll_96 : decode prog_1_method_46_code 96 = .ok (.iload_n 2, 1) := by decide +kernel
theorem d_Desk_satisfyAll_97 : decode prog_1_method_46_code 97 = .ok (.ifCond .eq 8, 3) := by decide +kernel
theorem d_Desk_satisfyAll_100 : decode prog_1_method_46_code 100 = .ok (.bipush 16, 2) := by decide +kernel
theorem d_Desk_satisfyAll_102 : decode prog_1_method_46_code 102 = .ok (.goto 4, 3) := by decide +kernel
theorem d_Desk_satisfyAll_105 : decode prog_1_method_46_code 105 = .ok (.iconst 0, 1) := by decide +kernel
theorem d_Desk_satisfyAll_106 : decode prog_1_method_46_code 106 = .ok (.ireturn, 1) := by decide +kernel
theorem d_Desk_satisfyAny_0 : decode prog_1_method_45_code 0 = .ok (.iconst 0, 1) := by decide +kernel
theorem d_Desk_satisfyAny_1 : decode prog_1_method_45_code 1 = .ok (.istore_n 2, 1) := by decide +kernel
theorem d_Desk_satisfyAny_2 : decode prog_1_method_45_code 2 = .ok (.iload_n 2, 1) := by decide +kernel
theorem d_Desk_satisfyAny_3 : decode prog_1_method_45_code 3 = .ok (.iconst 3, 1) := by decide +kernel
theorem d_Desk_satisfyAny_4 : decode prog_1_method_45_code 4 = .ok (.if_icmp .ge 61, 3) := by decide +kernel
theorem d_Desk_satisfyAny_7 : decode prog_1_method_45_code 7 = .ok (.aload_n 0, 1) := by decide +kernel
theorem d_Desk_satisfyAny_8 : decode prog_1_method_45_code 8 = .ok (.getfield 26, 3) := by decide +kernel
theorem d_Desk_satisfyAny_11 : decode prog_1_method_45_code 11 = .ok (.iload_n 1, 1) := by decide +kernel
theorem d_Desk_satisfyAny_12 : decode prog_1_method_45_code 12 = .ok (.aaload, 1) := by decide +kernel
theorem d_Desk_satisfyAny_13 : decode prog_1_method_45_code 13 = .ok (.getfield 355, 3) := by decide +kernel
theorem d_Desk_satisfyAny_16 : decode prog_1_method_45_code 16 = .ok (.iload_n 2, 1) := by decide +kernel
theorem d_Desk_satisfyAny_17 : decode prog_1_method_45_code 17 = .ok (.iaload, 1) := by decide +kernel
theorem d_Desk_satisfyAny_18 : decode prog_1_method_45_code 18 = .ok (.istore_n 3, 1) := by decide +kernel
theorem d_Desk_satisfyAny_19 : decode prog_1_method_45_code 19 = .ok (.iload_n 3, 1) := by decide +kernel
theorem d_Desk_satisfyAny_20 : decode prog_1_method_45_code 20 = .ok (.iconst (-1), 1) := by decide +kernel
theorem d_Desk_satisfyAny_21 : decode prog_1_method_45_code 21 = .ok (.if_icmp .eq 38, 3) := by decide +kernel
theorem d_Desk_satisfyAny_24 : decode prog_1_method_45_code 24 = .ok (.aload_n 0, 1) := by decide +kernel
theorem d_Desk_satisfyAny_25 : decode prog_1_method_45_code 25 = .ok (.getfield 29, 3) := by decide +kernel
theorem d_Desk_satisfyAny_28 : decode prog_1_method_45_code 28 = .ok (.iload_n 3, 1) := by decide +kernel
theorem d_Desk_satisfyAny_29 : decode prog_1_method_45_code 29 = .ok (.aaload, 1) := by decide +kernel
theorem d_Desk_satisfyAny_30 : decode prog_1_method_45_code 30 = .ok (.iload_n 1, 1) := by decide +kernel
theorem d_Desk_satisfyAny_31 : decode prog_1_method_45_code 31 = .ok (.invokevirtual 358, 3) := by decide +kernel
theorem d_Desk_satisfyAny_34 : decode prog_1_method_45_code 34 = .ok (.ifCond .eq 25, 3) := by decide +kernel
theorem d_Desk_satisfyAny_37 : decode prog_1_method_45_code 37 = .ok (.aload_n 0, 1) := by decide +kernel
theorem d_Desk_satisfyAny_38 : decode prog_1_method_45_code 38 = .ok (.getfield 29, 3) := by decide +kernel
theorem d_Desk_satisfyAny_41 : decode prog_1_method_45_code 41 = .ok (.iload_n 3, 1) := by decide +kernel
theorem d_Desk_satisfyAny_42 : decode prog_1_method_45_code 42 = .ok (.aaload, 1) := by decide +kernel
theorem d_Desk_satisfyAny_43 : decode prog_1_method_45_code 43 = .ok (.iload_n 1, 1) := by decide +kernel
theorem d_Desk_satisfyAny_44 : decode prog_1_method_45_code 44 = .ok (.invokevirtual 361, 3) := by decide +kernel
theorem d_Desk_satisfyAny_47 : decode prog_1_method_45_code 47 = .ok (.ifCond .eq 10, 3) := by decide +kernel
theorem d_Desk_satisfyAny_50 : decode prog_1_method_45_code 50 = .ok (.iload_n 2, 1) := by decide +kernel
theorem d_Desk_satisfyAny_51 : decode prog_1_method_45_code 51 = .ok (.bipush 16, 2) := by decide +kernel
theorem d_Desk_satisfyAny_53 : decode prog_1_method_45_code 53 = .ok (.iadd, 1) := by decide +kernel
theorem d_Desk_satisfyAny_54 : decode prog_1_method_45_code 54 = .ok (.goto 4, 3) := by decide +kernel
theorem d_Desk_satisfyAny_57 : decode prog_1_method_45_code 57 = .ok (.iload_n 2, 1) := by decide +kernel
theorem d_Desk_satisfyAny_58 : decode prog_1_method_45_code 58 = .ok (.ireturn, 1) := by decide +kernel
theorem d_Desk_satisfyAny_59 : decode prog_1_method_45_code 59 = .ok (.iinc 2 1, 3) := by decide +kernel
theorem d_Desk_satisfyAny_62 : decode prog_1_method_45_code 62 = .ok (.goto (-60), 3) := by decide +kernel
theorem d_Desk_satisfyAny_65 : decode prog_1_method_45_code 65 = .ok (.bipush (-10), 2) := by decide +kernel
theorem d_Desk_satisfyAny_67 : decode prog_1_method_45_code 67 = .ok (.ireturn, 1) := by decide +kernel
theorem d_Desk_satisfy_0 : decode prog_1_method_44_code 0 = .ok (.aload_n 0, 1) := by decide +kernel
theorem d_Desk_satisfy_1 : decode prog_1_method_44_code 1 = .ok (.getfield 26, 3) := by decide +kernel
theorem d_Desk_satisfy_4 : decode prog_1_method_44_code 4 = .ok (.iload_n 1, 1) := by decide +kernel
theorem d_Desk_satisfy_5 : decode prog_1_method_44_code 5 = .ok (.aaload, 1) := by decide +kernel
theorem d_Desk_satisfy_6 : decode prog_1_method_44_code 6 = .ok (.getfield 346, 3) := by decide +kernel
theorem d_Desk_satisfy_9 : decode prog_1_method_44_code 9 = .ok (.ifCond .eq 11, 3) := by decide +kernel
theorem d_Desk_satisfy_12 : decode prog_1_method_44_code 12 = .ok (.aload_n 0, 1) := by decide +kernel
theorem d_Desk_satisfy_13 : decode prog_1_method_44_code 13 = .ok (.iload_n 1, 1) := by decide +kernel
theorem d_Desk_satisfy_14 : decode prog_1_method_44_code 14 = .ok (.invokevirtual 349, 3) := by decide +kernel
theorem d_Desk_satisfy_17 : decode prog_1_method_44_code 17 = .ok (.goto 8, 3) := by decide +kernel
theorem d_Desk_satisfy_20 : decode prog_1_method_44_code 20 = .ok (.aload_n 0, 1) := by decide +kernel
theorem d_Desk_satisfy_21 : decode prog_1_method_44_code 21 = .ok (.iload_n 1, 1) := by decide +kernel
theorem d_Desk_satisfy_22 : decode prog_1_method_44_code 22 = .ok (.invokevirtual 352, 3) := by decide +kernel
theorem d_Desk_satisfy_25 : decode prog_1_method_44_code 25 = .ok (.ireturn, 1) := by decide +kernel
theorem d_Row_removeValue_0 : decode prog_4_method_7_code 0 = .ok (.iconst 0, 1) := by decide +kernel
theorem d_Row_removeValue_1 : decode prog_4_method_7_code 1 = .ok (.istore_n 2, 1) := by decide +kernel
theorem d_Row_removeValue_2 : decode prog_4_method_7_code 2 = .ok (.iconst 0, 1) := by decide +kernel
theorem d_Row_removeValue_3 : decode prog_4_method_7_code 3 = .ok (.istore_n 3, 1) := by decide +kernel
theorem d_Row_removeValue_4 : decode prog_4_method_7_code 4 = .ok (.iload_n 3, 1) := by decide +kernel
theorem d_Row_removeValue_5 : decode prog_4_method_7_code 5 = .ok (.aload_n 0, 1) := by decide +kernel
theorem d_Row_removeValue_6 : decode prog_4_method_7_code 6 = .ok (.getfield 15, 3) := by decide +kernel
theorem d_Row_removeValue_9 : decode prog_4_method_7_code 9 = .ok (.if_icmp .ge 34, 3) := by decide +kernel
theorem d_Row_removeValue_12 : decode prog_4_method_7_code 12 = .ok (.aload_n 0, 1) := by decide +kernel
theorem d_Row_removeValue_13 : decode prog_4_method_7_code 13 = .ok (.getfield 9, 3) := by decide +kernel
theorem d_Row_removeValue_16 : decode prog_4_method_7_code 16 = .ok (.iload_n 3, 1) := by decide +kernel
theorem d_Row_removeValue_17 : decode prog_4_method_7_code 17 = .ok (.iaload, 1) := by decide +kernel
theorem d_Row_removeValue_18 : decode prog_4_method_7_code 18 = .ok (.iload_n 1, 1) := by decide +kernel
theorem d_Row_removeValue_19 : decode prog_4_method_7_code 19 = .ok (.if_icmp .eq 18, 3) := by decide +kernel
theorem d_Row_removeValue_22 : decode prog_4_method_7_code 22 = .ok (.aload_n 0, 1) := by decide +kernel
theorem d_Row_removeValue_23 : decode prog_4_method_7_code 23 = .ok (.getfield 9, 3) := by decide +kernel
theorem d_Row_removeValue_26 : decode prog_4_method_7_code 26 = .ok (.iload_n 2, 1) := by decide +kernel
theorem d_Row_removeValue_27 : decode prog_4_method_7_code 27 = .ok (.aload_n 0, 1) := by decide +kernel
theorem d_Row_removeValue_28 : decode prog_4_method_7_code 28 = .ok (.getfield 9, 3) := by decide +kernel
theorem d_Row_removeValue_31 : decode prog_4_method_7_code 31 = .ok (.iload_n 3, 1) := by decide +kernel
theorem d_Row_removeValue_32 : decode prog_4_method_7_code 32 = .ok (.iaload, 1) := by decide +kernel
theorem d_Row_removeValue_33 : decode prog_4_method_7_code 33 = .ok (.iastore, 1) := by decide +kernel
theorem d_Row_removeValue_34 : decode prog_4_method_7_code 34 = .ok (.iinc 2 1, 3) := by decide +kernel
theorem d_Row_removeValue_37 : decode prog_4_method_7_code 37 = .ok (.iinc 3 1, 3) := by decide +kernel
theorem d_Row_removeValue_40 : decode prog_4_method_7_code 40 = .ok (.goto (-36), 3) := by decide +kernel
theorem d_Row_removeValue_43 : decode prog_4_method_7_code 43 = .ok (.aload_n 0, 1) := by decide +kernel
theorem d_Row_removeValue_44 : decode prog_4_method_7_code 44 = .ok (.iload_n 2, 1) := by decide +kernel
theorem d_Row_removeValue_45 : decode prog_4_method_7_code 45 = .ok (.putfield 15, 3) := by decide +kernel
theorem d_Row_removeValue_48 : decode prog_4_method_7_code 48 = .ok (.return_, 1) := by decide +kernel
theorem d_Desk_pointToPlacesOf_0 : decode prog_1_method_49_code 0 = .ok (.iconst 0, 1) := by decide +kernel
theorem d_Desk_pointToPlacesOf_1 : decode prog_1_method_49_code 1 = .ok (.istore_n 3, 1) := by decide +kernel
theorem d_Desk_pointToPlacesOf_2 : decode prog_1_method_49_code 2 = .ok (.iload_n 3, 1) := by decide +kernel
theorem d_Desk_pointToPlacesOf_3 : decode prog_1_method_49_code 3 = .ok (.iconst 3, 1) := by decide +kernel
theorem d_Desk_pointToPlacesOf_4 : decode prog_1_method_49_code 4 = .ok (.if_icmp .ge 39, 3) := by decide +kernel
theorem d_Desk_pointToPlacesOf_7 : decode prog_1_method_49_code 7 = .ok (.aload_n 1, 1) := by decide +kernel
theorem d_Desk_pointToPlacesOf_8 : decode prog_1_method_49_code 8 = .ok (.getfield 355, 3) := by decide +kernel
theorem d_Desk_pointToPlacesOf_11 : decode prog_1_method_49_code 11 = .ok (.iload_n 3, 1) := by decide +kernel
theorem d_Desk_pointToPlacesOf_12 : decode prog_1_method_49_code 12 = .ok (.iaload, 1) := by decide +kernel
theorem d_Desk_pointToPlacesOf_13 : decode prog_1_method_49_code 13 = .ok (.istore 4, 2) := by decide +kernel
theorem d_Desk_pointToPlacesOf_15 : decode prog_1_method_49_code 15 = .ok (.iload 4, 2) := by decide +kernel
theorem d_Desk_pointToPlacesOf_17 : decode prog_1_method_49_code 17 = .ok (.iconst (-1), 1) := by decide +kernel
theorem d_Desk_pointToPlacesOf_18 : decode prog_1_method_49_code 18 = .ok (.if_icmp .eq 19, 3) := by decide +kernel
theorem d_Desk_pointToPlacesOf_21 : decode prog_1_method_49_code 21 = .ok (.aload_n 0, 1) := by decide +kernel
theorem d_Desk_pointToPlacesOf_22 : decode prog_1_method_49_code 22 = .ok (.getfield 29, 3) := by decide +kernel
theorem d_Desk_pointToPlacesOf_25 : decode prog_1_method_49_code 25 = .ok (.iload 4, 2) := by decide +kernel
theorem d_Desk_pointToPlacesOf_27 : decode prog_1_method_49_code 27 = .ok (.aaload, 1) := by decide +kernel
theorem d_Desk_pointToPlacesOf_28 : decode prog_1_method_49_code 28 = .ok (.dup, 1) := by decide +kernel
theorem d_Desk_pointToPlacesOf_29 : decode prog_1_method_49_code 29 = .ok (.getfield 204, 3) := by decide +kernel
theorem d_Desk_pointToPlacesOf_32 : decode prog_1_method_49_code 32 = .ok (.iload_n 2, 1) := by decide +kernel
theorem d_Desk_pointToPlacesOf_33 : decode prog_1_method_49_code 33 = .ok (.iadd, 1) := by decide +kernel
theorem d_Desk_pointToPlacesOf_34 : decode prog_1_method_49_code 34 = .ok (.putfield 204, 3) := by decide +kernel
theorem d_Desk_pointToPlacesOf_37 : decode prog_1_method_49_code 37 = .ok (.iinc 3 1, 3) := by decide +kernel
theorem d_Desk_pointToPlacesOf_40 : decode prog_1_method_49_code 40 = .ok (.goto (-38), 3) := by decide +kernel
theorem d_Desk_pointToPlacesOf_43 : decode prog_1_method_49_code 43 = .ok (.return_, 1) := by decide +kernel
theorem d_Desk_endWait_0 : decode prog_1_method_48_code 0 = .ok (.aload_n 0, 1) := by decide +kernel
theorem d_Desk_endWait_1 : decode prog_1_method_48_code 1 = .ok (.getfield 44, 3) := by decide +kernel
theorem d_Desk_endWait_4 : decode prog_1_method_48_code 4 = .ok (.iload_n 1, 1) := by decide +kernel
theorem d_Desk_endWait_5 : decode prog_1_method_48_code 5 = .ok (.invokevirtual 368, 3) := by decide +kernel
theorem d_Desk_endWait_8 : decode prog_1_method_48_code 8 = .ok (.aload_n 0, 1) := by decide +kernel
theorem d_Desk_endWait_9 : decode prog_1_method_48_code 9 = .ok (.getfield 26, 3) := by decide +kernel
theorem d_Desk_endWait_12 : decode prog_1_method_48_code 12 = .ok (.iload_n 1, 1) := by decide +kernel
theorem d_Desk_endWait_13 : decode prog_1_method_48_code 13 = .ok (.aaload, 1) := by decide +kernel
theorem d_Desk_endWait_14 : decode prog_1_method_48_code 14 = .ok (.iload_n 2, 1) := by decide +kernel
theorem d_Desk_endWait_15 : decode prog_1_method_48_code 15 = .ok (.putfield 252, 3) := by decide +kernel
theorem d_Desk_endWait_18 : decode prog_1_method_48_code 18 = .ok (.aload_n 0, 1) := by decide +kernel
theorem d_Desk_endWait_19 : decode prog_1_method_48_code 19 = .ok (.aload_n 0, 1) := by decide +kernel
theorem d_Desk_endWait_20 : decode prog_1_method_48_code 20 = .ok (.getfield 26, 3) := by decide +kernel
theorem d_Desk_endWait_23 : decode prog_1_method_48_code 23 = .ok (.iload_n 1, 1) := by decide +kernel
theorem d_Desk_endWait_24 : decode prog_1_method_48_code 24 = .ok (.aaload, 1) := by decide +kernel
theorem d_Desk_endWait_25 : decode prog_1_method_48_code 25 = .ok (.iconst (-1), 1) := by decide +kernel
theorem d_Desk_endWait_26 : decode prog_1_method_48_code 26 = .ok (.invokevirtual 364, 3) := by decide +kernel
theorem d_Desk_endWait_29 : decode prog_1_method_48_code 29 = .ok (.aload_n 0, 1) := by decide +kernel
theorem d_Desk_endWait_30 : decode prog_1_method_48_code 30 = .ok (.getfield 18, 3) := by decide +kernel
theorem d_Desk_endWait_33 : decode prog_1_method_48_code 33 = .ok (.iload_n 1, 1) := by decide +kernel
theorem d_Desk_endWait_34 : decode prog_1_method_48_code 34 = .ok (.invokevirtual 86, 3) := by decide +kernel
theorem d_Desk_endWait_37 : decode prog_1_method_48_code 37 = .ok (.return_, 1) := by decide +kernel
theorem d_Desk_release_0 : decode prog_1_method_50_code 0 = .ok (.iconst 0, 1) := by decide +kernel
theorem d_Desk_release_1 : decode prog_1_method_50_code 1 = .ok (.istore_n 1, 1) := by decide +kernel
theorem d_Desk_release_2 : decode prog_1_method_50_code 2 = .ok (.iconst 0, 1) := by decide +kernel
theorem d_Desk_release_3 : decode prog_1_method_50_code 3 = .ok (.istore_n 2, 1) := by decide +kernel
theorem d_Desk_release_4 : decode prog_1_method_50_code 4 = .ok (.iload_n 2, 1) := by decide +kernel
theorem d_Desk_release_5 : decode prog_1_method_50_code 5 = .ok (.bipush 8, 2) := by decide +kernel
theorem d_Desk_release_7 : decode prog_1_method_50_code 7 = .ok (.if_icmp .ge 56, 3) := by decide +kernel
theorem d_Desk_release_10 : decode prog_1_method_50_code 10 = .ok (.iload_n 1, 1) := by decide +kernel
theorem d_Desk_release_11 : decode prog_1_method_50_code 11 = .ok (.aload_n 0, 1) := by decide +kernel
theorem d_Desk_release_12 : decode prog_1_method_50_code 12 = .ok (.getfield 44, 3) := by decide +kernel
theorem d_Desk_release_15 : decode prog_1_method_50_code 15 = .ok (.getfield 181, 3) := by decide +kernel
theorem d_Desk_release_18 : decode prog_1_method_50_code 18 = .ok (.if_icmp .ge 45, 3) := by decide +kernel
theorem d_Desk_release_21 : decode prog_1_method_50_code 21 = .ok (.aload_n 0, 1) := by decide +kernel
theorem d_Desk_release_22 : decode prog_1_method_50_code 22 = .ok (.getfield 44, 3) := by decide +kernel
theorem d_Desk_release_25 : decode prog_1_method_50_code 25 = .ok (.iload_n 1, 1) := by decide +kernel
theorem d_Desk_release_26 : decode prog_1_method_50_code 26 = .ok (.invokevirtual 371, 3) := by decide +kernel
theorem d_Desk_release_29 : decode prog_1_method_50_code 29 = .ok (.istore_n 3, 1) := by decide +kernel
theorem d_Desk_release_30 : decode prog_1_method_50_code 30 = .ok (.aload_n 0, 1) := by decide +kernel
theorem d_Desk_release_31 : decode prog_1_method_50_code 31 = .ok (.iload_n 3, 1) := by decide +kernel
theorem d_Desk_release_32 : decode prog_1_method_50_code 32 = .ok (.invokevirtual 185, 3) := by decide +kernel
theorem d_Desk_release_35 : decode prog_1_method_50_code 35 = .ok (.istore 4, 2) := by decide +kernel
theorem d_Desk_release_37 : decode prog_1_method_50_code 37 = .ok (.iload 4, 2) := by decide +kernel
theorem d_Desk_release_39 : decode prog_1_method_50_code 39 = .ok (.bipush (-10), 2) := by decide +kernel
theorem d_Desk_release_41 : decode prog_1_method_50_code 41 = .ok (.if_icmp .ne 9, 3) := by decide +kernel
theorem d_Desk_release_44 : decode prog_1_method_50_code 44 = .ok (.iinc 1 1, 3) := by decide +kernel
theorem d_Desk_release_47 : decode prog_1_method_50_code 47 = .ok (.goto 10, 3) := by decide +kernel
theorem d_Desk_release_50 : decode prog_1_method_50_code 50 = .ok (.aload_n 0, 1) := by decide +kernel
theorem d_Desk_release_51 : decode prog_1_method_50_code 51 = .ok (.iload_n 3, 1) := by decide +kernel
theorem d_Desk_release_52 : decode prog_1_method_50_code 52 = .ok (.iload 4, 2) := by decide +kernel
theorem d_Desk_release_54 : decode prog_1_method_50_code 54 = .ok (.invokevirtual 374, 3) := by decide +kernel
theorem d_Desk_release_57 : decode prog_1_method_50_code 57 = .ok (.iinc 2 1, 3) := by decide +kernel
theorem d_Desk_release_60 : decode prog_1_method_50_code 60 = .ok (.goto (-56), 3) := by decide +kernel
theorem d_Desk_release_63 : decode prog_1_method_50_code 63 = .ok (.return_, 1) := by decide +kernel
theorem d_Desk_raiseCount_0 : decode prog_1_method_40_code 0 = .ok (.aload_n 1, 1) := by decide +kernel
theorem d_Desk_raiseCount_1 : decode prog_1_method_40_code 1 = .ok (.getfield 273, 3) := by decide +kernel
theorem d_Desk_raiseCount_4 : decode prog_1_method_40_code 4 = .ok (.istore_n 3, 1) := by decide +kernel
theorem d_Desk_raiseCount_5 : decode prog_1_method_40_code 5 = .ok (.iload_n 3, 1) := by decide +kernel
theorem d_Desk_raiseCount_6 : decode prog_1_method_40_code 6 = .ok (.iload_n 2, 1) := by decide +kernel
theorem d_Desk_raiseCount_7 : decode prog_1_method_40_code 7 = .ok (.iadd, 1) := by decide +kernel
theorem d_Desk_raiseCount_8 : decode prog_1_method_40_code 8 = .ok (.bipush 9, 2) := by decide +kernel
theorem d_Desk_raiseCount_10 : decode prog_1_method_40_code 10 = .ok (.if_icmp .le 6, 3) := by decide +kernel
theorem d_Desk_raiseCount_13 : decode prog_1_method_40_code 13 = .ok (.bipush (-8), 2) := by decide +kernel
theorem d_Desk_raiseCount_15 : decode prog_1_method_40_code 15 = .ok (.ireturn, 1) := by decide +kernel
theorem d_Desk_raiseCount_16 : decode prog_1_method_40_code 16 = .ok (.aload_n 1, 1) := by decide +kernel
theorem d_Desk_raiseCount_17 : decode prog_1_method_40_code 17 = .ok (.iload_n 3, 1) := by decide +kernel
theorem d_Desk_raiseCount_18 : decode prog_1_method_40_code 18 = .ok (.iload_n 2, 1) := by decide +kernel
theorem d_Desk_raiseCount_19 : decode prog_1_method_40_code 19 = .ok (.iadd, 1) := by decide +kernel
theorem d_Desk_raiseCount_20 : decode prog_1_method_40_code 20 = .ok (.putfield 273, 3) := by decide +kernel
theorem d_Desk_raiseCount_23 : decode prog_1_method_40_code 23 = .ok (.aload_n 0, 1) := by decide +kernel
theorem d_Desk_raiseCount_24 : decode prog_1_method_40_code 24 = .ok (.invokevirtual 343, 3) := by decide +kernel
theorem d_Desk_raiseCount_27 : decode prog_1_method_40_code 27 = .ok (.iload_n 3, 1) := by decide +kernel
theorem d_Desk_raiseCount_28 : decode prog_1_method_40_code 28 = .ok (.ireturn, 1) := by decide +kernel
theorem d_Desk_giveBack_0 : decode prog_1_method_41_code 0 = .ok (.aload_n 1, 1) := by decide +kernel
theorem d_Desk_giveBack_1 : decode prog_1_method_41_code 1 = .ok (.getfield 117, 3) := by decide +kernel
theorem d_Desk_giveBack_4 : decode prog_1_method_41_code 4 = .ok (.aload_n 0, 1) := by decide +kernel
theorem d_Desk_giveBack_5 : decode prog_1_method_41_code 5 = .ok (.getfield 18, 3) := by decide +kernel
theorem d_Desk_giveBack_8 : decode prog_1_method_41_code 8 = .ok (.getfield 92, 3) := by decide +kernel
theorem d_Desk_giveBack_11 : decode prog_1_method_41_code 11 = .ok (.if_icmp .eq 6, 3) := by decide +kernel
theorem d_Desk_giveBack_14 : decode prog_1_method_41_code 14 = .ok (.bipush (-9), 2) := by decide +kernel
theorem d_Desk_giveBack_16 : decode prog_1_method_41_code 16 = .ok (.ireturn, 1) := by decide +kernel
theorem d_Desk_giveBack_17 : decode prog_1_method_41_code 17 = .ok (.aload_n 1, 1) := by decide +kernel
theorem d_Desk_giveBack_18 : decode prog_1_method_41_code 18 = .ok (.dup, 1) := by decide +kernel
theorem d_Desk_giveBack_19 : decode prog_1_method_41_code 19 = .ok (.getfield 273, 3) := by decide +kernel
theorem d_Desk_giveBack_22 : decode prog_1_method_41_code 22 = .ok (.iconst 1, 1) := by decide +kernel
theorem d_Desk_giveBack_23 : decode prog_1_method_41_code 23 = .ok (.isub, 1) := by decide +kernel
theorem d_Desk_giveBack_24 : decode prog_1_method_41_code 24 = .ok (.putfield 273, 3) := by decide +kernel
theorem d_Desk_giveBack_27 : decode prog_1_method_41_code 27 = .ok (.aload_n 1, 1) := by decide +kernel
theorem d_Desk_giveBack_28 : decode prog_1_method_41_code 28 = .ok (.getfield 273, 3) := by decide +kernel
theorem d_Desk_giveBack_31 : decode prog_1_method_41_code 31 = .ok (.istore_n 2, 1) := by decide +kernel
theorem d_Desk_giveBack_32 : decode prog_1_method_41_code 32 = .ok (.iload_n 2, 1) := by decide +kernel
theorem d_Desk_giveBack_33 : decode prog_1_method_41_code 33 = .ok (.ifCond .ne 12, 3) := by decide +kernel
theorem d_Desk_giveBack_36 : decode prog_1_method_41_code 36 = .ok (.aload_n 1, 1) := by decide +kernel
theorem d_Desk_giveBack_37 : decode prog_1_method_41_code 37 = .ok (.iconst (-1), 1) := by decide +kernel
theorem d_Desk_giveBack_38 : decode prog_1_method_41_code 38 = .ok (.putfield 117, 3) := by decide +kernel
theorem d_Desk_giveBack_41 : decode prog_1_method_41_code 41 = .ok (.aload_n 0, 1) := by decide +kernel
theorem d_Desk_giveBack_42 : decode prog_1_method_41_code 42 = .ok (.invokevirtual 343, 3) := by decide +kernel
theorem d_Desk_giveBack_45 : decode prog_1_method_41_code 45 = .ok (.iload_n 2, 1) := by decide +kernel
theorem d_Desk_giveBack_46 : decode prog_1_method_41_code 46 = .ok (.ireturn, 1) := by decide +kernel
theorem d_Desk_startTimer_0 : decode prog_1_method_42_code 0 = .ok (.aload_n 1, 1) := by decide +kernel
theorem d_Desk_startTimer_1 : decode prog_1_method_42_code 1 = .ok (.getfield 273, 3) := by decide +kernel
theorem d_Desk_startTimer_4 : decode prog_1_method_42_code 4 = .ok (.istore_n 3, 1) := by decide +kernel
theorem d_Desk_startTimer_5 : decode prog_1_method_42_code 5 = .ok (.aload_n 1, 1) := by decide +kernel
theorem d_Desk_startTimer_6 : decode prog_1_method_42_code 6 = .ok (.iconst 0, 1) := by decide +kernel
theorem d_Desk_startTimer_7 : decode prog_1_method_42_code 7 = .ok (.putfield 273, 3) := by decide +kernel
theorem d_Desk_startTimer_10 : decode prog_1_method_42_code 10 = .ok (.aload_n 1, 1) := by decide +kernel
theorem d_Desk_startTimer_11 : decode prog_1_method_42_code 11 = .ok (.iload_n 2, 1) := by decide +kernel
theorem d_Desk_startTimer_12 : decode prog_1_method_42_code 12 = .ok (.ifCond .ne 7, 3) := by decide +kernel
theorem d_Desk_startTimer_15 : decode prog_1_method_42_code 15 = .ok (.iconst (-1), 1) := by decide +kernel
theorem d_Desk_startTimer_16 : decode prog_1_method_42_code 16 = .ok (.goto 9, 3) := by decide +kernel
theorem d_Desk_startTimer_19 : decode prog_1_method_42_code 19 = .ok (.aload_n 0, 1) := by decide +kernel
theorem d_Desk_startTimer_20 : decode prog_1_method_42_code 20 = .ok (.getfield 249, 3) := by decide +kernel
theorem d_Desk_startTimer_23 : decode prog_1_method_42_code 23 = .ok (.iload_n 2, 1) := by decide +kernel
theorem d_Desk_startTimer_24 : decode prog_1_method_42_code 24 = .ok (.iadd, 1) := by decide +kernel
theorem d_Desk_startTimer_25 : decode prog_1_method_42_code 25 = .ok (.putfield 318, 3) := by decide +kernel
theorem d_Desk_startTimer_28 : decode prog_1_method_42_code 28 = .ok (.iload_n 3, 1) := by decide +kernel
theorem d_Desk_startTimer_29 : decode prog_1_method_42_code 29 = .ok (.ireturn, 1) := by decide +kernel
theorem d_Desk_turnTo_0 : decode prog_1_method_39_code 0 = .ok (.aload_n 1, 1) := by decide +kernel
theorem d_Desk_turnTo_1 : decode prog_1_method_39_code 1 = .ok (.getfield 273, 3) := by decide +kernel
theorem d_Desk_turnTo_4 : decode prog_1_method_39_code 4 = .ok (.istore_n 3, 1) := by decide +kernel
theorem d_Desk_turnTo_5 : decode prog_1_method_39_code 5 = .ok (.aload_n 1, 1) := by decide +kernel
theorem d_Desk_turnTo_6 : decode prog_1_method_39_code 6 = .ok (.iload_n 2, 1) := by decide +kernel
theorem d_Desk_turnTo_7 : decode prog_1_method_39_code 7 = .ok (.putfield 273, 3) := by decide +kernel
theorem d_Desk_turnTo_10 : decode prog_1_method_39_code 10 = .ok (.iload_n 2, 1) := by decide +kernel
theorem d_Desk_turnTo_11 : decode prog_1_method_39_code 11 = .ok (.iconst 1, 1) := by decide +kernel
theorem d_Desk_turnTo_12 : decode prog_1_method_39_code 12 = .ok (.if_icmp .ne 7, 3) := by decide +kernel
theorem d_Desk_turnTo_15 : decode prog_1_method_39_code 15 = .ok (.aload_n 0, 1) := by decide +kernel
theorem d_Desk_turnTo_16 : decode prog_1_method_39_code 16 = .ok (.invokevirtual 343, 3) := by decide +kernel
theorem d_Desk_turnTo_19 : decode prog_1_method_39_code 19 = .ok (.iload_n 3, 1) := by decide +kernel
theorem d_Desk_turnTo_20 : decode prog_1_method_39_code 20 = .ok (.ireturn, 1) := by decide +kernel
theorem d_Desk_change_0 : decode prog_1_method_38_code 0 = .ok (.aload_n 1, 1) := by decide +kernel
theorem d_Desk_change_1 : decode prog_1_method_38_code 1 = .ok (.getfield 153, 3) := by decide +kernel
theorem d_Desk_change_4 : decode prog_1_method_38_code 4 = .ok (.tableswitch 48 2 4 #[35, 28, 41], 28) := by decide +kernel
theorem d_Desk_change_32 : decode prog_1_method_38_code 32 = .ok (.aload_n 0, 1) := by decide +kernel
theorem d_Desk_change_33 : decode prog_1_method_38_code 33 = .ok (.aload_n 1, 1) := by decide +kernel
theorem d_Desk_change_34 : decode prog_1_method_38_code 34 = .ok (.iload_n 2, 1) := by decide +kernel
theorem d_Desk_change_35 : decode prog_1_method_38_code 35 = .ok (.invokevirtual 331, 3) := by decide +kernel
theorem d_Desk_change_38 : decode prog_1_method_38_code 38 = .ok (.ireturn, 1) := by decide +kernel
theorem d_Desk_change_39 : decode prog_1_method_38_code 39 = .ok (.aload_n 0, 1) := by decide +kernel
theorem d_Desk_change_40 : decode prog_1_method_38_code 40 = .ok (.aload_n 1, 1) := by decide +kernel
theorem d_Desk_change_41 : decode prog_1_method_38_code 41 = .ok (.invokevirtual 334, 3) := by decide +kernel
theorem d_Desk_change_44 : decode prog_1_method_38_code 44 = .ok (.ireturn, 1) := by decide +kernel
theorem d_Desk_change_45 : decode prog_1_method_38_code 45 = .ok (.aload_n 0, 1) := by decide +kernel
theorem d_Desk_change_46 : decode prog_1_method_38_code 46 = .ok (.aload_n 1, 1) := by decide +kernel
theorem d_Desk_change_47 : decode prog_1_method_38_code 47 = .ok (.iload_n 2, 1) := by decide +kernel
theorem d_Desk_change_48 : decode prog_1_method_38_code 48 = .ok (.invokevirtual 337, 3) := by decide +kernel
theorem d_Desk_change_51 : decode prog_1_method_38_code 51 = .ok (.ireturn, 1) := by decide +kernel
theorem d_Desk_change_52 : decode prog_1_method_38_code 52 = .ok (.aload_n 0, 1) := by decide +kernel
theorem d_Desk_change_53 : decode prog_1_method_38_code 53 = .ok (.aload_n 1, 1) := by decide +kernel
theorem d_Desk_change_54 : decode prog_1_method_38_code 54 = .ok (.iload_n 2, 1) := by decide +kernel
theorem d_Desk_change_55 : decode prog_1_method_38_code 55 = .ok (.invokevirtual 340, 3) := by decide +kernel
theorem d_Desk_change_58 : decode prog_1_method_38_code 58 = .ok (.ireturn, 1) := by decide +kernel
theorem d_Desk_sett_0 : decode prog_1_method_8_code 0 = .ok (.aload_n 0, 1) := by decide +kernel
theorem d_Desk_sett_1 : decode prog_1_method_8_code 1 = .ok (.getfield 18, 3) := by decide +kernel
theorem d_Desk_sett_4 : decode prog_1_method_8_code 4 = .ok (.getfield 92, 3) := by decide +kernel
theorem d_Desk_sett_7 : decode prog_1_method_8_code 7 = .ok (.iconst (-1), 1) := by decide +kernel
theorem d_Desk_sett_8 : decode prog_1_method_8_code 8 = .ok (.if_icmp .ne 6, 3) := by decide +kernel
theorem d_Desk_sett_11 : decode prog_1_method_8_code 11 = .ok (.bipush (-3), 2) := by decide +kernel
theorem d_Desk_sett_13 : decode prog_1_method_8_code 13 = .ok (.ireturn, 1) := by decide +kernel
theorem d_Desk_sett_14 : decode prog_1_method_8_code 14 = .ok (.aload_n 0, 1) := by decide +kernel
theorem d_Desk_sett_15 : decode prog_1_method_8_code 15 = .ok (.invokevirtual 102, 3) := by decide +kernel
theorem d_Desk_sett_18 : decode prog_1_method_8_code 18 = .ok (.astore_n 3, 1) := by decide +kernel
theorem d_Desk_sett_19 : decode prog_1_method_8_code 19 = .ok (.aload_n 3, 1) := by decide +kernel
theorem d_Desk_sett_20 : decode prog_1_method_8_code 20 = .ok (.iload_n 1, 1) := by decide +kernel
theorem d_Desk_sett_21 : decode prog_1_method_8_code 21 = .ok (.invokevirtual 134, 3) := by decide +kernel
theorem d_Desk_sett_24 : decode prog_1_method_8_code 24 = .ok (.istore 4, 2) := by decide +kernel
theorem d_Desk_sett_26 : decode prog_1_method_8_code 26 = .ok (.iload 4, 2) := by decide +kernel
theorem d_Desk_sett_28 : decode prog_1_method_8_code 28 = .ok (.iconst (-1), 1) := by decide +kernel
theorem d_Desk_sett_29 : decode prog_1_method_8_code 29 = .ok (.if_icmp .eq 20, 3) := by decide +kernel
theorem d_Desk_sett_32 : decode prog_1_method_8_code 32 = .ok (.aload_n 0, 1) := by decide +kernel
theorem d_Desk_sett_33 : decode prog_1_method_8_code 33 = .ok (.getfield 29, 3) := by decide +kernel
theorem d_Desk_sett_36 : decode prog_1_method_8_code 36 = .ok (.iload 4, 2) := by decide +kernel
theorem d_Desk_sett_38 : decode prog_1_method_8_code 38 = .ok (.aaload, 1) := by decide +kernel
theorem d_Desk_sett_39 : decode prog_1_method_8_code 39 = .ok (.getfield 153, 3) := by decide +kernel
theorem d_Desk_sett_42 : decode prog_1_method_8_code 42 = .ok (.iload_n 2, 1) := by decide +kernel
theorem d_Desk_sett_43 : decode prog_1_method_8_code 43 = .ok (.invokestatic 156, 3) := by decide +kernel
theorem d_Desk_sett_46 : decode prog_1_method_8_code 46 = .ok (.ifCond .ne 5, 3) := by decide +kernel
theorem d_Desk_sett_49 : decode prog_1_method_8_code 49 = .ok (.iconst (-1), 1) := by decide +kernel
theorem d_Desk_sett_50 : decode prog_1_method_8_code 50 = .ok (.ireturn, 1) := by decide +kernel
theorem d_Desk_sett_51 : decode prog_1_method_8_code 51 = .ok (.aload_n 3, 1) := by decide +kernel
theorem d_Desk_sett_52 : decode prog_1_method_8_code 52 = .ok (.iload_n 1, 1) := by decide +kernel
theorem d_Desk_sett_53 : decode prog_1_method_8_code 53 = .ok (.iconst 2, 1) := by decide +kernel
theorem d_Desk_sett_54 : decode prog_1_method_8_code 54 = .ok (.invokevirtual 144, 3) := by decide +kernel
theorem d_Desk_sett_57 : decode prog_1_method_8_code 57 = .ok (.ifCond .eq 6, 3) := by decide +kernel
theorem d_Desk_sett_60 : decode prog_1_method_8_code 60 = .ok (.bipush (-5), 2) := by decide +kernel
theorem d_Desk_sett_62 : decode prog_1_method_8_code 62 = .ok (.ireturn, 1) := by decide +kernel
theorem d_Desk_sett_63 : decode prog_1_method_8_code 63 = .ok (.aload_n 0, 1) := by decide +kernel
theorem d_Desk_sett_64 : decode prog_1_method_8_code 64 = .ok (.aload_n 0, 1) := by decide +kernel
theorem d_Desk_sett_65 : decode prog_1_method_8_code 65 = .ok (.getfield 29, 3) := by decide +kernel
theorem d_Desk_sett_68 : decode prog_1_method_8_code 68 = .ok (.iload 4, 2) := by decide +kernel
theorem d_Desk_sett_70 : decode prog_1_method_8_code 70 = .ok (.aaload, 1) := by decide +kernel
theorem d_Desk_sett_71 : decode prog_1_method_8_code 71 = .ok (.iload_n 2, 1) := by decide +kernel
theorem d_Desk_sett_72 : decode prog_1_method_8_code 72 = .ok (.invokevirtual 159, 3) := by decide +kernel
theorem d_Desk_sett_75 : decode prog_1_method_8_code 75 = .ok (.istore 5, 2) := by decide +kernel
theorem d_Desk_sett_77 : decode prog_1_method_8_code 77 = .ok (.aload_n 0, 1) := by decide +kernel
theorem d_Desk_sett_78 : decode prog_1_method_8_code 78 = .ok (.invokevirtual 89, 3) := by decide +kernel
theorem d_Desk_sett_81 : decode prog_1_method_8_code 81 = .ok (.iload 5, 2) := by decide +kernel
theorem d_Desk_sett_83 : decode prog_1_method_8_code 83 = .ok (.ireturn, 1) := by decide +kernel
theorem d_Desk_isOfType_0 : decode prog_1_method_28_code 0 = .ok (.iload_n 1, 1) := by decide +kernel
theorem d_Desk_isOfType_1 : decode prog_1_method_28_code 1 = .ok (.iconst (-1), 1) := by decide +kernel
theorem d_Desk_isOfType_2 : decode prog_1_method_28_code 2 = .ok (.if_icmp .eq 24, 3) := by decide +kernel
theorem d_Desk_isOfType_5 : decode prog_1_method_28_code 5 = .ok (.aload_n 0, 1) := by decide +kernel
theorem d_Desk_isOfType_6 : decode prog_1_method_28_code 6 = .ok (.getfield 29, 3) := by decide +kernel
theorem d_Desk_isOfType_9 : decode prog_1_method_28_code 9 = .ok (.iload_n 1, 1) := by decide +kernel
theorem d_Desk_isOfType_10 : decode prog_1_method_28_code 10 = .ok (.aaload, 1) := by decide +kernel
theorem d_Desk_isOfType_11 : decode prog_1_method_28_code 11 = .ok (.getfield 153, 3) := by decide +kernel
theorem d_Desk_isOfType_14 : decode prog_1_method_28_code 14 = .ok (.iload_n 2, 1) := by decide +kernel
theorem d_Desk_isOfType_15 : decode prog_1_method_28_code 15 = .ok (.iload_n 3, 1) := by decide +kernel
theorem d_Desk_isOfType_16 : decode prog_1_method_28_code 16 = .ok (.invokestatic 54, 3) := by decide +kernel
theorem d_Desk_isOfType_19 : decode prog_1_method_28_code 19 = .ok (.ifCond .eq 7, 3) := by decide +kernel
theorem d_Desk_isOfType_22 : decode prog_1_method_28_code 22 = .ok (.iconst 1, 1) := by decide +kernel
theorem d_Desk_isOfType_23 : decode prog_1_method_28_code 23 = .ok (.goto 4, 3) := by decide +kernel
theorem d_Desk_isOfType_26 : decode prog_1_method_28_code 26 = .ok (.iconst 0, 1) := by decide +kernel
theorem d_Desk_isOfType_27 : decode prog_1_method_28_code 27 = .ok (.ireturn, 1) := by decide +kernel
theorem d_Desk_canBeAwaited_0 : decode prog_1_method_43_code 0 = .ok (.aload_n 1, 1) := by decide +kernel
theorem d_Desk_canBeAwaited_1 : decode prog_1_method_43_code 1 = .ok (.iload_n 2, 1) := by decide +kernel
theorem d_Desk_canBeAwaited_2 : decode prog_1_method_43_code 2 = .ok (.invokevirtual 134, 3) := by decide +kernel
theorem d_Desk_canBeAwaited_5 : decode prog_1_method_43_code 5 = .ok (.istore 5, 2) := by decide +kernel
theorem d_Desk_canBeAwaited_7 : decode prog_1_method_43_code 7 = .ok (.aload_n 1, 1) := by decide +kernel
theorem d_Desk_canBeAwaited_8 : decode prog_1_method_43_code 8 = .ok (.iload_n 3, 1) := by decide +kernel
theorem d_Desk_canBeAwaited_9 : decode prog_1_method_43_code 9 = .ok (.invokevirtual 134, 3) := by decide +kernel
theorem d_Desk_canBeAwaited_12 : decode prog_1_method_43_code 12 = .ok (.istore 6, 2) := by decide +kernel
theorem d_Desk_canBeAwaited_14 : decode prog_1_method_43_code 14 = .ok (.aload_n 1, 1) := by decide +kernel
theorem d_Desk_canBeAwaited_15 : decode prog_1_method_43_code 15 = .ok (.iload 4, 2) := by decide +kernel
theorem d_Desk_canBeAwaited_17 : decode prog_1_method_43_code 17 = .ok (.invokevirtual 134, 3) := by decide +kernel
theorem d_Desk_canBeAwaited_20 : decode prog_1_method_43_code 20 = .ok (.istore 7, 2) := by decide +kernel
theorem d_Desk_canBeAwaited_22 : decode prog_1_method_43_code 22 = .ok (.iload 5, 2) := by decide +kernel
theorem d_Desk_canBeAwaited_24 : decode prog_1_method_43_code 24 = .ok (.iconst (-1), 1) := by decide +kernel
theorem d_Desk_canBeAwaited_25 : decode prog_1_method_43_code 25 = .ok (.if_icmp .eq 26, 3) := by decide +kernel
theorem d_Desk_canBeAwaited_28 : decode prog_1_method_43_code 28 = .ok (.iload 6, 2) := by decide +kernel
theorem d_Desk_canBeAwaited_30 : decode prog_1_method_43_code 30 = .ok (.iconst (-1), 1) := by decide +kernel
theorem d_Desk_canBeAwaited_31 : decode prog_1_method_43_code 31 = .ok (.if_icmp .ne 8, 3) := by decide +kernel
theorem d_Desk_canBeAwaited_34 : decode prog_1_method_43_code 34 = .ok (.iload_n 3, 1) := by decide +kernel
theorem d_Desk_canBeAwaited_35 : decode prog_1_method_43_code 35 = .ok (.iconst (-1), 1) := by decide +kernel
theorem d_Desk_canBeAwaited_36 : decode prog_1_method_43_code 36 = .ok (.if_icmp .ne 15, 3) := by decide +kernel
theorem d_Desk_canBeAwaited_39 : decode prog_1_method_43_code 39 = .ok (.iload 7, 2) := by decide +kernel
theorem d_Desk_canBeAwaited_41 : decode prog_1_method_43_code 41 = .ok (.iconst (-1), 1) := by decide +kernel
theorem d_Desk_canBeAwaited_42 : decode prog_1_method_43_code 42 = .ok (.if_icmp .ne 11, 3) := by decide +kernel
theorem d_Desk_canBeAwaited_45 : decode prog_1_method_43_code 45 = .ok (.iload 4, 2) := by decide +kernel
theorem d_Desk_canBeAwaited_47 : decode prog_1_method_43_code 47 = .ok (.iconst (-1), 1) := by decide +kernel
theorem d_Desk_canBeAwaited_48 : decode prog_1_method_43_code 48 = .ok (.if_icmp .eq 5, 3) := by decide +kernel
theorem d_Desk_canBeAwaited_51 : decode prog_1_method_43_code 51 = .ok (.iconst 0, 1) := by decide +kernel
theorem d_Desk_canBeAwaited_52 : decode prog_1_method_43_code 52 = .ok (.ireturn, 1) := by decide +kernel
theorem d_Desk_canBeAwaited_53 : decode prog_1_method_43_code 53 = .ok (.aload_n 0, 1) := by decide +kernel
theorem d_Desk_canBeAwaited_54 : decode prog_1_method_43_code 54 = .ok (.iload 5, 2) := by decide +kernel
theorem d_Desk_canBeAwaited_56 : decode prog_1_method_43_code 56 = .ok (.iconst 5, 1) := by decide +kernel
theorem d_Desk_canBeAwaited_57 : decode prog_1_method_43_code 57 = .ok (.iconst 5, 1) := by decide +kernel
theorem d_Desk_canBeAwaited_58 : decode prog_1_method_43_code 58 = .ok (.invokevirtual 215, 3) := by decide +kernel
theorem d_Desk_canBeAwaited_61 : decode prog_1_method_43_code 61 = .ok (.ifCond .ne 25, 3) := by decide +kernel
theorem d_Desk_canBeAwaited_64 : decode prog_1_method_43_code 64 = .ok (.aload_n 0, 1) := by decide +kernel
theorem d_Desk_canBeAwaited_65 : decode prog_1_method_43_code 65 = .ok (.iload 6, 2) := by decide +kernel
theorem d_Desk_canBeAwaited_67 : decode prog_1_method_43_code 67 = .ok (.iconst 5, 1) := by decide +kernel
theorem d_Desk_canBeAwaited_68 : decode prog_1_method_43_code 68 = .ok (.iconst 5, 1) := by decide +kernel
theorem d_Desk_canBeAwaited_69 : decode prog_1_method_43_code 69 = .ok (.invokevirtual 215, 3) := by decide +kernel
theorem d_Desk_canBeAwaited_72 : decode prog_1_method_43_code 72 = .ok (.ifCond .ne 14, 3) := by decide +kernel
theorem d_Desk_canBeAwaited_75 : decode prog_1_method_43_code 75 = .ok (.aload_n 0, 1) := by decide +kernel
theorem d_Desk_canBeAwaited_76 : decode prog_1_method_43_code 76 = .ok (.iload 7, 2) := by decide +kernel
theorem d_Desk_canBeAwaited_78 : decode prog_1_method_43_code 78 = .ok (.iconst 5, 1) := by decide +kernel
theorem d_Desk_canBeAwaited_79 : decode prog_1_method_43_code 79 = .ok (.iconst 5, 1) := by decide +kernel
theorem d_Desk_canBeAwaited_80 : decode prog_1_method_43_code 80 = .ok (.invokevirtual 215, 3) := by decide +kernel
theorem d_Desk_canBeAwaited_83 : decode prog_1_method_43_code 83 = .ok (.ifCond .eq 5, 3) := by decide +kernel
theorem d_Desk_canBeAwaited_86 : decode prog_1_method_43_code 86 = .ok (.iconst 0, 1) := by decide +kernel
theorem d_Desk_canBeAwaited_87 : decode prog_1_method_43_code 87 = .ok (.ireturn, 1) := by decide +kernel
theorem d_Desk_canBeAwaited_88 : decode prog_1_method_43_code 88 = .ok (.iload 5, 2) := by decide +kernel
theorem d_Desk_canBeAwaited_90 : decode prog_1_method_43_code 90 = .ok (.iload 6, 2) := by decide +kernel
theorem d_Desk_canBeAwaited_92 : decode prog_1_method_43_code 92 = .ok (.if_icmp .eq 27, 3) := by decide +kernel
theorem d_Desk_canBeAwaited_95 : decode prog_1_method_43_code 95 = .ok (.iload 5, 2) := by decide +kernel
theorem d_Desk_canBeAwaited_97 : decode prog_1_method_43_code 97 = .ok (.iload 7, 2) := by decide +kernel
theorem d_Desk_canBeAwaited_99 : decode prog_1_method_43_code 99 = .ok (.if_icmp .eq 20, 3) := by decide +kernel
theorem d_Desk_canBeAwaited_102 : decode prog_1_method_43_code 102 = .ok (.iload 6, 2) := by decide +kernel
theorem d_Desk_canBeAwaited_104 : decode prog_1_method_43_code 104 = .ok (.iconst (-1), 1) := by decide +kernel
theorem d_Desk_canBeAwaited_105 : decode prog_1_method_43_code 105 = .ok (.if_icmp .eq 10, 3) := by decide +kernel
theorem d_Desk_canBeAwaited_108 : decode prog_1_method_43_code 108 = .ok (.iload 6, 2) := by decide +kernel
theorem d_Desk_canBeAwaited_110 : decode prog_1_method_43_code 110 = .ok (.iload 7, 2) := by decide +kernel
theorem d_Desk_canBeAwaited_112 : decode prog_1_method_43_code 112 = .ok (.if_icmp .eq 7, 3) := by decide +kernel
theorem d_Desk_canBeAwaited_115 : decode prog_1_method_43_code 115 = .ok (.iconst 1, 1) := by decide +kernel
theorem d_Desk_canBeAwaited_116 : decode prog_1_method_43_code 116 = .ok (.goto 4, 3) := by decide +kernel
theorem d_Desk_canBeAwaited_119 : decode prog_1_method_43_code 119 = .ok (.iconst 0, 1) := by decide +kernel
theorem d_Desk_canBeAwaited_120 : decode prog_1_method_43_code 120 = .ok (.ireturn, 1) := by decide +kernel
theorem d_Thr_wish_0 : decode prog_7_method_2_code 0 = .ok (.aload_n 0, 1) := by decide +kernel
theorem d_Thr_wish_1 : decode prog_7_method_2_code 1 = .ok (.getfield 20, 3) := by decide +kernel
theorem d_Thr_wish_4 : decode prog_7_method_2_code 4 = .ok (.iconst 0, 1) := by decide +kernel
theorem d_Thr_wish_5 : decode prog_7_method_2_code 5 = .ok (.iload_n 1, 1) := by decide +kernel
theorem d_Thr_wish_6 : decode prog_7_method_2_code 6 = .ok (.iastore, 1) := by decide +kernel
theorem d_Thr_wish_7 : decode prog_7_method_2_code 7 = .ok (.aload_n 0, 1) := by decide +kernel
theorem d_Thr_wish_8 : decode prog_7_method_2_code 8 = .ok (.getfield 20, 3) := by decide +kernel
theorem d_Thr_wish_11 : decode prog_7_method_2_code 11 = .ok (.iconst 1, 1) := by decide +kernel
theorem d_Thr_wish_12 : decode prog_7_method_2_code 12 = .ok (.iload_n 2, 1) := by decide +kernel
