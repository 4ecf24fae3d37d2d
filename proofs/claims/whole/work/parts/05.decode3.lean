theorem d_Desk_transfer_158 : decode prog_1_method_13_code 158 = .ok (.aaload, 1) := by decide +kernel
theorem d_Desk_transfer_159 : decode prog_1_method_13_code 159 = .ok (.iconst 1, 1) := by decide +kernel
theorem d_Desk_transfer_160 : decode prog_1_method_13_code 160 = .ok (.invokevirtual 223, 3) := by decide +kernel
theorem d_Desk_transfer_163 : decode prog_1_method_13_code 163 = .ok (.aload_n 0, 1) := by decide +kernel
theorem d_Desk_transfer_164 : decode prog_1_method_13_code 164 = .ok (.iload 8, 2) := by decide +kernel
theorem d_Desk_transfer_166 : decode prog_1_method_13_code 166 = .ok (.iload_n 2, 1) := by decide +kernel
theorem d_Desk_transfer_167 : decode prog_1_method_13_code 167 = .ok (.invokevirtual 227, 3) := by decide +kernel
theorem d_Desk_transfer_170 : decode prog_1_method_13_code 170 = .ok (.aload_n 0, 1) := by decide +kernel
theorem d_Desk_transfer_171 : decode prog_1_method_13_code 171 = .ok (.invokevirtual 89, 3) := by decide +kernel
theorem d_Desk_transfer_174 : decode prog_1_method_13_code 174 = .ok (.iload 8, 2) := by decide +kernel
theorem d_Desk_transfer_176 : decode prog_1_method_13_code 176 = .ok (.ireturn, 1) := by decide +kernel
theorem d_Desk_isPending_0 : decode prog_1_method_29_code 0 = .ok (.iload_n 1, 1) := by decide +kernel
theorem d_Desk_isPending_1 : decode prog_1_method_29_code 1 = .ok (.iconst 0, 1) := by decide +kernel
theorem d_Desk_isPending_2 : decode prog_1_method_29_code 2 = .ok (.bipush 7, 2) := by decide +kernel
theorem d_Desk_isPending_4 : decode prog_1_method_29_code 4 = .ok (.invokestatic 54, 3) := by decide +kernel
theorem d_Desk_isPending_7 : decode prog_1_method_29_code 7 = .ok (.ifCond .eq 19, 3) := by decide +kernel
theorem d_Desk_isPending_10 : decode prog_1_method_29_code 10 = .ok (.aload_n 0, 1) := by decide +kernel
theorem d_Desk_isPending_11 : decode prog_1_method_29_code 11 = .ok (.getfield 35, 3) := by decide +kernel
theorem d_Desk_isPending_14 : decode prog_1_method_29_code 14 = .ok (.iload_n 1, 1) := by decide +kernel
theorem d_Desk_isPending_15 : decode prog_1_method_29_code 15 = .ok (.aaload, 1) := by decide +kernel
theorem d_Desk_isPending_16 : decode prog_1_method_29_code 16 = .ok (.getfield 283, 3) := by decide +kernel
theorem d_Desk_isPending_19 : decode prog_1_method_29_code 19 = .ok (.ifCond .ne 7, 3) := by decide +kernel
theorem d_Desk_isPending_22 : decode prog_1_method_29_code 22 = .ok (.iconst 1, 1) := by decide +kernel
theorem d_Desk_isPending_23 : decode prog_1_method_29_code 23 = .ok (.goto 4, 3) := by decide +kernel
theorem d_Desk_isPending_26 : decode prog_1_method_29_code 26 = .ok (.iconst 0, 1) := by decide +kernel
theorem d_Desk_isPending_27 : decode prog_1_method_29_code 27 = .ok (.ireturn, 1) := by decide +kernel
theorem d_Row_first_0 : decode prog_4_method_3_code 0 = .ok (.aload_n 0, 1) := by decide +kernel
theorem d_Row_first_1 : decode prog_4_method_3_code 1 = .ok (.getfield 15, 3) := by decide +kernel
theorem d_Row_first_4 : decode prog_4_method_3_code 4 = .ok (.ifCond .le 12, 3) := by decide +kernel
theorem d_Row_first_7 : decode prog_4_method_3_code 7 = .ok (.aload_n 0, 1) := by decide +kernel
theorem d_Row_first_8 : decode prog_4_method_3_code 8 = .ok (.getfield 9, 3) := by decide +kernel
theorem d_Row_first_11 : decode prog_4_method_3_code 11 = .ok (.iconst 0, 1) := by decide +kernel
theorem d_Row_first_12 : decode prog_4_method_3_code 12 = .ok (.iaload, 1) := by decide +kernel
theorem d_Row_first_13 : decode prog_4_method_3_code 13 = .ok (.goto 4, 3) := by decide +kernel
theorem d_Row_first_16 : decode prog_4_method_3_code 16 = .ok (.iconst (-1), 1) := by decide +kernel
theorem d_Row_first_17 : decode prog_4_method_3_code 17 = .ok (.ireturn, 1) := by decide +kernel
theorem d_Desk_withdraw_0 : decode prog_1_method_54_code 0 = .ok (.aload_n 0, 1) := by decide +kernel
theorem d_Desk_withdraw_1 : decode prog_1_method_54_code 1 = .ok (.getfield 29, 3) := by decide +kernel
theorem d_Desk_withdraw_4 : decode prog_1_method_54_code 4 = .ok (.aload_n 0, 1) := by decide +kernel
theorem d_Desk_withdraw_5 : decode prog_1_method_54_code 5 = .ok (.getfield 35, 3) := by decide +kernel
theorem d_Desk_withdraw_8 : decode prog_1_method_54_code 8 = .ok (.iload_n 1, 1) := by decide +kernel
theorem d_Desk_withdraw_9 : decode prog_1_method_54_code 9 = .ok (.aaload, 1) := by decide +kernel
theorem d_Desk_withdraw_10 : decode prog_1_method_54_code 10 = .ok (.getfield 289, 3) := by decide +kernel
theorem d_Desk_withdraw_13 : decode prog_1_method_54_code 13 = .ok (.aaload, 1) := by decide +kernel
theorem d_Desk_withdraw_14 : decode prog_1_method_54_code 14 = .ok (.getfield 270, 3) := by decide +kernel
theorem d_Desk_withdraw_17 : decode prog_1_method_54_code 17 = .ok (.astore_n 2, 1) := by decide +kernel
theorem d_Desk_withdraw_18 : decode prog_1_method_54_code 18 = .ok (.aload_n 2, 1) := by decide +kernel
theorem d_Desk_withdraw_19 : decode prog_1_method_54_code 19 = .ok (.invokevirtual 321, 3) := by decide +kernel
theorem d_Desk_withdraw_22 : decode prog_1_method_54_code 22 = .ok (.iload_n 1, 1) := by decide +kernel
theorem d_Desk_withdraw_23 : decode prog_1_method_54_code 23 = .ok (.if_icmp .ne 15, 3) := by decide +kernel
theorem d_Desk_withdraw_26 : decode prog_1_method_54_code 26 = .ok (.aload_n 0, 1) := by decide +kernel
theorem d_Desk_withdraw_27 : decode prog_1_method_54_code 27 = .ok (.getfield 35, 3) := by decide +kernel
theorem d_Desk_withdraw_30 : decode prog_1_method_54_code 30 = .ok (.iload_n 1, 1) := by decide +kernel
theorem d_Desk_withdraw_31 : decode prog_1_method_54_code 31 = .ok (.aaload, 1) := by decide +kernel
theorem d_Desk_withdraw_32 : decode prog_1_method_54_code 32 = .ok (.iconst 1, 1) := by decide +kernel
theorem d_Desk_withdraw_33 : decode prog_1_method_54_code 33 = .ok (.putfield 295, 3) := by decide +kernel
theorem d_Desk_withdraw_36 : decode prog_1_method_54_code 36 = .ok (.iconst 0, 1) := by decide +kernel
theorem d_Desk_withdraw_37 : decode prog_1_method_54_code 37 = .ok (.ireturn, 1) := by decide +kernel
theorem d_Desk_withdraw_38 : decode prog_1_method_54_code 38 = .ok (.aload_n 2, 1) := by decide +kernel
theorem d_Desk_withdraw_39 : decode prog_1_method_54_code 39 = .ok (.iload_n 1, 1) := by decide +kernel
theorem d_Desk_withdraw_40 : decode prog_1_method_54_code 40 = .ok (.invokevirtual 368, 3) := by decide +kernel
theorem d_Desk_withdraw_43 : decode prog_1_method_54_code 43 = .ok (.aload_n 0, 1) := by decide +kernel
theorem d_Desk_withdraw_44 : decode prog_1_method_54_code 44 = .ok (.aload_n 0, 1) := by decide +kernel
theorem d_Desk_withdraw_45 : decode prog_1_method_54_code 45 = .ok (.getfield 35, 3) := by decide +kernel
theorem d_Desk_withdraw_48 : decode prog_1_method_54_code 48 = .ok (.iload_n 1, 1) := by decide +kernel
theorem d_Desk_withdraw_49 : decode prog_1_method_54_code 49 = .ok (.aaload, 1) := by decide +kernel
theorem d_Desk_withdraw_50 : decode prog_1_method_54_code 50 = .ok (.iconst 5, 1) := by decide +kernel
theorem d_Desk_withdraw_51 : decode prog_1_method_54_code 51 = .ok (.iconst 0, 1) := by decide +kernel
theorem d_Desk_withdraw_52 : decode prog_1_method_54_code 52 = .ok (.invokevirtual 377, 3) := by decide +kernel
theorem d_Desk_withdraw_55 : decode prog_1_method_54_code 55 = .ok (.iconst 1, 1) := by decide +kernel
theorem d_Desk_withdraw_56 : decode prog_1_method_54_code 56 = .ok (.ireturn, 1) := by decide +kernel
theorem d_Desk_cancel_0 : decode prog_1_method_14_code 0 = .ok (.aload_n 0, 1) := by decide +kernel
theorem d_Desk_cancel_1 : decode prog_1_method_14_code 1 = .ok (.getfield 18, 3) := by decide +kernel
theorem d_Desk_cancel_4 : decode prog_1_method_14_code 4 = .ok (.getfield 92, 3) := by decide +kernel
theorem d_Desk_cancel_7 : decode prog_1_method_14_code 7 = .ok (.iconst (-1), 1) := by decide +kernel
theorem d_Desk_cancel_8 : decode prog_1_method_14_code 8 = .ok (.if_icmp .ne 6, 3) := by decide +kernel
theorem d_Desk_cancel_11 : decode prog_1_method_14_code 11 = .ok (.bipush (-3), 2) := by decide +kernel
theorem d_Desk_cancel_13 : decode prog_1_method_14_code 13 = .ok (.ireturn, 1) := by decide +kernel
theorem d_Desk_cancel_14 : decode prog_1_method_14_code 14 = .ok (.aload_n 0, 1) := by decide +kernel
theorem d_Desk_cancel_15 : decode prog_1_method_14_code 15 = .ok (.iload_n 1, 1) := by decide +kernel
theorem d_Desk_cancel_16 : decode prog_1_method_14_code 16 = .ok (.invokevirtual 230, 3) := by decide +kernel
theorem d_Desk_cancel_19 : decode prog_1_method_14_code 19 = .ok (.ifCond .ne 5, 3) := by decide +kernel
theorem d_Desk_cancel_22 : decode prog_1_method_14_code 22 = .ok (.iconst (-1), 1) := by decide +kernel
theorem d_Desk_cancel_23 : decode prog_1_method_14_code 23 = .ok (.ireturn, 1) := by decide +kernel
theorem d_Desk_cancel_24 : decode prog_1_method_14_code 24 = .ok (.aload_n 0, 1) := by decide +kernel
theorem d_Desk_cancel_25 : decode prog_1_method_14_code 25 = .ok (.iload_n 1, 1) := by decide +kernel
theorem d_Desk_cancel_26 : decode prog_1_method_14_code 26 = .ok (.invokevirtual 233, 3) := by decide +kernel
theorem d_Desk_cancel_29 : decode prog_1_method_14_code 29 = .ok (.istore_n 2, 1) := by decide +kernel
theorem d_Desk_cancel_30 : decode prog_1_method_14_code 30 = .ok (.aload_n 0, 1) := by decide +kernel
theorem d_Desk_cancel_31 : decode prog_1_method_14_code 31 = .ok (.invokevirtual 89, 3) := by decide +kernel
theorem d_Desk_cancel_34 : decode prog_1_method_14_code 34 = .ok (.iload_n 2, 1) := by decide +kernel
theorem d_Desk_cancel_35 : decode prog_1_method_14_code 35 = .ok (.ireturn, 1) := by decide +kernel
theorem d_Desk_abandonMutantsOf_0 : decode prog_1_method_57_code 0 = .ok (.iconst 0, 1) := by decide +kernel
theorem d_Desk_abandonMutantsOf_1 : decode prog_1_method_57_code 1 = .ok (.istore_n 2, 1) := by decide +kernel
theorem d_Desk_abandonMutantsOf_2 : decode prog_1_method_57_code 2 = .ok (.iload_n 2, 1) := by decide +kernel
theorem d_Desk_abandonMutantsOf_3 : decode prog_1_method_57_code 3 = .ok (.bipush 16, 2) := by decide +kernel
theorem d_Desk_abandonMutantsOf_5 : decode prog_1_method_57_code 5 = .ok (.if_icmp .ge 58, 3) := by decide +kernel
theorem d_Desk_abandonMutantsOf_8 : decode prog_1_method_57_code 8 = .ok (.aload_n 0, 1) := by decide +kernel
theorem d_Desk_abandonMutantsOf_9 : decode prog_1_method_57_code 9 = .ok (.getfield 29, 3) := by decide +kernel
theorem d_Desk_abandonMutantsOf_12 : decode prog_1_method_57_code 12 = .ok (.iload_n 2, 1) := by decide +kernel
theorem d_Desk_abandonMutantsOf_13 : decode prog_1_method_57_code 13 = .ok (.aaload, 1) := by decide +kernel
theorem d_Desk_abandonMutantsOf_14 : decode prog_1_method_57_code 14 = .ok (.astore_n 3, 1) := by decide +kernel
theorem d_Desk_abandonMutantsOf_15 : decode prog_1_method_57_code 15 = .ok (.aload_n 3, 1) := by decide +kernel
theorem d_Desk_abandonMutantsOf_16 : decode prog_1_method_57_code 16 = .ok (.invokevirtual 316, 3) := by decide +kernel
theorem d_Desk_abandonMutantsOf_19 : decode prog_1_method_57_code 19 = .ok (.ifCond .eq 38, 3) := by decide +kernel
theorem d_Desk_abandonMutantsOf_22 : decode prog_1_method_57_code 22 = .ok (.aload_n 3, 1) := by decide +kernel
theorem d_Desk_abandonMutantsOf_23 : decode prog_1_method_57_code 23 = .ok (.getfield 153, 3) := by decide +kernel
theorem d_Desk_abandonMutantsOf_26 : decode prog_1_method_57_code 26 = .ok (.iconst 2, 1) := by decide +kernel
theorem d_Desk_abandonMutantsOf_27 : decode prog_1_method_57_code 27 = .ok (.if_icmp .ne 30, 3) := by decide +kernel
theorem d_Desk_abandonMutantsOf_30 : decode prog_1_method_57_code 30 = .ok (.aload_n 3, 1) := by decide +kernel
theorem d_Desk_abandonMutantsOf_31 : decode prog_1_method_57_code 31 = .ok (.getfield 117, 3) := by decide +kernel
theorem d_Desk_abandonMutantsOf_34 : decode prog_1_method_57_code 34 = .ok (.iload_n 1, 1) := by decide +kernel
theorem d_Desk_abandonMutantsOf_35 : decode prog_1_method_57_code 35 = .ok (.if_icmp .ne 22, 3) := by decide +kernel
theorem d_Desk_abandonMutantsOf_38 : decode prog_1_method_57_code 38 = .ok (.aload_n 3, 1) := by decide +kernel
theorem d_Desk_abandonMutantsOf_39 : decode prog_1_method_57_code 39 = .ok (.iconst (-1), 1) := by decide +kernel
theorem d_Desk_abandonMutantsOf_40 : decode prog_1_method_57_code 40 = .ok (.putfield 117, 3) := by decide +kernel
theorem d_Desk_abandonMutantsOf_43 : decode prog_1_method_57_code 43 = .ok (.aload_n 3, 1) := by decide +kernel
theorem d_Desk_abandonMutantsOf_44 : decode prog_1_method_57_code 44 = .ok (.iconst 0, 1) := by decide +kernel
theorem d_Desk_abandonMutantsOf_45 : decode prog_1_method_57_code 45 = .ok (.putfield 273, 3) := by decide +kernel
theorem d_Desk_abandonMutantsOf_48 : decode prog_1_method_57_code 48 = .ok (.aload_n 3, 1) := by decide +kernel
theorem d_Desk_abandonMutantsOf_49 : decode prog_1_method_57_code 49 = .ok (.iconst 1, 1) := by decide +kernel
theorem d_Desk_abandonMutantsOf_50 : decode prog_1_method_57_code 50 = .ok (.putfield 280, 3) := by decide +kernel
theorem d_Desk_abandonMutantsOf_53 : decode prog_1_method_57_code 53 = .ok (.aload_n 0, 1) := by decide +kernel
theorem d_Desk_abandonMutantsOf_54 : decode prog_1_method_57_code 54 = .ok (.invokevirtual 343, 3) := by decide +kernel
theorem d_Desk_abandonMutantsOf_57 : decode prog_1_method_57_code 57 = .ok (.iinc 2 1, 3) := by decide +kernel
theorem d_Desk_abandonMutantsOf_60 : decode prog_1_method_57_code 60 = .ok (.goto (-58), 3) := by decide +kernel
theorem d_Desk_abandonMutantsOf_63 : decode prog_1_method_57_code 63 = .ok (.return_, 1) := by decide +kernel
theorem d_Desk_dropAllHandles_0 : decode prog_1_method_37_code 0 = .ok (.iconst 0, 1) := by decide +kernel
theorem d_Desk_dropAllHandles_1 : decode prog_1_method_37_code 1 = .ok (.istore_n 2, 1) := by decide +kernel
theorem d_Desk_dropAllHandles_2 : decode prog_1_method_37_code 2 = .ok (.iload_n 2, 1) := by decide +kernel
theorem d_Desk_dropAllHandles_3 : decode prog_1_method_37_code 3 = .ok (.bipush 8, 2) := by decide +kernel
theorem d_Desk_dropAllHandles_5 : decode prog_1_method_37_code 5 = .ok (.if_icmp .ge 24, 3) := by decide +kernel
theorem d_Desk_dropAllHandles_8 : decode prog_1_method_37_code 8 = .ok (.aload_n 1, 1) := by decide +kernel
theorem d_Desk_dropAllHandles_9 : decode prog_1_method_37_code 9 = .ok (.iload_n 2, 1) := by decide +kernel
theorem d_Desk_dropAllHandles_10 : decode prog_1_method_37_code 10 = .ok (.invokevirtual 134, 3) := by decide +kernel
theorem d_Desk_dropAllHandles_13 : decode prog_1_method_37_code 13 = .ok (.iconst (-1), 1) := by decide +kernel
theorem d_Desk_dropAllHandles_14 : decode prog_1_method_37_code 14 = .ok (.if_icmp .eq 9, 3) := by decide +kernel
theorem d_Desk_dropAllHandles_17 : decode prog_1_method_37_code 17 = .ok (.aload_n 0, 1) := by decide +kernel
theorem d_Desk_dropAllHandles_18 : decode prog_1_method_37_code 18 = .ok (.aload_n 1, 1) := by decide +kernel
theorem d_Desk_dropAllHandles_19 : decode prog_1_method_37_code 19 = .ok (.iload_n 2, 1) := by decide +kernel
theorem d_Desk_dropAllHandles_20 : decode prog_1_method_37_code 20 = .ok (.invokevirtual 137, 3) := by decide +kernel
theorem d_Desk_dropAllHandles_23 : decode prog_1_method_37_code 23 = .ok (.iinc 2 1, 3) := by decide +kernel
theorem d_Desk_dropAllHandles_26 : decode prog_1_method_37_code 26 = .ok (.goto (-24), 3) := by decide +kernel
theorem d_Desk_dropAllHandles_29 : decode prog_1_method_37_code 29 = .ok (.return_, 1) := by decide +kernel
theorem d_Desk_exit_0 : decode prog_1_method_15_code 0 = .ok (.aload_n 0, 1) := by decide +kernel
theorem d_Desk_exit_1 : decode prog_1_method_15_code 1 = .ok (.getfield 18, 3) := by decide +kernel
theorem d_Desk_exit_4 : decode prog_1_method_15_code 4 = .ok (.getfield 92, 3) := by decide +kernel
theorem d_Desk_exit_7 : decode prog_1_method_15_code 7 = .ok (.iconst (-1), 1) := by decide +kernel
theorem d_Desk_exit_8 : decode prog_1_method_15_code 8 = .ok (.if_icmp .ne 6, 3) := by decide +kernel
theorem d_Desk_exit_11 : decode prog_1_method_15_code 11 = .ok (.bipush (-3), 2) := by decide +kernel
theorem d_Desk_exit_13 : decode prog_1_method_15_code 13 = .ok (.ireturn, 1) := by decide +kernel
theorem d_Desk_exit_14 : decode prog_1_method_15_code 14 = .ok (.aload_n 0, 1) := by decide +kernel
theorem d_Desk_exit_15 : decode prog_1_method_15_code 15 = .ok (.getfield 163, 3) := by decide +kernel
theorem d_Desk_exit_18 : decode prog_1_method_15_code 18 = .ok (.iconst 1, 1) := by decide +kernel
theorem d_Desk_exit_19 : decode prog_1_method_15_code 19 = .ok (.if_icmp .ne 6, 3) := by decide +kernel
theorem d_Desk_exit_22 : decode prog_1_method_15_code 22 = .ok (.bipush (-4), 2) := by decide +kernel
theorem d_Desk_exit_24 : decode prog_1_method_15_code 24 = .ok (.ireturn, 1) := by decide +kernel
theorem d_Desk_exit_25 : decode prog_1_method_15_code 25 = .ok (.aload_n 0, 1) := by decide +kernel
theorem d_Desk_exit_26 : decode prog_1_method_15_code 26 = .ok (.getfield 18, 3) := by decide +kernel
theorem d_Desk_exit_29 : decode prog_1_method_15_code 29 = .ok (.getfield 92, 3) := by decide +kernel
theorem d_Desk_exit_32 : decode prog_1_method_15_code 32 = .ok (.istore_n 1, 1) := by decide +kernel
theorem d_Desk_exit_33 : decode prog_1_method_15_code 33 = .ok (.aload_n 0, 1) := by decide +kernel
theorem d_Desk_exit_34 : decode prog_1_method_15_code 34 = .ok (.getfield 18, 3) := by decide +kernel
theorem d_Desk_exit_37 : decode prog_1_method_15_code 37 = .ok (.iconst (-1), 1) := by decide +kernel
theorem d_Desk_exit_38 : decode prog_1_method_15_code 38 = .ok (.putfield 92, 3) := by decide +kernel
theorem d_Desk_exit_41 : decode prog_1_method_15_code 41 = .ok (.aload_n 0, 1) := by decide +kernel
theorem d_Desk_exit_42 : decode prog_1_method_15_code 42 = .ok (.getfield 26, 3) := by decide +kernel
theorem d_Desk_exit_45 : decode prog_1_method_15_code 45 = .ok (.iload_n 1, 1) := by decide +kernel
theorem d_Desk_exit_46 : decode prog_1_method_15_code 46 = .ok (.aaload, 1) := by decide +kernel
theorem d_Desk_exit_47 : decode prog_1_method_15_code 47 = .ok (.iconst 3, 1) := by decide +kernel
theorem d_Desk_exit_48 : decode prog_1_method_15_code 48 = .ok (.putfield 192, 3) := by decide +kernel
theorem d_Desk_exit_51 : decode prog_1_method_15_code 51 = .ok (.aload_n 0, 1) := by decide +kernel
theorem d_Desk_exit_52 : decode prog_1_method_15_code 52 = .ok (.iload_n 1, 1) := by decide +kernel
theorem d_Desk_exit_53 : decode prog_1_method_15_code 53 = .ok (.invokevirtual 236, 3) := by decide +kernel
theorem d_Desk_exit_56 : decode prog_1_method_15_code 56 = .ok (.iconst 0, 1) := by decide +kernel
theorem d_Desk_exit_57 : decode prog_1_method_15_code 57 = .ok (.istore_n 2, 1) := by decide +kernel
theorem d_Desk_exit_58 : decode prog_1_method_15_code 58 = .ok (.iload_n 2, 1) := by decide +kernel
theorem d_Desk_exit_59 : decode prog_1_method_15_code 59 = .ok (.bipush 8, 2) := by decide +kernel
theorem d_Desk_exit_61 : decode prog_1_method_15_code 61 = .ok (.if_icmp .ge 36, 3) := by decide +kernel
theorem d_Desk_exit_64 : decode prog_1_method_15_code 64 = .ok (.aload_n 0, 1) := by decide +kernel
theorem d_Desk_exit_65 : decode prog_1_method_15_code 65 = .ok (.iload_n 2, 1) := by decide +kernel
theorem d_Desk_exit_66 : decode prog_1_method_15_code 66 = .ok (.invokevirtual 230, 3) := by decide +kernel
theorem d_Desk_exit_69 : decode prog_1_method_15_code 69 = .ok (.ifCond .eq 22, 3) := by decide +kernel
theorem d_Desk_exit_72 : decode prog_1_method_15_code 72 = .ok (.aload_n 0, 1) := by decide +kernel
theorem d_Desk_exit_73 : decode prog_1_method_15_code 73 = .ok (.getfield 35, 3) := by decide +kernel
theorem d_Desk_exit_76 : decode prog_1_method_15_code 76 = .ok (.iload_n 2, 1) := by decide +kernel
theorem d_Desk_exit_77 : decode prog_1_method_15_code 77 = .ok (.aaload, 1) := by decide +kernel
theorem d_Desk_exit_78 : decode prog_1_method_15_code 78 = .ok (.getfield 239, 3) := by decide +kernel
theorem d_Desk_exit_81 : decode prog_1_method_15_code 81 = .ok (.iload_n 1, 1) := by decide +kernel
theorem d_Desk_exit_82 : decode prog_1_method_15_code 82 = .ok (.if_icmp .ne 9, 3) := by decide +kernel
theorem d_Desk_exit_85 : decode prog_1_method_15_code 85 = .ok (.aload_n 0, 1) := by decide +kernel
theorem d_Desk_exit_86 : decode prog_1_method_15_code 86 = .ok (.iload_n 2, 1) := by decide +kernel
theorem d_Desk_exit_87 : decode prog_1_method_15_code 87 = .ok (.invokevirtual 233, 3) := by decide +kernel
theorem d_Desk_exit_90 : decode prog_1_method_15_code 90 = .ok (.pop, 1) := by decide +kernel
theorem d_Desk_exit_91 : decode prog_1_method_15_code 91 = .ok (.iinc 2 1, 3) := by decide +kernel
theorem d_Desk_exit_94 : decode prog_1_method_15_code 94 = .ok (.goto (-36), 3) := by decide +kernel
theorem d_Desk_exit_97 : decode prog_1_method_15_code 97 = .ok (.aload_n 0, 1) := by decide +kernel
theorem d_Desk_exit_98 : decode prog_1_method_15_code 98 = .ok (.getfield 26, 3) := by decide +kernel
theorem d_Desk_exit_101 : decode prog_1_method_15_code 101 = .ok (.iload_n 1, 1) := by decide +kernel
theorem d_Desk_exit_102 : decode prog_1_method_15_code 102 = .ok (.aaload, 1) := by decide +kernel
theorem d_Desk_exit_103 : decode prog_1_method_15_code 103 = .ok (.getfield 178, 3) := by decide +kernel
theorem d_Desk_exit_106 : decode prog_1_method_15_code 106 = .ok (.iconst 0, 1) := by decide +kernel
theorem d_Desk_exit_107 : decode prog_1_method_15_code 107 = .ok (.putfield 181, 3) := by decide +kernel
theorem d_Desk_exit_110 : decode prog_1_method_15_code 110 = .ok (.aload_n 0, 1) := by decide +kernel
theorem d_Desk_exit_111 : decode prog_1_method_15_code 111 = .ok (.getfield 11, 3) := by decide +kernel
theorem d_Desk_exit_114 : decode prog_1_method_15_code 114 = .ok (.aload_n 0, 1) := by decide +kernel
theorem d_Desk_exit_115 : decode prog_1_method_15_code 115 = .ok (.getfield 26, 3) := by decide +kernel
theorem d_Desk_exit_118 : decode prog_1_method_15_code 118 = .ok (.iload_n 1, 1) := by decide +kernel
theorem d_Desk_exit_119 : decode prog_1_method_15_code 119 = .ok (.aaload, 1) := by decide +kernel
theorem d_Desk_exit_120 : decode prog_1_method_15_code 120 = .ok (.getfield 78, 3) := by decide +kernel
theorem d_Desk_exit_123 : decode prog_1_method_15_code 123 = .ok (.aaload, 1) := by decide +kernel
theorem d_Desk_exit_124 : decode prog_1_method_15_code 124 = .ok (.astore_n 2, 1) := by decide +kernel
theorem d_Desk_exit_125 : decode prog_1_method_15_code 125 = .ok (.aload_n 2, 1) := by decide +kernel
theorem d_Desk_exit_126 : decode prog_1_method_15_code 126 = .ok (.dup, 1) := by decide +kernel
theorem d_Desk_exit_127 : decode prog_1_method_15_code 127 = .ok (.getfield 75, 3) := by decide +kernel
theorem d_Desk_exit_130 : decode prog_1_method_15_code 130 = .ok (.iconst 1, 1) := by decide +kernel
theorem d_Desk_exit_131 : decode prog_1_method_15_code 131 = .ok (.isub, 1) := by decide +kernel
theorem d_Desk_exit_132 : decode prog_1_method_15_code 132 = .ok (.putfield 75, 3) := by decide +kernel
theorem d_Desk_exit_135 : decode prog_1_method_15_code 135 = .ok (.aload_n 2, 1) := by decide +kernel
theorem d_Desk_exit_136 : decode prog_1_method_15_code 136 = .ok (.invokevirtual 65, 3) := by decide +kernel
theorem d_Desk_exit_139 : decode prog_1_method_15_code 139 = .ok (.ifCond .eq 8, 3) := by decide +kernel
theorem d_Desk_exit_142 : decode prog_1_method_15_code 142 = .ok (.aload_n 0, 1) := by decide +kernel
theorem d_Desk_exit_143 : decode prog_1_method_15_code 143 = .ok (.aload_n 2, 1) := by decide +kernel
theorem d_Desk_exit_144 : decode prog_1_method_15_code 144 = .ok (.invokevirtual 242, 3) := by decide +kernel
theorem d_Desk_exit_147 : decode prog_1_method_15_code 147 = .ok (.aload_n 0, 1) := by decide +kernel
theorem d_Desk_exit_148 : decode prog_1_method_15_code 148 = .ok (.invokevirtual 89, 3) := by decide +kernel
theorem d_Desk_exit_151 : decode prog_1_method_15_code 151 = .ok (.iload_n 1, 1) := by decide +kernel
theorem d_Desk_exit_152 : decode prog_1_method_15_code 152 = .ok (.ireturn, 1) := by decide +kernel
theorem d_Desk_signalTimersDue_0 : decode prog_1_method_59_code 0 = .ok (.iconst 0, 1) := by decide +kernel
theorem d_Desk_signalTimersDue_1 : decode prog_1_method_59_code 1 = .ok (.istore_n 1, 1) := by decide +kernel
theorem d_Desk_signalTimersDue_2 : decode prog_1_method_59_code 2 = .ok (.iload_n 1, 1) := by decide +kernel
theorem d_Desk_signalTimersDue_3 : decode prog_1_method_59_code 3 = .ok (.bipush 16, 2) := by decide +kernel
theorem d_Desk_signalTimersDue_5 : decode prog_1_method_59_code 5 = .ok (.if_icmp .ge 56, 3) := by decide +kernel
theorem d_Desk_signalTimersDue_8 : decode prog_1_method_59_code 8 = .ok (.aload_n 0, 1) := by decide +kernel
theorem d_Desk_signalTimersDue_9 : decode prog_1_method_59_code 9 = .ok (.getfield 29, 3) := by decide +kernel
theorem d_Desk_signalTimersDue_12 : decode prog_1_method_59_code 12 = .ok (.iload_n 1, 1) := by decide +kernel
theorem d_Desk_signalTimersDue_13 : decode prog_1_method_59_code 13 = .ok (.aaload, 1) := by decide +kernel
theorem d_Desk_signalTimersDue_14 : decode prog_1_method_59_code 14 = .ok (.astore_n 2, 1) := by decide +kernel
theorem d_Desk_signalTimersDue_15 : decode prog_1_method_59_code 15 = .ok (.aload_n 2, 1) := by decide +kernel
theorem d_Desk_signalTimersDue_16 : decode prog_1_method_59_code 16 = .ok (.invokevirtual 316, 3) := by decide +kernel
theorem d_Desk_signalTimersDue_19 : decode prog_1_method_59_code 19 = .ok (.ifCond .eq 36, 3) := by decide +kernel
theorem d_Desk_signalTimersDue_22 : decode prog_1_method_59_code 22 = .ok (.aload_n 2, 1) := by decide +kernel
theorem d_Desk_signalTimersDue_23 : decode prog_1_method_59_code 23 = .ok (.getfield 153, 3) := by decide +kernel
theorem d_Desk_signalTimersDue_26 : decode prog_1_method_59_code 26 = .ok (.iconst 4, 1) := by decide +kernel
theorem d_Desk_signalTimersDue_27 : decode prog_1_method_59_code 27 = .ok (.if_icmp .ne 28, 3) := by decide +kernel
theorem d_Desk_signalTimersDue_30 : decode prog_1_method_59_code 30 = .ok (.aload_n 2, 1) := by decide +kernel
theorem d_Desk_signalTimersDue_31 : decode prog_1_method_59_code 31 = .ok (.getfield 318, 3) := by decide +kernel
theorem d_Desk_signalTimersDue_34 : decode prog_1_method_59_code 34 = .ok (.aload_n 0, 1) := by decide +kernel
theorem d_Desk_signalTimersDue_35 : decode prog_1_method_59_code 35 = .ok (.getfield 249, 3) := by decide +kernel
theorem d_Desk_signalTimersDue_38 : decode prog_1_method_59_code 38 = .ok (.if_icmp .ne 17, 3) := by decide +kernel
theorem d_Desk_signalTimersDue_41 : decode prog_1_method_59_code 41 = .ok (.aload_n 2, 1) := by decide +kernel
theorem d_Desk_signalTimersDue_42 : decode prog_1_method_59_code 42 = .ok (.iconst (-1), 1) := by decide +kernel
theorem d_Desk_signalTimersDue_43 : decode prog_1_method_59_code 43 = .ok (.putfield 318, 3) := by decide +kernel
theorem d_Desk_signalTimersDue_46 : decode prog_1_method_59_code 46 = .ok (.aload_n 2, 1) := by decide +kernel
theorem d_Desk_signalTimersDue_47 : decode prog_1_method_59_code 47 = .ok (.iconst 1, 1) := by decide +kernel
theorem d_Desk_signalTimersDue_48 : decode prog_1_method_59_code 48 = .ok (.putfield 273, 3) := by decide +kernel
theorem d_Desk_signalTimersDue_51 : decode prog_1_method_59_code 51 = .ok (.aload_n 0, 1) := by decide +kernel
theorem d_Desk_signalTimersDue_52 : decode prog_1_method_59_code 52 = .ok (.invokevirtual 343, 3) := by decide +kernel
theorem d_Desk_signalTimersDue_55 : decode prog_1_method_59_code 55 = .ok (.iinc 1 1, 3) := by decide +kernel
theorem d_Desk_signalTimersDue_58 : decode prog_1_method_59_code 58 = .ok (.goto (-56), 3) := by decide +kernel
theorem d_Desk_signalTimersDue_61 : decode prog_1_method_59_code 61 = .ok (.return_, 1) := by decide +kernel
theorem d_Desk_endWaitsTimedOut_0 : decode prog_1_method_60_code 0 = .ok (.iconst 0, 1) := by decide +kernel
theorem d_Desk_endWaitsTimedOut_1 : decode prog_1_method_60_code 1 = .ok (.istore_n 1, 1) := by decide +kernel
theorem d_Desk_endWaitsTimedOut_2 : decode prog_1_method_60_code 2 = .ok (.iload_n 1, 1) := by decide +kernel
theorem d_Desk_endWaitsTimedOut_3 : decode prog_1_method_60_code 3 = .ok (.aload_n 0, 1) := by decide +kernel
theorem d_Desk_endWaitsTimedOut_4 : decode prog_1_method_60_code 4 = .ok (.getfield 69, 3) := by decide +kernel
theorem d_Desk_endWaitsTimedOut_7 : decode prog_1_method_60_code 7 = .ok (.if_icmp .ge 45, 3) := by decide +kernel
theorem d_Desk_endWaitsTimedOut_10 : decode prog_1_method_60_code 10 = .ok (.aload_n 0, 1) := by decide +kernel
theorem d_Desk_endWaitsTimedOut_11 : decode prog_1_method_60_code 11 = .ok (.getfield 26, 3) := by decide +kernel
theorem d_Desk_endWaitsTimedOut_14 : decode prog_1_method_60_code 14 = .ok (.iload_n 1, 1) := by decide +kernel
theorem d_Desk_endWaitsTimedOut_15 : decode prog_1_method_60_code 15 = .ok (.aaload, 1) := by decide +kernel
theorem d_Desk_endWaitsTimedOut_16 : decode prog_1_method_60_code 16 = .ok (.getfield 192, 3) := by decide +kernel
theorem d_Desk_endWaitsTimedOut_19 : decode prog_1_method_60_code 19 = .ok (.iconst 2, 1) := by decide +kernel
theorem d_Desk_endWaitsTimedOut_20 : decode prog_1_method_60_code 20 = .ok (.if_icmp .ne 26, 3) := by decide +kernel
theorem d_Desk_endWaitsTimedOut_23 : decode prog_1_method_60_code 23 = .ok (.aload_n 0, 1) := by decide +kernel
theorem d_Desk_endWaitsTimedOut_24 : decode prog_1_method_60_code 24 = .ok (.getfield 26, 3) := by decide +kernel
theorem d_Desk_endWaitsTimedOut_27 : decode prog_1_method_60_code 27 = .ok (.iload_n 1, 1) := by decide +kernel
theorem d_Desk_endWaitsTimedOut_28 : decode prog_1_method_60_code 28 = .ok (.aaload, 1) := by decide +kernel
theorem d_Desk_endWaitsTimedOut_29 : decode prog_1_method_60_code 29 = .ok (.getfield 264, 3) := by decide +kernel
theorem d_Desk_endWaitsTimedOut_32 : decode prog_1_method_60_code 32 = .ok (.aload_n 0, 1) := by decide +kernel
theorem d_Desk_endWaitsTimedOut_33 : decode prog_1_method_60_code 33 = .ok (.getfield 249, 3) := by decide +kernel
theorem d_Desk_endWaitsTimedOut_36 : decode prog_1_method_60_code 36 = .ok (.if_icmp .ne 10, 3) := by decide +kernel
theorem d_Desk_endWaitsTimedOut_39 : decode prog_1_method_60_code 39 = .ok (.aload_n 0, 1) := by decide +kernel
theorem d_Desk_endWaitsTimedOut_40 : decode prog_1_method_60_code 40 = .ok (.iload_n 1, 1) := by decide +kernel
theorem d_Desk_endWaitsTimedOut_41 : decode prog_1_method_60_code 41 = .ok (.bipush (-11), 2) := by decide +kernel
theorem d_Desk_endWaitsTimedOut_43 : decode prog_1_method_60_code 43 = .ok (.invokevirtual 374, 3) := by decide +kernel
theorem d_Desk_endWaitsTimedOut_46 : decode prog_1_method_60_code 46 = .ok (.iinc 1 1, 3) := by decide +kernel
theorem d_Desk_endWaitsTimedOut_49 : decode prog_1_method_60_code 49 = .ok (.goto (-47), 3) := by decide +kernel
theorem d_Desk_endWaitsTimedOut_52 : decode prog_1_method_60_code 52 = .ok (.return_, 1) := by decide +kernel
theorem d_Sched_useQuantum_0 : decode prog_6_method_4_code 0 = .ok (.aload_n 0, 1) := by decide +kernel
theorem d_Sched_useQuantum_1 : decode prog_6_method_4_code 1 = .ok (.getfield 11, 3) := by decide +kernel
theorem d_Sched_useQuantum_4 : decode prog_6_method_4_code 4 = .ok (.aload_n 0, 1) := by decide +kernel
theorem d_Sched_useQuantum_5 : decode prog_6_method_4_code 5 = .ok (.getfield 23, 3) := by decide +kernel
theorem d_Sched_useQuantum_8 : decode prog_6_method_4_code 8 = .ok (.aaload, 1) := by decide +kernel
theorem d_Sched_useQuantum_9 : decode prog_6_method_4_code 9 = .ok (.astore_n 1, 1) := by decide +kernel
theorem d_Sched_useQuantum_10 : decode prog_6_method_4_code 10 = .ok (.aload_n 1, 1) := by decide +kernel
theorem d_Sched_useQuantum_11 : decode prog_6_method_4_code 11 = .ok (.dup, 1) := by decide +kernel
theorem d_Sched_useQuantum_12 : decode prog_6_method_4_code 12 = .ok (.getfield 53, 3) := by decide +kernel
theorem d_Sched_useQuantum_15 : decode prog_6_method_4_code 15 = .ok (.iconst 1, 1) := by decide +kernel
theorem d_Sched_useQuantum_16 : decode prog_6_method_4_code 16 = .ok (.iadd, 1) := by decide +kernel
theorem d_Sched_useQuantum_17 : decode prog_6_method_4_code 17 = .ok (.putfield 53, 3) := by decide +kernel
theorem d_Sched_useQuantum_20 : decode prog_6_method_4_code 20 = .ok (.aload_n 1, 1) := by decide +kernel
theorem d_Sched_useQuantum_21 : decode prog_6_method_4_code 21 = .ok (.getfield 53, 3) := by decide +kernel
theorem d_Sched_useQuantum_24 : decode prog_6_method_4_code 24 = .ok (.iconst 3, 1) := by decide +kernel
theorem d_Sched_useQuantum_25 : decode prog_6_method_4_code 25 = .ok (.if_icmp .ge 4, 3) := by decide +kernel
theorem d_Sched_useQuantum_28 : decode prog_6_method_4_code 28 = .ok (.return_, 1) := by decide +kernel
theorem d_Sched_useQuantum_29 : decode prog_6_method_4_code 29 = .ok (.aload_n 1, 1) := by decide +kernel
theorem d_Sched_useQuantum_30 : decode prog_6_method_4_code 30 = .ok (.iconst 0, 1) := by decide +kernel
theorem d_Sched_useQuantum_31 : decode prog_6_method_4_code 31 = .ok (.putfield 53, 3) := by decide +kernel
theorem d_Sched_useQuantum_34 : decode prog_6_method_4_code 34 = .ok (.aload_n 0, 1) := by decide +kernel
theorem d_Sched_useQuantum_35 : decode prog_6_method_4_code 35 = .ok (.getfield 19, 3) := by decide +kernel
theorem d_Sched_useQuantum_38 : decode prog_6_method_4_code 38 = .ok (.aload_n 1, 1) := by decide +kernel
theorem d_Sched_useQuantum_39 : decode prog_6_method_4_code 39 = .ok (.getfield 37, 3) := by decide +kernel
theorem d_Sched_useQuantum_42 : decode prog_6_method_4_code 42 = .ok (.aaload, 1) := by decide +kernel
theorem d_Sched_useQuantum_43 : decode prog_6_method_4_code 43 = .ok (.getfield 56, 3) := by decide +kernel
theorem d_Sched_useQuantum_46 : decode prog_6_method_4_code 46 = .ok (.ifCond .le 19, 3) := by decide +kernel
theorem d_Sched_useQuantum_49 : decode prog_6_method_4_code 49 = .ok (.aload_n 0, 1) := by decide +kernel
theorem d_Sched_useQuantum_50 : decode prog_6_method_4_code 50 = .ok (.aload_n 0, 1) := by decide +kernel
theorem d_Sched_useQuantum_51 : decode prog_6_method_4_code 51 = .ok (.getfield 23, 3) := by decide +kernel
theorem d_Sched_useQuantum_54 : decode prog_6_method_4_code 54 = .ok (.invokevirtual 59, 3) := by decide +kernel
theorem d_Sched_useQuantum_57 : decode prog_6_method_4_code 57 = .ok (.aload_n 0, 1) := by decide +kernel
theorem d_Sched_useQuantum_58 : decode prog_6_method_4_code 58 = .ok (.aload_n 1, 1) := by decide +kernel
theorem d_Sched_useQuantum_59 : decode prog_6_method_4_code 59 = .ok (.getfield 37, 3) := by decide +kernel
theorem d_Sched_useQuantum_62 : decode prog_6_method_4_code 62 = .ok (.invokevirtual 50, 3) := by decide +kernel
theorem d_Sched_useQuantum_65 : decode prog_6_method_4_code 65 = .ok (.return_, 1) := by decide +kernel
theorem d_Desk_passOneTick_0 : decode prog_1_method_58_code 0 = .ok (.aload_n 0, 1) := by decide +kernel
theorem d_Desk_passOneTick_1 : decode prog_1_method_58_code 1 = .ok (.getfield 18, 3) := by decide +kernel
theorem d_Desk_passOneTick_4 : decode prog_1_method_58_code 4 = .ok (.getfield 92, 3) := by decide +kernel
theorem d_Desk_passOneTick_7 : decode prog_1_method_58_code 7 = .ok (.istore_n 1, 1) := by decide +kernel
theorem d_Desk_passOneTick_8 : decode prog_1_method_58_code 8 = .ok (.aload_n 0, 1) := by decide +kernel
theorem d_Desk_passOneTick_9 : decode prog_1_method_58_code 9 = .ok (.dup, 1) := by decide +kernel
theorem d_Desk_passOneTick_10 : decode prog_1_method_58_code 10 = .ok (.getfield 249, 3) := by decide +kernel
theorem d_Desk_passOneTick_13 : decode prog_1_method_58_code 13 = .ok (.iconst 1, 1) := by decide +kernel
theorem d_Desk_passOneTick_14 : decode prog_1_method_58_code 14 = .ok (.iadd, 1) := by decide +kernel
theorem d_Desk_passOneTick_15 : decode prog_1_method_58_code 15 = .ok (.putfield 249, 3) := by decide +kernel
theorem d_Desk_passOneTick_18 : decode prog_1_method_58_code 18 = .ok (.aload_n 0, 1) := by decide +kernel
theorem d_Desk_passOneTick_19 : decode prog_1_method_58_code 19 = .ok (.invokevirtual 393, 3) := by decide +kernel
theorem d_Desk_passOneTick_22 : decode prog_1_method_58_code 22 = .ok (.aload_n 0, 1) := by decide +kernel
theorem d_Desk_passOneTick_23 : decode prog_1_method_58_code 23 = .ok (.invokevirtual 396, 3) := by decide +kernel
theorem d_Desk_passOneTick_26 : decode prog_1_method_58_code 26 = .ok (.aload_n 0, 1) := by decide +kernel
theorem d_Desk_passOneTick_27 : decode prog_1_method_58_code 27 = .ok (.invokevirtual 89, 3) := by decide +kernel
theorem d_Desk_passOneTick_30 : decode prog_1_method_58_code 30 = .ok (.aload_n 0, 1) := by decide +kernel
theorem d_Desk_passOneTick_31 : decode prog_1_method_58_code 31 = .ok (.getfield 163, 3) := by decide +kernel
theorem d_Desk_passOneTick_34 : decode prog_1_method_58_code 34 = .ok (.ifCond .ne 26, 3) := by decide +kernel
theorem d_Desk_passOneTick_37 : decode prog_1_method_58_code 37 = .ok (.iload_n 1, 1) := by decide +kernel
theorem d_Desk_passOneTick_38 : decode prog_1_method_58_code 38 = .ok (.iconst (-1), 1) := by decide +kernel
theorem d_Desk_passOneTick_39 : decode prog_1_method_58_code 39 = .ok (.if_icmp .eq 21, 3) := by decide +kernel
theorem d_Desk_passOneTick_42 : decode prog_1_method_58_code 42 = .ok (.aload_n 0, 1) := by decide +kernel
theorem d_Desk_passOneTick_43 : decode prog_1_method_58_code 43 = .ok (.getfield 18, 3) := by decide +kernel
theorem d_Desk_passOneTick_46 : decode prog_1_method_58_code 46 = .ok (.getfield 92, 3) := by decide +kernel
theorem d_Desk_passOneTick_49 : decode prog_1_method_58_code 49 = .ok (.iload_n 1, 1) := by decide +kernel
theorem d_Desk_passOneTick_50 : decode prog_1_method_58_code 50 = .ok (.if_icmp .ne 10, 3) := by decide +kernel
theorem d_Desk_passOneTick_53 : decode prog_1_method_58_code 53 = .ok (.aload_n 0, 1) := by decide +kernel
theorem d_Desk_passOneTick_54 : decode prog_1_method_58_code 54 = .ok (.getfield 18, 3) := by decide +kernel
theorem d_Desk_passOneTick_57 : decode prog_1_method_58_code 57 = .ok (.invokevirtual 399, 3) := by decide +kernel
theorem d_Desk_passOneTick_60 : decode prog_1_method_58_code 60 = .ok (.return_, 1) := by decide +kernel
theorem d_Desk_tick_0 : decode prog_1_method_16_code 0 = .ok (.iload_n 1, 1) := by decide +kernel
theorem d_Desk_tick_1 : decode prog_1_method_16_code 1 = .ok (.iconst 1, 1) := by decide +kernel
theorem d_Desk_tick_2 : decode prog_1_method_16_code 2 = .ok (.bipush 9, 2) := by decide +kernel
theorem d_Desk_tick_4 : decode prog_1_method_16_code 4 = .ok (.invokestatic 54, 3) := by decide +kernel
theorem d_Desk_tick_7 : decode prog_1_method_16_code 7 = .ok (.ifCond .ne 5, 3) := by decide +kernel
theorem d_Desk_tick_10 : decode prog_1_method_16_code 10 = .ok (.iconst (-1), 1) := by decide +kernel
theorem d_Desk_tick_11 : decode prog_1_method_16_code 11 = .ok (.ireturn, 1) := by decide +kernel
theorem d_Desk_tick_12 : decode prog_1_method_16_code 12 = .ok (.iconst 0, 1) := by decide +kernel
theorem d_Desk_tick_13 : decode prog_1_method_16_code 13 = .ok (.istore_n 2, 1) := by decide +kernel
theorem d_Desk_tick_14 : decode prog_1_method_16_code 14 = .ok (.iload_n 2, 1) := by decide +kernel
theorem d_Desk_tick_15 : decode prog_1_method_16_code 15 = .ok (.iload_n 1, 1) := by decide +kernel
theorem d_Desk_tick_16 : decode prog_1_method_16_code 16 = .ok (.if_icmp .ge 13, 3) := by decide +kernel
theorem d_Desk_tick_19 : decode prog_1_method_16_code 19 = .ok (.aload_n 0, 1) := by decide +kernel
theorem d_Desk_tick_20 : decode prog_1_method_16_code 20 = .ok (.invokevirtual 246, 3) := by decide +kernel
theorem d_Desk_tick_23 : decode prog_1_method_16_code 23 = .ok (.iinc 2 1, 3) := by decide +kernel
theorem d_Desk_tick_26 : decode prog_1_method_16_code 26 = .ok (.goto (-12), 3) := by decide +kernel
theorem d_Desk_tick_29 : decode prog_1_method_16_code 29 = .ok (.aload_n 0, 1) := by decide +kernel
theorem d_Desk_tick_30 : decode prog_1_method_16_code 30 = .ok (.getfield 249, 3) := by decide +kernel
theorem d_Desk_tick_33 : decode prog_1_method_16_code 33 = .ok (.ireturn, 1) := by decide +kernel
theorem d_Desk_actor_0 : decode prog_1_method_17_code 0 = .ok (.iload_n 1, 1) := by decide +kernel
theorem d_Desk_actor_1 : decode prog_1_method_17_code 1 = .ok (.iconst 0, 1) := by decide +kernel
theorem d_Desk_actor_2 : decode prog_1_method_17_code 2 = .ok (.aload_n 0, 1) := by decide +kernel
theorem d_Desk_actor_3 : decode prog_1_method_17_code 3 = .ok (.getfield 69, 3) := by decide +kernel
theorem d_Desk_actor_6 : decode prog_1_method_17_code 6 = .ok (.iconst 1, 1) := by decide +kernel
theorem d_Desk_actor_7 : decode prog_1_method_17_code 7 = .ok (.isub, 1) := by decide +kernel
theorem d_Desk_actor_8 : decode prog_1_method_17_code 8 = .ok (.invokestatic 54, 3) := by decide +kernel
theorem d_Desk_actor_11 : decode prog_1_method_17_code 11 = .ok (.ifCond .ne 5, 3) := by decide +kernel
theorem d_Desk_actor_14 : decode prog_1_method_17_code 14 = .ok (.iconst (-1), 1) := by decide +kernel
theorem d_Desk_actor_15 : decode prog_1_method_17_code 15 = .ok (.ireturn, 1) := by decide +kernel
theorem d_Desk_actor_16 : decode prog_1_method_17_code 16 = .ok (.aload_n 0, 1) := by decide +kernel
theorem d_Desk_actor_17 : decode prog_1_method_17_code 17 = .ok (.getfield 26, 3) := by decide +kernel
theorem d_Desk_actor_20 : decode prog_1_method_17_code 20 = .ok (.iload_n 1, 1) := by decide +kernel
theorem d_Desk_actor_21 : decode prog_1_method_17_code 21 = .ok (.aaload, 1) := by decide +kernel
theorem d_Desk_actor_22 : decode prog_1_method_17_code 22 = .ok (.astore_n 3, 1) := by decide +kernel
theorem d_Desk_actor_23 : decode prog_1_method_17_code 23 = .ok (.iload_n 2, 1) := by decide +kernel
theorem d_Desk_actor_24 : decode prog_1_method_17_code 24 = .ok (.tableswitch 125 0 8 #[52, 57, 62, 67, 72, 80, 85, 90, 95], 52) := by decide +kernel
theorem d_Desk_actor_76 : decode prog_1_method_17_code 76 = .ok (.aload_n 3, 1) := by decide +kernel
theorem d_Desk_actor_77 : decode prog_1_method_17_code 77 = .ok (.getfield 192, 3) := by decide +kernel
theorem d_Desk_actor_80 : decode prog_1_method_17_code 80 = .ok (.ireturn, 1) := by decide +kernel
theorem d_Desk_actor_81 : decode prog_1_method_17_code 81 = .ok (.aload_n 3, 1) := by decide +kernel
theorem d_Desk_actor_82 : decode prog_1_method_17_code 82 = .ok (.getfield 78, 3) := by decide +kernel
theorem d_Desk_actor_85 : decode prog_1_method_17_code 85 = .ok (.ireturn, 1) := by decide +kernel
theorem d_Desk_actor_86 : decode prog_1_method_17_code 86 = .ok (.aload_n 3, 1) := by decide +kernel
theorem d_Desk_actor_87 : decode prog_1_method_17_code 87 = .ok (.getfield 83, 3) := by decide +kernel
theorem d_Desk_actor_90 : decode prog_1_method_17_code 90 = .ok (.ireturn, 1) := by decide +kernel
theorem d_Desk_actor_91 : decode prog_1_method_17_code 91 = .ok (.aload_n 3, 1) := by decide +kernel
theorem d_Desk_actor_92 : decode prog_1_method_17_code 92 = .ok (.getfield 252, 3) := by decide +kernel
theorem d_Desk_actor_95 : decode prog_1_method_17_code 95 = .ok (.ireturn, 1) := by decide +kernel
theorem d_Desk_actor_96 : decode prog_1_method_17_code 96 = .ok (.aload_n 3, 1) := by decide +kernel
theorem d_Desk_actor_97 : decode prog_1_method_17_code 97 = .ok (.getfield 178, 3) := by decide +kernel
theorem d_Desk_actor_100 : decode prog_1_method_17_code 100 = .ok (.getfield 181, 3) := by decide +kernel
theorem d_Desk_actor_103 : decode prog_1_method_17_code 103 = .ok (.ireturn, 1) := by decide +kernel
theorem d_Desk_actor_104 : decode prog_1_method_17_code 104 = .ok (.aload_n 3, 1) := by decide +kernel
theorem d_Desk_actor_105 : decode prog_1_method_17_code 105 = .ok (.getfield 255, 3) := by decide +kernel
theorem d_Desk_actor_108 : decode prog_1_method_17_code 108 = .ok (.ireturn, 1) := by decide +kernel
theorem d_Desk_actor_109 : decode prog_1_method_17_code 109 = .ok (.aload_n 3, 1) := by decide +kernel
theorem d_Desk_actor_110 : decode prog_1_method_17_code 110 = .ok (.getfield 258, 3) := by decide +kernel
theorem d_Desk_actor_113 : decode prog_1_method_17_code 113 = .ok (.ireturn, 1) := by decide +kernel
theorem d_Desk_actor_114 : decode prog_1_method_17_code 114 = .ok (.aload_n 3, 1) := by decide +kernel
theorem d_Desk_actor_115 : decode prog_1_method_17_code 115 = .ok (.getfield 261, 3) := by decide +kernel
theorem d_Desk_actor_118 : decode prog_1_method_17_code 118 = .ok (.ireturn, 1) := by decide +kernel
theorem d_Desk_actor_119 : decode prog_1_method_17_code 119 = .ok (.aload_n 3, 1) := by decide +kernel
theorem d_Desk_actor_120 : decode prog_1_method_17_code 120 = .ok (.getfield 192, 3) := by decide +kernel
theorem d_Desk_actor_123 : decode prog_1_method_17_code 123 = .ok (.iconst 2, 1) := by decide +kernel
theorem d_Desk_actor_124 : decode prog_1_method_17_code 124 = .ok (.if_icmp .ne 23, 3) := by decide +kernel
theorem d_Desk_actor_127 : decode prog_1_method_17_code 127 = .ok (.aload_n 3, 1) := by decide +kernel
theorem d_Desk_actor_128 : decode prog_1_method_17_code 128 = .ok (.getfield 264, 3) := by decide +kernel
theorem d_Desk_actor_131 : decode prog_1_method_17_code 131 = .ok (.iconst (-1), 1) := by decide +kernel
theorem d_Desk_actor_132 : decode prog_1_method_17_code 132 = .ok (.if_icmp .eq 15, 3) := by decide +kernel
theorem d_Desk_actor_135 : decode prog_1_method_17_code 135 = .ok (.aload_n 3, 1) := by decide +kernel
theorem d_Desk_actor_136 : decode prog_1_method_17_code 136 = .ok (.getfield 264, 3) := by decide +kernel
theorem d_Desk_actor_139 : decode prog_1_method_17_code 139 = .ok (.aload_n 0, 1) := by decide +kernel
theorem d_Desk_actor_140 : decode prog_1_method_17_code 140 = .ok (.getfield 249, 3) := by decide +kernel
theorem d_Desk_actor_143 : decode prog_1_method_17_code 143 = .ok (.isub, 1) := by decide +kernel
theorem d_Desk_actor_144 : decode prog_1_method_17_code 144 = .ok (.goto 4, 3) := by decide +kernel
theorem d_Desk_actor_147 : decode prog_1_method_17_code 147 = .ok (.iconst (-1), 1) := by decide +kernel
theorem d_Desk_actor_148 : decode prog_1_method_17_code 148 = .ok (.ireturn, 1) := by decide +kernel
theorem d_Desk_actor_149 : decode prog_1_method_17_code 149 = .ok (.iconst (-1), 1) := by decide +kernel
theorem d_Desk_actor_150 : decode prog_1_method_17_code 150 = .ok (.ireturn, 1) := by decide +kernel
theorem d_Desk_detailOf_0 : decode prog_1_method_34_code 0 = .ok (.aload_n 1, 1) := by decide +kernel
theorem d_Desk_detailOf_1 : decode prog_1_method_34_code 1 = .ok (.getfield 153, 3) := by decide +kernel
theorem d_Desk_detailOf_4 : decode prog_1_method_34_code 4 = .ok (.tableswitch 67 2 5 #[32, 67, 37, 59], 32) := by decide +kernel
theorem d_Desk_detailOf_36 : decode prog_1_method_34_code 36 = .ok (.aload_n 1, 1) := by decide +kernel
theorem d_Desk_detailOf_37 : decode prog_1_method_34_code 37 = .ok (.getfield 117, 3) := by decide +kernel
theorem d_Desk_detailOf_40 : decode prog_1_method_34_code 40 = .ok (.ireturn, 1) := by decide +kernel
theorem d_Desk_detailOf_41 : decode prog_1_method_34_code 41 = .ok (.aload_n 1, 1) := by decide +kernel
theorem d_Desk_detailOf_42 : decode prog_1_method_34_code 42 = .ok (.getfield 318, 3) := by decide +kernel
theorem d_Desk_detailOf_45 : decode prog_1_method_34_code 45 = .ok (.iconst (-1), 1) := by decide +kernel
theorem d_Desk_detailOf_46 : decode prog_1_method_34_code 46 = .ok (.if_icmp .ne 7, 3) := by decide +kernel
theorem d_Desk_detailOf_49 : decode prog_1_method_34_code 49 = .ok (.iconst 0, 1) := by decide +kernel
theorem d_Desk_detailOf_50 : decode prog_1_method_34_code 50 = .ok (.goto 12, 3) := by decide +kernel
theorem d_Desk_detailOf_53 : decode prog_1_method_34_code 53 = .ok (.aload_n 1, 1) := by decide +kernel
theorem d_Desk_detailOf_54 : decode prog_1_method_34_code 54 = .ok (.getfield 318, 3) := by decide +kernel
theorem d_Desk_detailOf_57 : decode prog_1_method_34_code 57 = .ok (.aload_n 0, 1) := by decide +kernel
theorem d_Desk_detailOf_58 : decode prog_1_method_34_code 58 = .ok (.getfield 249, 3) := by decide +kernel
theorem d_Desk_detailOf_61 : decode prog_1_method_34_code 61 = .ok (.isub, 1) := by decide +kernel
theorem d_Desk_detailOf_62 : decode prog_1_method_34_code 62 = .ok (.ireturn, 1) := by decide +kernel
theorem d_Desk_detailOf_63 : decode prog_1_method_34_code 63 = .ok (.aload_n 1, 1) := by decide +kernel
theorem d_Desk_detailOf_64 : decode prog_1_method_34_code 64 = .ok (.getfield 270, 3) := by decide +kernel
theorem d_Desk_detailOf_67 : decode prog_1_method_34_code 67 = .ok (.invokevirtual 321, 3) := by decide +kernel
theorem d_Desk_detailOf_70 : decode prog_1_method_34_code 70 = .ok (.ireturn, 1) := by decide +kernel
theorem d_Desk_detailOf_71 : decode prog_1_method_34_code 71 = .ok (.iconst 0, 1) := by decide +kernel
theorem d_Desk_detailOf_72 : decode prog_1_method_34_code 72 = .ok (.ireturn, 1) := by decide +kernel
theorem d_Desk_object_0 : decode prog_1_method_18_code 0 = .ok (.aload_n 0, 1) := by decide +kernel
theorem d_Desk_object_1 : decode prog_1_method_18_code 1 = .ok (.iload_n 1, 1) := by decide +kernel
theorem d_Desk_object_2 : decode prog_1_method_18_code 2 = .ok (.invokevirtual 211, 3) := by decide +kernel
theorem d_Desk_object_5 : decode prog_1_method_18_code 5 = .ok (.ifCond .ne 5, 3) := by decide +kernel
theorem d_Desk_object_8 : decode prog_1_method_18_code 8 = .ok (.iconst (-1), 1) := by decide +kernel
theorem d_Desk_object_9 : decode prog_1_method_18_code 9 = .ok (.ireturn, 1) := by decide +kernel
theorem d_Desk_object_10 : decode prog_1_method_18_code 10 = .ok (.aload_n 0, 1) := by decide +kernel
theorem d_Desk_object_11 : decode prog_1_method_18_code 11 = .ok (.getfield 29, 3) := by decide +kernel
theorem d_Desk_object_14 : decode prog_1_method_18_code 14 = .ok (.iload_n 1, 1) := by decide +kernel
theorem d_Desk_object_15 : decode prog_1_method_18_code 15 = .ok (.aaload, 1) := by decide +kernel
theorem d_Desk_object_16 : decode prog_1_method_18_code 16 = .ok (.astore_n 3, 1) := by decide +kernel
theorem d_Desk_object_17 : decode prog_1_method_18_code 17 = .ok (.iload_n 2, 1) := by decide +kernel
theorem d_Desk_object_18 : decode prog_1_method_18_code 18 = .ok (.tableswitch 116 0 7 #[46, 51, 56, 61, 66, 89, 95, 108], 46) := by decide +kernel
theorem d_Desk_object_64 : decode prog_1_method_18_code 64 = .ok (.aload_n 3, 1) := by decide +kernel
theorem d_Desk_object_65 : decode prog_1_method_18_code 65 = .ok (.getfield 153, 3) := by decide +kernel
theorem d_Desk_object_68 : decode prog_1_method_18_code 68 = .ok (.ireturn, 1) := by decide +kernel
theorem d_Desk_object_69 : decode prog_1_method_18_code 69 = .ok (.aload_n 3, 1) := by decide +kernel
theorem d_Desk_object_70 : decode prog_1_method_18_code 70 = .ok (.invokevirtual 267, 3) := by decide +kernel
theorem d_Desk_object_73 : decode prog_1_method_18_code 73 = .ok (.ireturn, 1) := by decide +kernel
theorem d_Desk_object_74 : decode prog_1_method_18_code 74 = .ok (.aload_n 3, 1) := by decide +kernel
theorem d_Desk_object_75 : decode prog_1_method_18_code 75 = .ok (.getfield 141, 3) := by decide +kernel
theorem d_Desk_object_78 : decode prog_1_method_18_code 78 = .ok (.ireturn, 1) := by decide +kernel
theorem d_Desk_object_79 : decode prog_1_method_18_code 79 = .ok (.aload_n 3, 1) := by decide +kernel
theorem d_Desk_object_80 : decode prog_1_method_18_code 80 = .ok (.getfield 204, 3) := by decide +kernel
theorem d_Desk_object_83 : decode prog_1_method_18_code 83 = .ok (.ireturn, 1) := by decide +kernel
theorem d_Desk_object_84 : decode prog_1_method_18_code 84 = .ok (.aload_n 3, 1) := by decide +kernel
theorem d_Desk_object_85 : decode prog_1_method_18_code 85 = .ok (.getfield 153, 3) := by decide +kernel
theorem d_Desk_object_88 : decode prog_1_method_18_code 88 = .ok (.iconst 5, 1) := by decide +kernel
theorem d_Desk_object_89 : decode prog_1_method_18_code 89 = .ok (.if_icmp .ne 13, 3) := by decide +kernel
theorem d_Desk_object_92 : decode prog_1_method_18_code 92 = .ok (.aload_n 3, 1) := by decide +kernel
theorem d_Desk_object_93 : decode prog_1_method_18_code 93 = .ok (.getfield 270, 3) := by decide +kernel
theorem d_Desk_object_96 : decode prog_1_method_18_code 96 = .ok (.getfield 181, 3) := by decide +kernel
theorem d_Desk_object_99 : decode prog_1_method_18_code 99 = .ok (.goto 7, 3) := by decide +kernel
theorem d_Desk_object_102 : decode prog_1_method_18_code 102 = .ok (.aload_n 3, 1) := by decide +kernel
theorem d_Desk_object_103 : decode prog_1_method_18_code 103 = .ok (.getfield 273, 3) := by decide +kernel
theorem d_Desk_object_106 : decode prog_1_method_18_code 106 = .ok (.ireturn, 1) := by decide +kernel
theorem d_Desk_object_107 : decode prog_1_method_18_code 107 = .ok (.aload_n 0, 1) := by decide +kernel
theorem d_Desk_object_108 : decode prog_1_method_18_code 108 = .ok (.aload_n 3, 1) := by decide +kernel
theorem d_Desk_object_109 : decode prog_1_method_18_code 109 = .ok (.invokevirtual 276, 3) := by decide +kernel
theorem d_Desk_object_112 : decode prog_1_method_18_code 112 = .ok (.ireturn, 1) := by decide +kernel
theorem d_Desk_object_113 : decode prog_1_method_18_code 113 = .ok (.aload_n 3, 1) := by decide +kernel
theorem d_Desk_object_114 : decode prog_1_method_18_code 114 = .ok (.getfield 280, 3) := by decide +kernel
theorem d_Desk_object_117 : decode prog_1_method_18_code 117 = .ok (.ifCond .eq 7, 3) := by decide +kernel
theorem d_Desk_object_120 : decode prog_1_method_18_code 120 = .ok (.iconst 1, 1) := by decide +kernel
theorem d_Desk_object_121 : decode prog_1_method_18_code 121 = .ok (.goto 4, 3) := by decide +kernel
theorem d_Desk_object_124 : decode prog_1_method_18_code 124 = .ok (.iconst 0, 1) := by decide +kernel
theorem d_Desk_object_125 : decode prog_1_method_18_code 125 = .ok (.ireturn, 1) := by decide +kernel
theorem d_Desk_object_126 : decode prog_1_method_18_code 126 = .ok (.aload_n 3, 1) := by decide +kernel
theorem d_Desk_object_127 : decode prog_1_method_18_code 127 = .ok (.getfield 124, 3) := by decide +kernel
theorem d_Desk_object_130 : decode prog_1_method_18_code 130 = .ok (.getfield 147, 3) := by decide +kernel
theorem d_Desk_object_133 : decode prog_1_method_18_code 133 = .ok (.ireturn, 1) := by decide +kernel
theorem d_Desk_object_134 : decode prog_1_method_18_code 134 = .ok (.iconst (-1), 1) := by decide +kernel
theorem d_Desk_object_135 : decode prog_1_method_18_code 135 = .ok (.ireturn, 1) := by decide +kernel
theorem d_Desk_io_0 : decode prog_1_method_19_code 0 = .ok (.iload_n 1, 1) := by decide +kernel
theorem d_Desk_io_1 : decode prog_1_method_19_code 1 = .ok (.iconst 0, 1) := by decide +kernel
theorem d_Desk_io_2 : decode prog_1_method_19_code 2 = .ok (.bipush 7, 2) := by decide +kernel
theorem d_Desk_io_4 : decode prog_1_method_19_code 4 = .ok (.invokestatic 54, 3) := by decide +kernel
theorem d_Desk_io_7 : decode prog_1_method_19_code 7 = .ok (.ifCond .eq 16, 3) := by decide +kernel
theorem d_Desk_io_10 : decode prog_1_method_19_code 10 = .ok (.aload_n 0, 1) := by decide +kernel
theorem d_Desk_io_11 : decode prog_1_method_19_code 11 = .ok (.getfield 35, 3) := by decide +kernel
theorem d_Desk_io_14 : decode prog_1_method_19_code 14 = .ok (.iload_n 1, 1) := by decide +kernel
theorem d_Desk_io_15 : decode prog_1_method_19_code 15 = .ok (.aaload, 1) := by decide +kernel
theorem d_Desk_io_16 : decode prog_1_method_19_code 16 = .ok (.getfield 283, 3) := by decide +kernel
theorem d_Desk_io_19 : decode prog_1_method_19_code 19 = .ok (.iconst (-1), 1) := by decide +kernel
theorem d_Desk_io_20 : decode prog_1_method_19_code 20 = .ok (.if_icmp .ne 5, 3) := by decide +kernel
theorem d_Desk_io_23 : decode prog_1_method_19_code 23 = .ok (.iconst (-1), 1) := by decide +kernel
theorem d_Desk_io_24 : decode prog_1_method_19_code 24 = .ok (.ireturn, 1) := by decide +kernel
theorem d_Desk_io_25 : decode prog_1_method_19_code 25 = .ok (.aload_n 0, 1) := by decide +kernel
theorem d_Desk_io_26 : decode prog_1_method_19_code 26 = .ok (.getfield 35, 3) := by decide +kernel
theorem d_Desk_io_29 : decode prog_1_method_19_code 29 = .ok (.iload_n 1, 1) := by decide +kernel
theorem d_Desk_io_30 : decode prog_1_method_19_code 30 = .ok (.aaload, 1) := by decide +kernel
theorem d_Desk_io_31 : decode prog_1_method_19_code 31 = .ok (.astore_n 3, 1) := by decide +kernel
theorem d_Desk_io_32 : decode prog_1_method_19_code 32 = .ok (.iload_n 2, 1) := by decide +kernel
theorem d_Desk_io_33 : decode prog_1_method_19_code 33 = .ok (.tableswitch 101 0 6 #[43, 48, 53, 58, 63, 68, 88], 43) := by decide +kernel
theorem d_Desk_io_76 : decode prog_1_method_19_code 76 = .ok (.aload_n 3, 1) := by decide +kernel
theorem d_Desk_io_77 : decode prog_1_method_19_code 77 = .ok (.getfield 283, 3) := by decide +kernel
theorem d_Desk_io_80 : decode prog_1_method_19_code 80 = .ok (.ireturn, 1) := by decide +kernel
theorem d_Desk_io_81 : decode prog_1_method_19_code 81 = .ok (.aload_n 3, 1) := by decide +kernel
theorem d_Desk_io_82 : decode prog_1_method_19_code 82 = .ok (.getfield 286, 3) := by decide +kernel
theorem d_Desk_io_85 : decode prog_1_method_19_code 85 = .ok (.ireturn, 1) := by decide +kernel
theorem d_Desk_io_86 : decode prog_1_method_19_code 86 = .ok (.aload_n 3, 1) := by decide +kernel
theorem d_Desk_io_87 : decode prog_1_method_19_code 87 = .ok (.getfield 239, 3) := by decide +kernel
theorem d_Desk_io_90 : decode prog_1_method_19_code 90 = .ok (.ireturn, 1) := by decide +kernel
theorem d_Desk_io_91 : decode prog_1_method_19_code 91 = .ok (.aload_n 3, 1) := by decide +kernel
theorem d_Desk_io_92 : decode prog_1_method_19_code 92 = .ok (.getfield 289, 3) := by decide +kernel
theorem d_Desk_io_95 : decode prog_1_method_19_code 95 = .ok (.ireturn, 1) := by decide +kernel
theorem d_Desk_io_96 : decode prog_1_method_19_code 96 = .ok (.aload_n 3, 1) := by decide +kernel
theorem d_Desk_io_97 : decode prog_1_method_19_code 97 = .ok (.getfield 292, 3) := by decide +kernel
theorem d_Desk_io_100 : decode prog_1_method_19_code 100 = .ok (.ireturn, 1) := by decide +kernel
theorem d_Desk_io_101 : decode prog_1_method_19_code 101 = .ok (.aload_n 3, 1) := by decide +kernel
theorem d_Desk_io_102 : decode prog_1_method_19_code 102 = .ok (.getfield 283, 3) := by decide +kernel
theorem d_Desk_io_105 : decode prog_1_method_19_code 105 = .ok (.ifCond .ne 14, 3) := by decide +kernel
theorem d_Desk_io_108 : decode prog_1_method_19_code 108 = .ok (.aload_n 3, 1) := by decide +kernel
theorem d_Desk_io_109 : decode prog_1_method_19_code 109 = .ok (.getfield 295, 3) := by decide +kernel
theorem d_Desk_io_112 : decode prog_1_method_19_code 112 = .ok (.ifCond .eq 7, 3) := by decide +kernel
theorem d_Desk_io_115 : decode prog_1_method_19_code 115 = .ok (.iconst 1, 1) := by decide +kernel
theorem d_Desk_io_116 : decode prog_1_method_19_code 116 = .ok (.goto 4, 3) := by decide +kernel
theorem d_Desk_io_119 : decode prog_1_method_19_code 119 = .ok (.iconst 0, 1) := by decide +kernel
theorem d_Desk_io_120 : decode prog_1_method_19_code 120 = .ok (.ireturn, 1) := by decide +kernel
theorem d_Desk_io_121 : decode prog_1_method_19_code 121 = .ok (.aload_n 3, 1) := by decide +kernel
theorem d_Desk_io_122 : decode prog_1_method_19_code 122 = .ok (.getfield 298, 3) := by decide +kernel
theorem d_Desk_io_125 : decode prog_1_method_19_code 125 = .ok (.ifCond .eq 7, 3) := by decide +kernel
theorem d_Desk_io_128 : decode prog_1_method_19_code 128 = .ok (.iconst 1, 1) := by decide +kernel
theorem d_Desk_io_129 : decode prog_1_method_19_code 129 = .ok (.goto 4, 3) := by decide +kernel
theorem d_Desk_io_132 : decode prog_1_method_19_code 132 = .ok (.iconst 0, 1) := by decide +kernel
theorem d_Desk_io_133 : decode prog_1_method_19_code 133 = .ok (.ireturn, 1) := by decide +kernel
theorem d_Desk_io_134 : decode prog_1_method_19_code 134 = .ok (.iconst (-1), 1) := by decide +kernel
theorem d_Desk_io_135 : decode prog_1_method_19_code 135 = .ok (.ireturn, 1) := by decide +kernel
theorem d_Desk_handle_0 : decode prog_1_method_20_code 0 = .ok (.iload_n 1, 1) := by decide +kernel
theorem d_Desk_handle_1 : decode prog_1_method_20_code 1 = .ok (.iconst 0, 1) := by decide +kernel
theorem d_Desk_handle_2 : decode prog_1_method_20_code 2 = .ok (.aload_n 0, 1) := by decide +kernel
theorem d_Desk_handle_3 : decode prog_1_method_20_code 3 = .ok (.getfield 58, 3) := by decide +kernel
theorem d_Desk_handle_6 : decode prog_1_method_20_code 6 = .ok (.iconst 1, 1) := by decide +kernel
theorem d_Desk_handle_7 : decode prog_1_method_20_code 7 = .ok (.isub, 1) := by decide +kernel
theorem d_Desk_handle_8 : decode prog_1_method_20_code 8 = .ok (.invokestatic 54, 3) := by decide +kernel
theorem d_Desk_handle_11 : decode prog_1_method_20_code 11 = .ok (.ifCond .eq 17, 3) := by decide +kernel
theorem d_Desk_handle_14 : decode prog_1_method_20_code 14 = .ok (.aload_n 0, 1) := by decide +kernel
theorem d_Desk_handle_15 : decode prog_1_method_20_code 15 = .ok (.getfield 11, 3) := by decide +kernel
theorem d_Desk_handle_18 : decode prog_1_method_20_code 18 = .ok (.iload_n 1, 1) := by decide +kernel
theorem d_Desk_handle_19 : decode prog_1_method_20_code 19 = .ok (.aaload, 1) := by decide +kernel
theorem d_Desk_handle_20 : decode prog_1_method_20_code 20 = .ok (.iload_n 2, 1) := by decide +kernel
theorem d_Desk_handle_21 : decode prog_1_method_20_code 21 = .ok (.invokevirtual 134, 3) := by decide +kernel
theorem d_Desk_handle_24 : decode prog_1_method_20_code 24 = .ok (.iconst (-1), 1) := by decide +kernel
theorem d_Desk_handle_25 : decode prog_1_method_20_code 25 = .ok (.if_icmp .ne 5, 3) := by decide +kernel
theorem d_Desk_handle_28 : decode prog_1_method_20_code 28 = .ok (.iconst (-1), 1) := by decide +kernel
theorem d_Desk_handle_29 : decode prog_1_method_20_code 29 = .ok (.ireturn, 1) := by decide +kernel
theorem d_Desk_handle_30 : decode prog_1_method_20_code 30 = .ok (.iload_n 3, 1) := by decide +kernel
theorem d_Desk_handle_31 : decode prog_1_method_20_code 31 = .ok (.lookupswitch 47 #[(0, 25), (1, 36)], 25) := by decide +kernel
theorem d_Desk_handle_56 : decode prog_1_method_20_code 56 = .ok (.aload_n 0, 1) := by decide +kernel
theorem d_Desk_handle_57 : decode prog_1_method_20_code 57 = .ok (.getfield 11, 3) := by decide +kernel
theorem d_Desk_handle_60 : decode prog_1_method_20_code 60 = .ok (.iload_n 1, 1) := by decide +kernel
theorem d_Desk_handle_61 : decode prog_1_method_20_code 61 = .ok (.aaload, 1) := by decide +kernel
theorem d_Desk_handle_62 : decode prog_1_method_20_code 62 = .ok (.iload_n 2, 1) := by decide +kernel
theorem d_Desk_handle_63 : decode prog_1_method_20_code 63 = .ok (.invokevirtual 134, 3) := by decide +kernel
theorem d_Desk_handle_66 : decode prog_1_method_20_code 66 = .ok (.ireturn, 1) := by decide +kernel
theorem d_Desk_handle_67 : decode prog_1_method_20_code 67 = .ok (.aload_n 0, 1) := by decide +kernel
theorem d_Desk_handle_68 : decode prog_1_method_20_code 68 = .ok (.getfield 11, 3) := by decide +kernel
theorem d_Desk_handle_71 : decode prog_1_method_20_code 71 = .ok (.iload_n 1, 1) := by decide +kernel
theorem d_Desk_handle_72 : decode prog_1_method_20_code 72 = .ok (.aaload, 1) := by decide +kernel
theorem d_Desk_handle_73 : decode prog_1_method_20_code 73 = .ok (.iload_n 2, 1) := by decide +kernel
theorem d_Desk_handle_74 : decode prog_1_method_20_code 74 = .ok (.invokevirtual 301, 3) := by decide +kernel
theorem d_Desk_handle_77 : decode prog_1_method_20_code 77 = .ok (.ireturn, 1) := by decide +kernel
theorem d_Desk_handle_78 : decode prog_1_method_20_code 78 = .ok (.iconst (-1), 1) := by decide +kernel
theorem d_Desk_handle_79 : decode prog_1_method_20_code 79 = .ok (.ireturn, 1) := by decide +kernel
theorem d_Desk_objectsThere_0 : decode prog_1_method_33_code 0 = .ok (.iconst 0, 1) := by decide +kernel
theorem d_Desk_objectsThere_1 : decode prog_1_method_33_code 1 = .ok (.istore_n 1, 1) := by decide +kernel
theorem d_Desk_objectsThere_2 : decode prog_1_method_33_code 2 = .ok (.iconst 0, 1) := by decide +kernel
theorem d_Desk_objectsThere_3 : decode prog_1_method_33_code 3 = .ok (.istore_n 2, 1) := by decide +kernel
theorem d_Desk_objectsThere_4 : decode prog_1_method_33_code 4 = .ok (.iload_n 2, 1) := by decide +kernel
theorem d_Desk_objectsThere_5 : decode prog_1_method_33_code 5 = .ok (.bipush 16, 2) := by decide +kernel
theorem d_Desk_objectsThere_7 : decode prog_1_method_33_code 7 = .ok (.if_icmp .ge 24, 3) := by decide +kernel
theorem d_Desk_objectsThere_10 : decode prog_1_method_33_code 10 = .ok (.aload_n 0, 1) := by decide +kernel
theorem d_Desk_objectsThere_11 : decode prog_1_method_33_code 11 = .ok (.getfield 29, 3) := by decide +kernel
theorem d_Desk_objectsThere_14 : decode prog_1_method_33_code 14 = .ok (.iload_n 2, 1) := by decide +kernel
theorem d_Desk_objectsThere_15 : decode prog_1_method_33_code 15 = .ok (.aaload, 1) := by decide +kernel
theorem d_Desk_objectsThere_16 : decode prog_1_method_33_code 16 = .ok (.invokevirtual 316, 3) := by decide +kernel
theorem d_Desk_objectsThere_19 : decode prog_1_method_33_code 19 = .ok (.ifCond .eq 6, 3) := by decide +kernel
theorem d_Desk_objectsThere_22 : decode prog_1_method_33_code 22 = .ok (.iinc 1 1, 3) := by decide +kernel
theorem d_Desk_objectsThere_25 : decode prog_1_method_33_code 25 = .ok (.iinc 2 1, 3) := by decide +kernel
theorem d_Desk_objectsThere_28 : decode prog_1_method_33_code 28 = .ok (.goto (-24), 3) := by decide +kernel
theorem d_Desk_objectsThere_31 : decode prog_1_method_33_code 31 = .ok (.iload_n 1, 1) := by decide +kernel
theorem d_Desk_objectsThere_32 : decode prog_1_method_33_code 32 = .ok (.ireturn, 1) := by decide +kernel
theorem d_Desk_count_0 : decode prog_1_method_21_code 0 = .ok (.iload_n 1, 1) := by decide +kernel
theorem d_Desk_count_1 : decode prog_1_method_21_code 1 = .ok (.tableswitch 105 0 8 #[51, 59, 64, 69, 74, 79, 84, 92, 100], 51) := by decide +kernel
theorem d_Desk_count_52 : decode prog_1_method_21_code 52 = .ok (.aload_n 0, 1) := by decide +kernel
theorem d_Desk_count_53 : decode prog_1_method_21_code 53 = .ok (.getfield 18, 3) := by decide +kernel
theorem d_Desk_count_56 : decode prog_1_method_21_code 56 = .ok (.getfield 92, 3) := by decide +kernel
theorem d_Desk_count_59 : decode prog_1_method_21_code 59 = .ok (.ireturn, 1) := by decide +kernel
theorem d_Desk_count_60 : decode prog_1_method_21_code 60 = .ok (.aload_n 0, 1) := by decide +kernel
theorem d_Desk_count_61 : decode prog_1_method_21_code 61 = .ok (.getfield 249, 3) := by decide +kernel
theorem d_Desk_count_64 : decode prog_1_method_21_code 64 = .ok (.ireturn, 1) := by decide +kernel
theorem d_Desk_count_65 : decode prog_1_method_21_code 65 = .ok (.aload_n 0, 1) := by decide +kernel
theorem d_Desk_count_66 : decode prog_1_method_21_code 66 = .ok (.getfield 163, 3) := by decide +kernel
theorem d_Desk_count_69 : decode prog_1_method_21_code 69 = .ok (.ireturn, 1) := by decide +kernel
theorem d_Desk_count_70 : decode prog_1_method_21_code 70 = .ok (.aload_n 0, 1) := by decide +kernel
theorem d_Desk_count_71 : decode prog_1_method_21_code 71 = .ok (.getfield 58, 3) := by decide +kernel
theorem d_Desk_count_74 : decode prog_1_method_21_code 74 = .ok (.ireturn, 1) := by decide +kernel
theorem d_Desk_count_75 : decode prog_1_method_21_code 75 = .ok (.aload_n 0, 1) := by decide +kernel
theorem d_Desk_count_76 : decode prog_1_method_21_code 76 = .ok (.getfield 69, 3) := by decide +kernel
theorem d_Desk_count_79 : decode prog_1_method_21_code 79 = .ok (.ireturn, 1) := by decide +kernel
theorem d_Desk_count_80 : decode prog_1_method_21_code 80 = .ok (.aload_n 0, 1) := by decide +kernel
theorem d_Desk_count_81 : decode prog_1_method_21_code 81 = .ok (.invokevirtual 304, 3) := by decide +kernel
theorem d_Desk_count_84 : decode prog_1_method_21_code 84 = .ok (.ireturn, 1) := by decide +kernel
theorem d_Desk_count_85 : decode prog_1_method_21_code 85 = .ok (.aload_n 0, 1) := by decide +kernel
theorem d_Desk_count_86 : decode prog_1_method_21_code 86 = .ok (.getfield 48, 3) := by decide +kernel
theorem d_Desk_count_89 : decode prog_1_method_21_code 89 = .ok (.getfield 181, 3) := by decide +kernel
theorem d_Desk_count_92 : decode prog_1_method_21_code 92 = .ok (.ireturn, 1) := by decide +kernel
theorem d_Desk_count_93 : decode prog_1_method_21_code 93 = .ok (.aload_n 0, 1) := by decide +kernel
theorem d_Desk_count_94 : decode prog_1_method_21_code 94 = .ok (.getfield 18, 3) := by decide +kernel
theorem d_Desk_count_97 : decode prog_1_method_21_code 97 = .ok (.getfield 307, 3) := by decide +kernel
theorem d_Desk_count_100 : decode prog_1_method_21_code 100 = .ok (.ireturn, 1) := by decide +kernel
theorem d_Desk_count_101 : decode prog_1_method_21_code 101 = .ok (.aload_n 0, 1) := by decide +kernel
theorem d_Desk_count_102 : decode prog_1_method_21_code 102 = .ok (.getfield 310, 3) := by decide +kernel
theorem d_Desk_count_105 : decode prog_1_method_21_code 105 = .ok (.ireturn, 1) := by decide +kernel
theorem d_Desk_count_106 : decode prog_1_method_21_code 106 = .ok (.iconst (-1), 1) := by decide +kernel
theorem d_Desk_count_107 : decode prog_1_method_21_code 107 = .ok (.ireturn, 1) := by decide +kernel
