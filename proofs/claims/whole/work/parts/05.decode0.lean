theorem d_Desk_isWithin_0 : decode prog_1_method_22_code 0 = .ok (.iload_n 0, 1) := by decide +kernel
theorem d_Desk_isWithin_1 : decode prog_1_method_22_code 1 = .ok (.iload_n 1, 1) := by decide +kernel
theorem d_Desk_isWithin_2 : decode prog_1_method_22_code 2 = .ok (.if_icmp .lt 12, 3) := by decide +kernel
theorem d_Desk_isWithin_5 : decode prog_1_method_22_code 5 = .ok (.iload_n 0, 1) := by decide +kernel
theorem d_Desk_isWithin_6 : decode prog_1_method_22_code 6 = .ok (.iload_n 2, 1) := by decide +kernel
theorem d_Desk_isWithin_7 : decode prog_1_method_22_code 7 = .ok (.if_icmp .gt 7, 3) := by decide +kernel
theorem d_Desk_isWithin_10 : decode prog_1_method_22_code 10 = .ok (.iconst 1, 1) := by decide +kernel
theorem d_Desk_isWithin_11 : decode prog_1_method_22_code 11 = .ok (.goto 4, 3) := by decide +kernel
theorem d_Desk_isWithin_14 : decode prog_1_method_22_code 14 = .ok (.iconst 0, 1) := by decide +kernel
theorem d_Desk_isWithin_15 : decode prog_1_method_22_code 15 = .ok (.ireturn, 1) := by decide +kernel
theorem d_Desk_process_0 : decode prog_1_method_2_code 0 = .ok (.iload_n 1, 1) := by decide +kernel
theorem d_Desk_process_1 : decode prog_1_method_2_code 1 = .ok (.iconst 0, 1) := by decide +kernel
theorem d_Desk_process_2 : decode prog_1_method_2_code 2 = .ok (.sipush 255, 3) := by decide +kernel
theorem d_Desk_process_5 : decode prog_1_method_2_code 5 = .ok (.invokestatic 54, 3) := by decide +kernel
theorem d_Desk_process_8 : decode prog_1_method_2_code 8 = .ok (.ifCond .ne 5, 3) := by decide +kernel
theorem d_Desk_process_11 : decode prog_1_method_2_code 11 = .ok (.iconst (-1), 1) := by decide +kernel
theorem d_Desk_process_12 : decode prog_1_method_2_code 12 = .ok (.ireturn, 1) := by decide +kernel
theorem d_Desk_process_13 : decode prog_1_method_2_code 13 = .ok (.aload_n 0, 1) := by decide +kernel
theorem d_Desk_process_14 : decode prog_1_method_2_code 14 = .ok (.getfield 58, 3) := by decide +kernel
theorem d_Desk_process_17 : decode prog_1_method_2_code 17 = .ok (.iconst 4, 1) := by decide +kernel
theorem d_Desk_process_18 : decode prog_1_method_2_code 18 = .ok (.if_icmp .ne 6, 3) := by decide +kernel
theorem d_Desk_process_21 : decode prog_1_method_2_code 21 = .ok (.bipush (-2), 2) := by decide +kernel
theorem d_Desk_process_23 : decode prog_1_method_2_code 23 = .ok (.ireturn, 1) := by decide +kernel
theorem d_Desk_process_24 : decode prog_1_method_2_code 24 = .ok (.aload_n 0, 1) := by decide +kernel
theorem d_Desk_process_25 : decode prog_1_method_2_code 25 = .ok (.getfield 11, 3) := by decide +kernel
theorem d_Desk_process_28 : decode prog_1_method_2_code 28 = .ok (.aload_n 0, 1) := by decide +kernel
theorem d_Desk_process_29 : decode prog_1_method_2_code 29 = .ok (.getfield 58, 3) := by decide +kernel
theorem d_Desk_process_32 : decode prog_1_method_2_code 32 = .ok (.aaload, 1) := by decide +kernel
theorem d_Desk_process_33 : decode prog_1_method_2_code 33 = .ok (.iload_n 1, 1) := by decide +kernel
theorem d_Desk_process_34 : decode prog_1_method_2_code 34 = .ok (.putfield 62, 3) := by decide +kernel
theorem d_Desk_process_37 : decode prog_1_method_2_code 37 = .ok (.aload_n 0, 1) := by decide +kernel
theorem d_Desk_process_38 : decode prog_1_method_2_code 38 = .ok (.dup, 1) := by decide +kernel
theorem d_Desk_process_39 : decode prog_1_method_2_code 39 = .ok (.getfield 58, 3) := by decide +kernel
theorem d_Desk_process_42 : decode prog_1_method_2_code 42 = .ok (.iconst 1, 1) := by decide +kernel
theorem d_Desk_process_43 : decode prog_1_method_2_code 43 = .ok (.iadd, 1) := by decide +kernel
theorem d_Desk_process_44 : decode prog_1_method_2_code 44 = .ok (.putfield 58, 3) := by decide +kernel
theorem d_Desk_process_47 : decode prog_1_method_2_code 47 = .ok (.aload_n 0, 1) := by decide +kernel
theorem d_Desk_process_48 : decode prog_1_method_2_code 48 = .ok (.getfield 58, 3) := by decide +kernel
theorem d_Desk_process_51 : decode prog_1_method_2_code 51 = .ok (.iconst 1, 1) := by decide +kernel
theorem d_Desk_process_52 : decode prog_1_method_2_code 52 = .ok (.isub, 1) := by decide +kernel
theorem d_Desk_process_53 : decode prog_1_method_2_code 53 = .ok (.ireturn, 1) := by decide +kernel
theorem d_Proc_hasEnded_0 : decode prog_3_method_2_code 0 = .ok (.aload_n 0, 1) := by decide +kernel
theorem d_Proc_hasEnded_1 : decode prog_3_method_2_code 1 = .ok (.getfield 18, 3) := by decide +kernel
theorem d_Proc_hasEnded_4 : decode prog_3_method_2_code 4 = .ok (.ifCond .le 14, 3) := by decide +kernel
theorem d_Proc_hasEnded_7 : decode prog_3_method_2_code 7 = .ok (.aload_n 0, 1) := by decide +kernel
theorem d_Proc_hasEnded_8 : decode prog_3_method_2_code 8 = .ok (.getfield 22, 3) := by decide +kernel
theorem d_Proc_hasEnded_11 : decode prog_3_method_2_code 11 = .ok (.ifCond .ne 7, 3) := by decide +kernel
theorem d_Proc_hasEnded_14 : decode prog_3_method_2_code 14 = .ok (.iconst 1, 1) := by decide +kernel
theorem d_Proc_hasEnded_15 : decode prog_3_method_2_code 15 = .ok (.goto 4, 3) := by decide +kernel
theorem d_Proc_hasEnded_18 : decode prog_3_method_2_code 18 = .ok (.iconst 0, 1) := by decide +kernel
theorem d_Proc_hasEnded_19 : decode prog_3_method_2_code 19 = .ok (.ireturn, 1) := by decide +kernel
theorem d_Row_addLast_0 : decode prog_4_method_4_code 0 = .ok (.aload_n 0, 1) := by decide +kernel
theorem d_Row_addLast_1 : decode prog_4_method_4_code 1 = .ok (.getfield 15, 3) := by decide +kernel
theorem d_Row_addLast_4 : decode prog_4_method_4_code 4 = .ok (.aload_n 0, 1) := by decide +kernel
theorem d_Row_addLast_5 : decode prog_4_method_4_code 5 = .ok (.getfield 9, 3) := by decide +kernel
theorem d_Row_addLast_8 : decode prog_4_method_4_code 8 = .ok (.arraylength, 1) := by decide +kernel
theorem d_Row_addLast_9 : decode prog_4_method_4_code 9 = .ok (.if_icmp .ge 23, 3) := by decide +kernel
theorem d_Row_addLast_12 : decode prog_4_method_4_code 12 = .ok (.aload_n 0, 1) := by decide +kernel
theorem d_Row_addLast_13 : decode prog_4_method_4_code 13 = .ok (.getfield 9, 3) := by decide +kernel
theorem d_Row_addLast_16 : decode prog_4_method_4_code 16 = .ok (.aload_n 0, 1) := by decide +kernel
theorem d_Row_addLast_17 : decode prog_4_method_4_code 17 = .ok (.getfield 15, 3) := by decide +kernel
theorem d_Row_addLast_20 : decode prog_4_method_4_code 20 = .ok (.iload_n 1, 1) := by decide +kernel
theorem d_Row_addLast_21 : decode prog_4_method_4_code 21 = .ok (.iastore, 1) := by decide +kernel
theorem d_Row_addLast_22 : decode prog_4_method_4_code 22 = .ok (.aload_n 0, 1) := by decide +kernel
theorem d_Row_addLast_23 : decode prog_4_method_4_code 23 = .ok (.dup, 1) := by decide +kernel
theorem d_Row_addLast_24 : decode prog_4_method_4_code 24 = .ok (.getfield 15, 3) := by decide +kernel
theorem d_Row_addLast_27 : decode prog_4_method_4_code 27 = .ok (.iconst 1, 1) := by decide +kernel
theorem d_Row_addLast_28 : decode prog_4_method_4_code 28 = .ok (.iadd, 1) := by decide +kernel
theorem d_Row_addLast_29 : decode prog_4_method_4_code 29 = .ok (.putfield 15, 3) := by decide +kernel
theorem d_Row_addLast_32 : decode prog_4_method_4_code 32 = .ok (.return_, 1) := by decide +kernel
theorem d_Sched_makeReady_0 : decode prog_6_method_2_code 0 = .ok (.aload_n 0, 1) := by decide +kernel
theorem d_Sched_makeReady_1 : decode prog_6_method_2_code 1 = .ok (.getfield 11, 3) := by decide +kernel
theorem d_Sched_makeReady_4 : decode prog_6_method_2_code 4 = .ok (.iload_n 1, 1) := by decide +kernel
theorem d_Sched_makeReady_5 : decode prog_6_method_2_code 5 = .ok (.aaload, 1) := by decide +kernel
theorem d_Sched_makeReady_6 : decode prog_6_method_2_code 6 = .ok (.iconst 1, 1) := by decide +kernel
theorem d_Sched_makeReady_7 : decode prog_6_method_2_code 7 = .ok (.putfield 34, 3) := by decide +kernel
theorem d_Sched_makeReady_10 : decode prog_6_method_2_code 10 = .ok (.aload_n 0, 1) := by decide +kernel
theorem d_Sched_makeReady_11 : decode prog_6_method_2_code 11 = .ok (.getfield 19, 3) := by decide +kernel
theorem d_Sched_makeReady_14 : decode prog_6_method_2_code 14 = .ok (.aload_n 0, 1) := by decide +kernel
theorem d_Sched_makeReady_15 : decode prog_6_method_2_code 15 = .ok (.getfield 11, 3) := by decide +kernel
theorem d_Sched_makeReady_18 : decode prog_6_method_2_code 18 = .ok (.iload_n 1, 1) := by decide +kernel
theorem d_Sched_makeReady_19 : decode prog_6_method_2_code 19 = .ok (.aaload, 1) := by decide +kernel
theorem d_Sched_makeReady_20 : decode prog_6_method_2_code 20 = .ok (.getfield 37, 3) := by decide +kernel
theorem d_Sched_makeReady_23 : decode prog_6_method_2_code 23 = .ok (.aaload, 1) := by decide +kernel
theorem d_Sched_makeReady_24 : decode prog_6_method_2_code 24 = .ok (.iload_n 1, 1) := by decide +kernel
theorem d_Sched_makeReady_25 : decode prog_6_method_2_code 25 = .ok (.invokevirtual 40, 3) := by decide +kernel
theorem d_Sched_makeReady_28 : decode prog_6_method_2_code 28 = .ok (.return_, 1) := by decide +kernel
theorem d_Sched_bestPriority_0 : decode prog_6_method_5_code 0 = .ok (.bipush 7, 2) := by decide +kernel
theorem d_Sched_bestPriority_2 : decode prog_6_method_5_code 2 = .ok (.istore_n 1, 1) := by decide +kernel
theorem d_Sched_bestPriority_3 : decode prog_6_method_5_code 3 = .ok (.iload_n 1, 1) := by decide +kernel
theorem d_Sched_bestPriority_4 : decode prog_6_method_5_code 4 = .ok (.ifCond .lt 23, 3) := by decide +kernel
theorem d_Sched_bestPriority_7 : decode prog_6_method_5_code 7 = .ok (.aload_n 0, 1) := by decide +kernel
theorem d_Sched_bestPriority_8 : decode prog_6_method_5_code 8 = .ok (.getfield 19, 3) := by decide +kernel
theorem d_Sched_bestPriority_11 : decode prog_6_method_5_code 11 = .ok (.iload_n 1, 1) := by decide +kernel
theorem d_Sched_bestPriority_12 : decode prog_6_method_5_code 12 = .ok (.aaload, 1) := by decide +kernel
theorem d_Sched_bestPriority_13 : decode prog_6_method_5_code 13 = .ok (.getfield 56, 3) := by decide +kernel
theorem d_Sched_bestPriority_16 : decode prog_6_method_5_code 16 = .ok (.ifCond .le 5, 3) := by decide +kernel
theorem d_Sched_bestPriority_19 : decode prog_6_method_5_code 19 = .ok (.iload_n 1, 1) := by decide +kernel
theorem d_Sched_bestPriority_20 : decode prog_6_method_5_code 20 = .ok (.ireturn, 1) := by decide +kernel
theorem d_Sched_bestPriority_21 : decode prog_6_method_5_code 21 = .ok (.iinc 1 (-1), 3) := by decide +kernel
theorem d_Sched_bestPriority_24 : decode prog_6_method_5_code 24 = .ok (.goto (-21), 3) := by decide +kernel
theorem d_Sched_bestPriority_27 : decode prog_6_method_5_code 27 = .ok (.iconst (-1), 1) := by decide +kernel
theorem d_Sched_bestPriority_28 : decode prog_6_method_5_code 28 = .ok (.ireturn, 1) := by decide +kernel
theorem d_Row_addFirst_0 : decode prog_4_method_5_code 0 = .ok (.aload_n 0, 1) := by decide +kernel
theorem d_Row_addFirst_1 : decode prog_4_method_5_code 1 = .ok (.getfield 15, 3) := by decide +kernel
theorem d_Row_addFirst_4 : decode prog_4_method_5_code 4 = .ok (.aload_n 0, 1) := by decide +kernel
theorem d_Row_addFirst_5 : decode prog_4_method_5_code 5 = .ok (.getfield 9, 3) := by decide +kernel
theorem d_Row_addFirst_8 : decode prog_4_method_5_code 8 = .ok (.arraylength, 1) := by decide +kernel
theorem d_Row_addFirst_9 : decode prog_4_method_5_code 9 = .ok (.if_icmp .ge 49, 3) := by decide +kernel
theorem d_Row_addFirst_12 : decode prog_4_method_5_code 12 = .ok (.aload_n 0, 1) := by decide +kernel
theorem d_Row_addFirst_13 : decode prog_4_method_5_code 13 = .ok (.getfield 15, 3) := by decide +kernel
theorem d_Row_addFirst_16 : decode prog_4_method_5_code 16 = .ok (.istore_n 2, 1) := by decide +kernel
theorem d_Row_addFirst_17 : decode prog_4_method_5_code 17 = .ok (.iload_n 2, 1) := by decide +kernel
theorem d_Row_addFirst_18 : decode prog_4_method_5_code 18 = .ok (.ifCond .le 23, 3) := by decide +kernel
theorem d_Row_addFirst_21 : decode prog_4_method_5_code 21 = .ok (.aload_n 0, 1) := by decide +kernel
theorem d_Row_addFirst_22 : decode prog_4_method_5_code 22 = .ok (.getfield 9, 3) := by decide +kernel
theorem d_Row_addFirst_25 : decode prog_4_method_5_code 25 = .ok (.iload_n 2, 1) := by decide +kernel
theorem d_Row_addFirst_26 : decode prog_4_method_5_code 26 = .ok (.aload_n 0, 1) := by decide +kernel
theorem d_Row_addFirst_27 : decode prog_4_method_5_code 27 = .ok (.getfield 9, 3) := by decide +kernel
theorem d_Row_addFirst_30 : decode prog_4_method_5_code 30 = .ok (.iload_n 2, 1) := by decide +kernel
theorem d_Row_addFirst_31 : decode prog_4_method_5_code 31 = .ok (.iconst 1, 1) := by decide +kernel
theorem d_Row_addFirst_32 : decode prog_4_method_5_code 32 = .ok (.isub, 1) := by decide +kernel
theorem d_Row_addFirst_33 : decode prog_4_method_5_code 33 = .ok (.iaload, 1) := by decide +kernel
theorem d_Row_addFirst_34 : decode prog_4_method_5_code 34 = .ok (.iastore, 1) := by decide +kernel
theorem d_Row_addFirst_35 : decode prog_4_method_5_code 35 = .ok (.iinc 2 (-1), 3) := by decide +kernel
theorem d_Row_addFirst_38 : decode prog_4_method_5_code 38 = .ok (.goto (-21), 3) := by decide +kernel
theorem d_Row_addFirst_41 : decode prog_4_method_5_code 41 = .ok (.aload_n 0, 1) := by decide +kernel
theorem d_Row_addFirst_42 : decode prog_4_method_5_code 42 = .ok (.getfield 9, 3) := by decide +kernel
theorem d_Row_addFirst_45 : decode prog_4_method_5_code 45 = .ok (.iconst 0, 1) := by decide +kernel
theorem d_Row_addFirst_46 : decode prog_4_method_5_code 46 = .ok (.iload_n 1, 1) := by decide +kernel
theorem d_Row_addFirst_47 : decode prog_4_method_5_code 47 = .ok (.iastore, 1) := by decide +kernel
theorem d_Row_addFirst_48 : decode prog_4_method_5_code 48 = .ok (.aload_n 0, 1) := by decide +kernel
theorem d_Row_addFirst_49 : decode prog_4_method_5_code 49 = .ok (.dup, 1) := by decide +kernel
theorem d_Row_addFirst_50 : decode prog_4_method_5_code 50 = .ok (.getfield 15, 3) := by decide +kernel
theorem d_Row_addFirst_53 : decode prog_4_method_5_code 53 = .ok (.iconst 1, 1) := by decide +kernel
theorem d_Row_addFirst_54 : decode prog_4_method_5_code 54 = .ok (.iadd, 1) := by decide +kernel
theorem d_Row_addFirst_55 : decode prog_4_method_5_code 55 = .ok (.putfield 15, 3) := by decide +kernel
theorem d_Row_addFirst_58 : decode prog_4_method_5_code 58 = .ok (.return_, 1) := by decide +kernel
theorem d_Row_removeFirst_0 : decode prog_4_method_6_code 0 = .ok (.aload_n 0, 1) := by decide +kernel
theorem d_Row_removeFirst_1 : decode prog_4_method_6_code 1 = .ok (.getfield 15, 3) := by decide +kernel
theorem d_Row_removeFirst_4 : decode prog_4_method_6_code 4 = .ok (.ifCond .ne 5, 3) := by decide +kernel
theorem d_Row_removeFirst_7 : decode prog_4_method_6_code 7 = .ok (.iconst (-1), 1) := by decide +kernel
theorem d_Row_removeFirst_8 : decode prog_4_method_6_code 8 = .ok (.ireturn, 1) := by decide +kernel
theorem d_Row_removeFirst_9 : decode prog_4_method_6_code 9 = .ok (.aload_n 0, 1) := by decide +kernel
theorem d_Row_removeFirst_10 : decode prog_4_method_6_code 10 = .ok (.getfield 9, 3) := by decide +kernel
theorem d_Row_removeFirst_13 : decode prog_4_method_6_code 13 = .ok (.iconst 0, 1) := by decide +kernel
theorem d_Row_removeFirst_14 : decode prog_4_method_6_code 14 = .ok (.iaload, 1) := by decide +kernel
theorem d_Row_removeFirst_15 : decode prog_4_method_6_code 15 = .ok (.istore_n 1, 1) := by decide +kernel
theorem d_Row_removeFirst_16 : decode prog_4_method_6_code 16 = .ok (.aload_n 0, 1) := by decide +kernel
theorem d_Row_removeFirst_17 : decode prog_4_method_6_code 17 = .ok (.dup, 1) := by decide +kernel
theorem d_Row_removeFirst_18 : decode prog_4_method_6_code 18 = .ok (.getfield 15, 3) := by decide +kernel
theorem d_Row_removeFirst_21 : decode prog_4_method_6_code 21 = .ok (.iconst 1, 1) := by decide +kernel
theorem d_Row_removeFirst_22 : decode prog_4_method_6_code 22 = .ok (.isub, 1) := by decide +kernel
theorem d_Row_removeFirst_23 : decode prog_4_method_6_code 23 = .ok (.putfield 15, 3) := by decide +kernel
theorem d_Row_removeFirst_26 : decode prog_4_method_6_code 26 = .ok (.iconst 0, 1) := by decide +kernel
theorem d_Row_removeFirst_27 : decode prog_4_method_6_code 27 = .ok (.istore_n 2, 1) := by decide +kernel
theorem d_Row_removeFirst_28 : decode prog_4_method_6_code 28 = .ok (.iload_n 2, 1) := by decide +kernel
theorem d_Row_removeFirst_29 : decode prog_4_method_6_code 29 = .ok (.aload_n 0, 1) := by decide +kernel
theorem d_Row_removeFirst_30 : decode prog_4_method_6_code 30 = .ok (.getfield 15, 3) := by decide +kernel
theorem d_Row_removeFirst_33 : decode prog_4_method_6_code 33 = .ok (.if_icmp .ge 23, 3) := by decide +kernel
theorem d_Row_removeFirst_36 : decode prog_4_method_6_code 36 = .ok (.aload_n 0, 1) := by decide +kernel
theorem d_Row_removeFirst_37 : decode prog_4_method_6_code 37 = .ok (.getfield 9, 3) := by decide +kernel
theorem d_Row_removeFirst_40 : decode prog_4_method_6_code 40 = .ok (.iload_n 2, 1) := by decide +kernel
theorem d_Row_removeFirst_41 : decode prog_4_method_6_code 41 = .ok (.aload_n 0, 1) := by decide +kernel
theorem d_Row_removeFirst_42 : decode prog_4_method_6_code 42 = .ok (.getfield 9, 3) := by decide +kernel
theorem d_Row_removeFirst_45 : decode prog_4_method_6_code 45 = .ok (.iload_n 2, 1) := by decide +kernel
theorem d_Row_removeFirst_46 : decode prog_4_method_6_code 46 = .ok (.iconst 1, 1) := by decide +kernel
theorem d_Row_removeFirst_47 : decode prog_4_method_6_code 47 = .ok (.iadd, 1) := by decide +kernel
theorem d_Row_removeFirst_48 : decode prog_4_method_6_code 48 = .ok (.iaload, 1) := by decide +kernel
theorem d_Row_removeFirst_49 : decode prog_4_method_6_code 49 = .ok (.iastore, 1) := by decide +kernel
theorem d_Row_removeFirst_50 : decode prog_4_method_6_code 50 = .ok (.iinc 2 1, 3) := by decide +kernel
theorem d_Row_removeFirst_53 : decode prog_4_method_6_code 53 = .ok (.goto (-25), 3) := by decide +kernel
theorem d_Row_removeFirst_56 : decode prog_4_method_6_code 56 = .ok (.iload_n 1, 1) := by decide +kernel
theorem d_Row_removeFirst_57 : decode prog_4_method_6_code 57 = .ok (.ireturn, 1) := by decide +kernel
theorem d_Sched_runFirstOf_0 : decode prog_6_method_6_code 0 = .ok (.aload_n 0, 1) := by decide +kernel
theorem d_Sched_runFirstOf_1 : decode prog_6_method_6_code 1 = .ok (.aload_n 0, 1) := by decide +kernel
theorem d_Sched_runFirstOf_2 : decode prog_6_method_6_code 2 = .ok (.getfield 19, 3) := by decide +kernel
theorem d_Sched_runFirstOf_5 : decode prog_6_method_6_code 5 = .ok (.iload_n 1, 1) := by decide +kernel
theorem d_Sched_runFirstOf_6 : decode prog_6_method_6_code 6 = .ok (.aaload, 1) := by decide +kernel
theorem d_Sched_runFirstOf_7 : decode prog_6_method_6_code 7 = .ok (.invokevirtual 62, 3) := by decide +kernel
theorem d_Sched_runFirstOf_10 : decode prog_6_method_6_code 10 = .ok (.putfield 23, 3) := by decide +kernel
theorem d_Sched_runFirstOf_13 : decode prog_6_method_6_code 13 = .ok (.aload_n 0, 1) := by decide +kernel
theorem d_Sched_runFirstOf_14 : decode prog_6_method_6_code 14 = .ok (.getfield 11, 3) := by decide +kernel
theorem d_Sched_runFirstOf_17 : decode prog_6_method_6_code 17 = .ok (.aload_n 0, 1) := by decide +kernel
theorem d_Sched_runFirstOf_18 : decode prog_6_method_6_code 18 = .ok (.getfield 23, 3) := by decide +kernel
theorem d_Sched_runFirstOf_21 : decode prog_6_method_6_code 21 = .ok (.aaload, 1) := by decide +kernel
theorem d_Sched_runFirstOf_22 : decode prog_6_method_6_code 22 = .ok (.iconst 0, 1) := by decide +kernel
theorem d_Sched_runFirstOf_23 : decode prog_6_method_6_code 23 = .ok (.putfield 34, 3) := by decide +kernel
theorem d_Sched_runFirstOf_26 : decode prog_6_method_6_code 26 = .ok (.aload_n 0, 1) := by decide +kernel
theorem d_Sched_runFirstOf_27 : decode prog_6_method_6_code 27 = .ok (.getfield 23, 3) := by decide +kernel
theorem d_Sched_runFirstOf_30 : decode prog_6_method_6_code 30 = .ok (.aload_n 0, 1) := by decide +kernel
theorem d_Sched_runFirstOf_31 : decode prog_6_method_6_code 31 = .ok (.getfield 27, 3) := by decide +kernel
theorem d_Sched_runFirstOf_34 : decode prog_6_method_6_code 34 = .ok (.if_icmp .eq 21, 3) := by decide +kernel
theorem d_Sched_runFirstOf_37 : decode prog_6_method_6_code 37 = .ok (.aload_n 0, 1) := by decide +kernel
theorem d_Sched_runFirstOf_38 : decode prog_6_method_6_code 38 = .ok (.aload_n 0, 1) := by decide +kernel
theorem d_Sched_runFirstOf_39 : decode prog_6_method_6_code 39 = .ok (.getfield 23, 3) := by decide +kernel
theorem d_Sched_runFirstOf_42 : decode prog_6_method_6_code 42 = .ok (.putfield 27, 3) := by decide +kernel
theorem d_Sched_runFirstOf_45 : decode prog_6_method_6_code 45 = .ok (.aload_n 0, 1) := by decide +kernel
theorem d_Sched_runFirstOf_46 : decode prog_6_method_6_code 46 = .ok (.dup, 1) := by decide +kernel
theorem d_Sched_runFirstOf_47 : decode prog_6_method_6_code 47 = .ok (.getfield 65, 3) := by decide +kernel
theorem d_Sched_runFirstOf_50 : decode prog_6_method_6_code 50 = .ok (.iconst 1, 1) := by decide +kernel
theorem d_Sched_runFirstOf_51 : decode prog_6_method_6_code 51 = .ok (.iadd, 1) := by decide +kernel
theorem d_Sched_runFirstOf_52 : decode prog_6_method_6_code 52 = .ok (.putfield 65, 3) := by decide +kernel
theorem d_Sched_runFirstOf_55 : decode prog_6_method_6_code 55 = .ok (.return_, 1) := by decide +kernel
theorem d_Sched_look_0 : decode prog_6_method_3_code 0 = .ok (.aload_n 0, 1) := by decide +kernel
theorem d_Sched_look_1 : decode prog_6_method_3_code 1 = .ok (.invokevirtual 43, 3) := by decide +kernel
theorem d_Sched_look_4 : decode prog_6_method_3_code 4 = .ok (.istore_n 1, 1) := by decide +kernel
theorem d_Sched_look_5 : decode prog_6_method_3_code 5 = .ok (.iload_n 1, 1) := by decide +kernel
theorem d_Sched_look_6 : decode prog_6_method_3_code 6 = .ok (.iconst (-1), 1) := by decide +kernel
theorem d_Sched_look_7 : decode prog_6_method_3_code 7 = .ok (.if_icmp .ne 4, 3) := by decide +kernel
theorem d_Sched_look_10 : decode prog_6_method_3_code 10 = .ok (.return_, 1) := by decide +kernel
theorem d_Sched_look_11 : decode prog_6_method_3_code 11 = .ok (.aload_n 0, 1) := by decide +kernel
theorem d_Sched_look_12 : decode prog_6_method_3_code 12 = .ok (.getfield 23, 3) := by decide +kernel
theorem d_Sched_look_15 : decode prog_6_method_3_code 15 = .ok (.iconst (-1), 1) := by decide +kernel
theorem d_Sched_look_16 : decode prog_6_method_3_code 16 = .ok (.if_icmp .eq 43, 3) := by decide +kernel
theorem d_Sched_look_19 : decode prog_6_method_3_code 19 = .ok (.aload_n 0, 1) := by decide +kernel
theorem d_Sched_look_20 : decode prog_6_method_3_code 20 = .ok (.getfield 11, 3) := by decide +kernel
theorem d_Sched_look_23 : decode prog_6_method_3_code 23 = .ok (.aload_n 0, 1) := by decide +kernel
theorem d_Sched_look_24 : decode prog_6_method_3_code 24 = .ok (.getfield 23, 3) := by decide +kernel
theorem d_Sched_look_27 : decode prog_6_method_3_code 27 = .ok (.aaload, 1) := by decide +kernel
theorem d_Sched_look_28 : decode prog_6_method_3_code 28 = .ok (.astore_n 2, 1) := by decide +kernel
theorem d_Sched_look_29 : decode prog_6_method_3_code 29 = .ok (.aload_n 2, 1) := by decide +kernel
theorem d_Sched_look_30 : decode prog_6_method_3_code 30 = .ok (.getfield 37, 3) := by decide +kernel
theorem d_Sched_look_33 : decode prog_6_method_3_code 33 = .ok (.iload_n 1, 1) := by decide +kernel
theorem d_Sched_look_34 : decode prog_6_method_3_code 34 = .ok (.if_icmp .lt 4, 3) := by decide +kernel
theorem d_Sched_look_37 : decode prog_6_method_3_code 37 = .ok (.return_, 1) := by decide +kernel
theorem d_Sched_look_38 : decode prog_6_method_3_code 38 = .ok (.aload_n 2, 1) := by decide +kernel
theorem d_Sched_look_39 : decode prog_6_method_3_code 39 = .ok (.iconst 1, 1) := by decide +kernel
theorem d_Sched_look_40 : decode prog_6_method_3_code 40 = .ok (.putfield 34, 3) := by decide +kernel
theorem d_Sched_look_43 : decode prog_6_method_3_code 43 = .ok (.aload_n 0, 1) := by decide +kernel
theorem d_Sched_look_44 : decode prog_6_method_3_code 44 = .ok (.getfield 19, 3) := by decide +kernel
theorem d_Sched_look_47 : decode prog_6_method_3_code 47 = .ok (.aload_n 2, 1) := by decide +kernel
theorem d_Sched_look_48 : decode prog_6_method_3_code 48 = .ok (.getfield 37, 3) := by decide +kernel
theorem d_Sched_look_51 : decode prog_6_method_3_code 51 = .ok (.aaload, 1) := by decide +kernel
theorem d_Sched_look_52 : decode prog_6_method_3_code 52 = .ok (.aload_n 0, 1) := by decide +kernel
theorem d_Sched_look_53 : decode prog_6_method_3_code 53 = .ok (.getfield 23, 3) := by decide +kernel
theorem d_Sched_look_56 : decode prog_6_method_3_code 56 = .ok (.invokevirtual 47, 3) := by decide +kernel
theorem d_Sched_look_59 : decode prog_6_method_3_code 59 = .ok (.aload_n 0, 1) := by decide +kernel
theorem d_Sched_look_60 : decode prog_6_method_3_code 60 = .ok (.iload_n 1, 1) := by decide +kernel
theorem d_Sched_look_61 : decode prog_6_method_3_code 61 = .ok (.invokevirtual 50, 3) := by decide +kernel
theorem d_Sched_look_64 : decode prog_6_method_3_code 64 = .ok (.return_, 1) := by decide +kernel
theorem d_Desk_lookWhoRuns_0 : decode prog_1_method_25_code 0 = .ok (.aload_n 0, 1) := by decide +kernel
theorem d_Desk_lookWhoRuns_1 : decode prog_1_method_25_code 1 = .ok (.getfield 163, 3) := by decide +kernel
theorem d_Desk_lookWhoRuns_4 : decode prog_1_method_25_code 4 = .ok (.ifCond .ne 10, 3) := by decide +kernel
theorem d_Desk_lookWhoRuns_7 : decode prog_1_method_25_code 7 = .ok (.aload_n 0, 1) := by decide +kernel
theorem d_Desk_lookWhoRuns_8 : decode prog_1_method_25_code 8 = .ok (.getfield 18, 3) := by decide +kernel
theorem d_Desk_lookWhoRuns_11 : decode prog_1_method_25_code 11 = .ok (.invokevirtual 313, 3) := by decide +kernel
theorem d_Desk_lookWhoRuns_14 : decode prog_1_method_25_code 14 = .ok (.return_, 1) := by decide +kernel
theorem d_Desk_thread_0 : decode prog_1_method_3_code 0 = .ok (.iload_n 1, 1) := by decide +kernel
theorem d_Desk_thread_1 : decode prog_1_method_3_code 1 = .ok (.iconst 0, 1) := by decide +kernel
theorem d_Desk_thread_2 : decode prog_1_method_3_code 2 = .ok (.aload_n 0, 1) := by decide +kernel
theorem d_Desk_thread_3 : decode prog_1_method_3_code 3 = .ok (.getfield 58, 3) := by decide +kernel
theorem d_Desk_thread_6 : decode prog_1_method_3_code 6 = .ok (.iconst 1, 1) := by decide +kernel
theorem d_Desk_thread_7 : decode prog_1_method_3_code 7 = .ok (.isub, 1) := by decide +kernel
theorem d_Desk_thread_8 : decode prog_1_method_3_code 8 = .ok (.invokestatic 54, 3) := by decide +kernel
theorem d_Desk_thread_11 : decode prog_1_method_3_code 11 = .ok (.ifCond .eq 25, 3) := by decide +kernel
theorem d_Desk_thread_14 : decode prog_1_method_3_code 14 = .ok (.aload_n 0, 1) := by decide +kernel
theorem d_Desk_thread_15 : decode prog_1_method_3_code 15 = .ok (.getfield 11, 3) := by decide +kernel
theorem d_Desk_thread_18 : decode prog_1_method_3_code 18 = .ok (.iload_n 1, 1) := by decide +kernel
theorem d_Desk_thread_19 : decode prog_1_method_3_code 19 = .ok (.aaload, 1) := by decide +kernel
theorem d_Desk_thread_20 : decode prog_1_method_3_code 20 = .ok (.invokevirtual 65, 3) := by decide +kernel
theorem d_Desk_thread_23 : decode prog_1_method_3_code 23 = .ok (.ifCond .ne 13, 3) := by decide +kernel
theorem d_Desk_thread_26 : decode prog_1_method_3_code 26 = .ok (.iload_n 2, 1) := by decide +kernel
theorem d_Desk_thread_27 : decode prog_1_method_3_code 27 = .ok (.iconst 0, 1) := by decide +kernel
theorem d_Desk_thread_28 : decode prog_1_method_3_code 28 = .ok (.bipush 7, 2) := by decide +kernel
theorem d_Desk_thread_30 : decode prog_1_method_3_code 30 = .ok (.invokestatic 54, 3) := by decide +kernel
theorem d_Desk_thread_33 : decode prog_1_method_3_code 33 = .ok (.ifCond .ne 5, 3) := by decide +kernel
theorem d_Desk_thread_36 : decode prog_1_method_3_code 36 = .ok (.iconst (-1), 1) := by decide +kernel
theorem d_Desk_thread_37 : decode prog_1_method_3_code 37 = .ok (.ireturn, 1) := by decide +kernel
theorem d_Desk_thread_38 : decode prog_1_method_3_code 38 = .ok (.aload_n 0, 1) := by decide +kernel
theorem d_Desk_thread_39 : decode prog_1_method_3_code 39 = .ok (.getfield 69, 3) := by decide +kernel
theorem d_Desk_thread_42 : decode prog_1_method_3_code 42 = .ok (.bipush 8, 2) := by decide +kernel
theorem d_Desk_thread_44 : decode prog_1_method_3_code 44 = .ok (.if_icmp .ne 6, 3) := by decide +kernel
theorem d_Desk_thread_47 : decode prog_1_method_3_code 47 = .ok (.bipush (-2), 2) := by decide +kernel
theorem d_Desk_thread_49 : decode prog_1_method_3_code 49 = .ok (.ireturn, 1) := by decide +kernel
theorem d_Desk_thread_50 : decode prog_1_method_3_code 50 = .ok (.aload_n 0, 1) := by decide +kernel
theorem d_Desk_thread_51 : decode prog_1_method_3_code 51 = .ok (.getfield 69, 3) := by decide +kernel
theorem d_Desk_thread_54 : decode prog_1_method_3_code 54 = .ok (.istore_n 3, 1) := by decide +kernel
theorem d_Desk_thread_55 : decode prog_1_method_3_code 55 = .ok (.aload_n 0, 1) := by decide +kernel
theorem d_Desk_thread_56 : decode prog_1_method_3_code 56 = .ok (.dup, 1) := by decide +kernel
theorem d_Desk_thread_57 : decode prog_1_method_3_code 57 = .ok (.getfield 69, 3) := by decide +kernel
theorem d_Desk_thread_60 : decode prog_1_method_3_code 60 = .ok (.iconst 1, 1) := by decide +kernel
theorem d_Desk_thread_61 : decode prog_1_method_3_code 61 = .ok (.iadd, 1) := by decide +kernel
theorem d_Desk_thread_62 : decode prog_1_method_3_code 62 = .ok (.putfield 69, 3) := by decide +kernel
theorem d_Desk_thread_65 : decode prog_1_method_3_code 65 = .ok (.aload_n 0, 1) := by decide +kernel
theorem d_Desk_thread_66 : decode prog_1_method_3_code 66 = .ok (.getfield 11, 3) := by decide +kernel
theorem d_Desk_thread_69 : decode prog_1_method_3_code 69 = .ok (.iload_n 1, 1) := by decide +kernel
theorem d_Desk_thread_70 : decode prog_1_method_3_code 70 = .ok (.aaload, 1) := by decide +kernel
theorem d_Desk_thread_71 : decode prog_1_method_3_code 71 = .ok (.dup, 1) := by decide +kernel
theorem d_Desk_thread_72 : decode prog_1_method_3_code 72 = .ok (.getfield 72, 3) := by decide +kernel
theorem d_Desk_thread_75 : decode prog_1_method_3_code 75 = .ok (.iconst 1, 1) := by decide +kernel
theorem d_Desk_thread_76 : decode prog_1_method_3_code 76 = .ok (.iadd, 1) := by decide +kernel
theorem d_Desk_thread_77 : decode prog_1_method_3_code 77 = .ok (.putfield 72, 3) := by decide +kernel
theorem d_Desk_thread_80 : decode prog_1_method_3_code 80 = .ok (.aload_n 0, 1) := by decide +kernel
theorem d_Desk_thread_81 : decode prog_1_method_3_code 81 = .ok (.getfield 11, 3) := by decide +kernel
theorem d_Desk_thread_84 : decode prog_1_method_3_code 84 = .ok (.iload_n 1, 1) := by decide +kernel
theorem d_Desk_thread_85 : decode prog_1_method_3_code 85 = .ok (.aaload, 1) := by decide +kernel
theorem d_Desk_thread_86 : decode prog_1_method_3_code 86 = .ok (.dup, 1) := by decide +kernel
theorem d_Desk_thread_87 : decode prog_1_method_3_code 87 = .ok (.getfield 75, 3) := by decide +kernel
theorem d_Desk_thread_90 : decode prog_1_method_3_code 90 = .ok (.iconst 1, 1) := by decide +kernel
theorem d_Desk_thread_91 : decode prog_1_method_3_code 91 = .ok (.iadd, 1) := by decide +kernel
theorem d_Desk_thread_92 : decode prog_1_method_3_code 92 = .ok (.putfield 75, 3) := by decide +kernel
theorem d_Desk_thread_95 : decode prog_1_method_3_code 95 = .ok (.aload_n 0, 1) := by decide +kernel
theorem d_Desk_thread_96 : decode prog_1_method_3_code 96 = .ok (.getfield 26, 3) := by decide +kernel
theorem d_Desk_thread_99 : decode prog_1_method_3_code 99 = .ok (.iload_n 3, 1) := by decide +kernel
theorem d_Desk_thread_100 : decode prog_1_method_3_code 100 = .ok (.aaload, 1) := by decide +kernel
theorem d_Desk_thread_101 : decode prog_1_method_3_code 101 = .ok (.iload_n 1, 1) := by decide +kernel
theorem d_Desk_thread_102 : decode prog_1_method_3_code 102 = .ok (.putfield 78, 3) := by decide +kernel
theorem d_Desk_thread_105 : decode prog_1_method_3_code 105 = .ok (.aload_n 0, 1) := by decide +kernel
theorem d_Desk_thread_106 : decode prog_1_method_3_code 106 = .ok (.getfield 26, 3) := by decide +kernel
theorem d_Desk_thread_109 : decode prog_1_method_3_code 109 = .ok (.iload_n 3, 1) := by decide +kernel
theorem d_Desk_thread_110 : decode prog_1_method_3_code 110 = .ok (.aaload, 1) := by decide +kernel
theorem d_Desk_thread_111 : decode prog_1_method_3_code 111 = .ok (.iload_n 2, 1) := by decide +kernel
theorem d_Desk_thread_112 : decode prog_1_method_3_code 112 = .ok (.putfield 83, 3) := by decide +kernel
theorem d_Desk_thread_115 : decode prog_1_method_3_code 115 = .ok (.aload_n 0, 1) := by decide +kernel
theorem d_Desk_thread_116 : decode prog_1_method_3_code 116 = .ok (.getfield 18, 3) := by decide +kernel
theorem d_Desk_thread_119 : decode prog_1_method_3_code 119 = .ok (.iload_n 3, 1) := by decide +kernel
theorem d_Desk_thread_120 : decode prog_1_method_3_code 120 = .ok (.invokevirtual 86, 3) := by decide +kernel
theorem d_Desk_thread_123 : decode prog_1_method_3_code 123 = .ok (.aload_n 0, 1) := by decide +kernel
theorem d_Desk_thread_124 : decode prog_1_method_3_code 124 = .ok (.invokevirtual 89, 3) := by decide +kernel
theorem d_Desk_thread_127 : decode prog_1_method_3_code 127 = .ok (.iload_n 3, 1) := by decide +kernel
theorem d_Desk_thread_128 : decode prog_1_method_3_code 128 = .ok (.ireturn, 1) := by decide +kernel
theorem d_Desk_mostAtFirst_0 : decode prog_1_method_23_code 0 = .ok (.iload_n 0, 1) := by decide +kernel
theorem d_Desk_mostAtFirst_1 : decode prog_1_method_23_code 1 = .ok (.tableswitch 35 3 5 #[27, 30, 32], 27) := by decide +kernel
theorem d_Desk_mostAtFirst_28 : decode prog_1_method_23_code 28 = .ok (.bipush 9, 2) := by decide +kernel
theorem d_Desk_mostAtFirst_30 : decode prog_1_method_23_code 30 = .ok (.ireturn, 1) := by decide +kernel
theorem d_Desk_mostAtFirst_31 : decode prog_1_method_23_code 31 = .ok (.iconst 0, 1) := by decide +kernel
theorem d_Desk_mostAtFirst_32 : decode prog_1_method_23_code 32 = .ok (.ireturn, 1) := by decide +kernel
theorem d_Desk_mostAtFirst_33 : decode prog_1_method_23_code 33 = .ok (.bipush 7, 2) := by decide +kernel
theorem d_Desk_mostAtFirst_35 : decode prog_1_method_23_code 35 = .ok (.ireturn, 1) := by decide +kernel
theorem d_Desk_mostAtFirst_36 : decode prog_1_method_23_code 36 = .ok (.iconst 1, 1) := by decide +kernel
theorem d_Desk_mostAtFirst_37 : decode prog_1_method_23_code 37 = .ok (.ireturn, 1) := by decide +kernel
theorem d_Obj_currentName_0 : decode prog_2_method_4_code 0 = .ok (.aload_n 0, 1) := by decide +kernel
theorem d_Obj_currentName_1 : decode prog_2_method_4_code 1 = .ok (.getfield 51, 3) := by decide +kernel
theorem d_Obj_currentName_4 : decode prog_2_method_4_code 4 = .ok (.ifCond .le 10, 3) := by decide +kernel
theorem d_Obj_currentName_7 : decode prog_2_method_4_code 7 = .ok (.aload_n 0, 1) := by decide +kernel
theorem d_Obj_currentName_8 : decode prog_2_method_4_code 8 = .ok (.getfield 27, 3) := by decide +kernel
theorem d_Obj_currentName_11 : decode prog_2_method_4_code 11 = .ok (.goto 4, 3) := by decide +kernel
theorem d_Obj_currentName_14 : decode prog_2_method_4_code 14 = .ok (.iconst (-1), 1) := by decide +kernel
theorem d_Obj_currentName_15 : decode prog_2_method_4_code 15 = .ok (.ireturn, 1) := by decide +kernel
theorem d_Desk_objectNamed_0 : decode prog_1_method_30_code 0 = .ok (.iconst 0, 1) := by decide +kernel
theorem d_Desk_objectNamed_1 : decode prog_1_method_30_code 1 = .ok (.istore_n 2, 1) := by decide +kernel
theorem d_Desk_objectNamed_2 : decode prog_1_method_30_code 2 = .ok (.iload_n 2, 1) := by decide +kernel
theorem d_Desk_objectNamed_3 : decode prog_1_method_30_code 3 = .ok (.bipush 16, 2) := by decide +kernel
theorem d_Desk_objectNamed_5 : decode prog_1_method_30_code 5 = .ok (.if_icmp .ge 24, 3) := by decide +kernel
theorem d_Desk_objectNamed_8 : decode prog_1_method_30_code 8 = .ok (.aload_n 0, 1) := by decide +kernel
theorem d_Desk_objectNamed_9 : decode prog_1_method_30_code 9 = .ok (.getfield 29, 3) := by decide +kernel
theorem d_Desk_objectNamed_12 : decode prog_1_method_30_code 12 = .ok (.iload_n 2, 1) := by decide +kernel
theorem d_Desk_objectNamed_13 : decode prog_1_method_30_code 13 = .ok (.aaload, 1) := by decide +kernel
theorem d_Desk_objectNamed_14 : decode prog_1_method_30_code 14 = .ok (.invokevirtual 267, 3) := by decide +kernel
theorem d_Desk_objectNamed_17 : decode prog_1_method_30_code 17 = .ok (.iload_n 1, 1) := by decide +kernel
theorem d_Desk_objectNamed_18 : decode prog_1_method_30_code 18 = .ok (.if_icmp .ne 5, 3) := by decide +kernel
theorem d_Desk_objectNamed_21 : decode prog_1_method_30_code 21 = .ok (.iload_n 2, 1) := by decide +kernel
theorem d_Desk_objectNamed_22 : decode prog_1_method_30_code 22 = .ok (.ireturn, 1) := by decide +kernel
theorem d_Desk_objectNamed_23 : decode prog_1_method_30_code 23 = .ok (.iinc 2 1, 3) := by decide +kernel
theorem d_Desk_objectNamed_26 : decode prog_1_method_30_code 26 = .ok (.goto (-24), 3) := by decide +kernel
theorem d_Desk_objectNamed_29 : decode prog_1_method_30_code 29 = .ok (.iconst (-1), 1) := by decide +kernel
theorem d_Desk_objectNamed_30 : decode prog_1_method_30_code 30 = .ok (.ireturn, 1) := by decide +kernel
theorem d_Desk_processOfRunning_0 : decode prog_1_method_26_code 0 = .ok (.aload_n 0, 1) := by decide +kernel
theorem d_Desk_processOfRunning_1 : decode prog_1_method_26_code 1 = .ok (.getfield 11, 3) := by decide +kernel
theorem d_Desk_processOfRunning_4 : decode prog_1_method_26_code 4 = .ok (.aload_n 0, 1) := by decide +kernel
theorem d_Desk_processOfRunning_5 : decode prog_1_method_26_code 5 = .ok (.getfield 26, 3) := by decide +kernel
theorem d_Desk_processOfRunning_8 : decode prog_1_method_26_code 8 = .ok (.aload_n 0, 1) := by decide +kernel
theorem d_Desk_processOfRunning_9 : decode prog_1_method_26_code 9 = .ok (.getfield 18, 3) := by decide +kernel
theorem d_Desk_processOfRunning_12 : decode prog_1_method_26_code 12 = .ok (.getfield 92, 3) := by decide +kernel
theorem d_Desk_processOfRunning_15 : decode prog_1_method_26_code 15 = .ok (.aaload, 1) := by decide +kernel
theorem d_Desk_processOfRunning_16 : decode prog_1_method_26_code 16 = .ok (.getfield 78, 3) := by decide +kernel
theorem d_Desk_processOfRunning_19 : decode prog_1_method_26_code 19 = .ok (.aaload, 1) := by decide +kernel
theorem d_Desk_processOfRunning_20 : decode prog_1_method_26_code 20 = .ok (.areturn, 1) := by decide +kernel
theorem d_Proc_freeHandle_0 : decode prog_3_method_6_code 0 = .ok (.iconst 0, 1) := by decide +kernel
theorem d_Proc_freeHandle_1 : decode prog_3_method_6_code 1 = .ok (.istore_n 1, 1) := by decide +kernel
theorem d_Proc_freeHandle_2 : decode prog_3_method_6_code 2 = .ok (.iload_n 1, 1) := by decide +kernel
theorem d_Proc_freeHandle_3 : decode prog_3_method_6_code 3 = .ok (.bipush 8, 2) := by decide +kernel
theorem d_Proc_freeHandle_5 : decode prog_3_method_6_code 5 = .ok (.if_icmp .ge 21, 3) := by decide +kernel
theorem d_Proc_freeHandle_8 : decode prog_3_method_6_code 8 = .ok (.aload_n 0, 1) := by decide +kernel
theorem d_Proc_freeHandle_9 : decode prog_3_method_6_code 9 = .ok (.getfield 9, 3) := by decide +kernel
theorem d_Proc_freeHandle_12 : decode prog_3_method_6_code 12 = .ok (.iload_n 1, 1) := by decide +kernel
theorem d_Proc_freeHandle_13 : decode prog_3_method_6_code 13 = .ok (.iaload, 1) := by decide +kernel
theorem d_Proc_freeHandle_14 : decode prog_3_method_6_code 14 = .ok (.iconst (-1), 1) := by decide +kernel
theorem d_Proc_freeHandle_15 : decode prog_3_method_6_code 15 = .ok (.if_icmp .ne 5, 3) := by decide +kernel
theorem d_Proc_freeHandle_18 : decode prog_3_method_6_code 18 = .ok (.iload_n 1, 1) := by decide +kernel
theorem d_Proc_freeHandle_19 : decode prog_3_method_6_code 19 = .ok (.ireturn, 1) := by decide +kernel
theorem d_Proc_freeHandle_20 : decode prog_3_method_6_code 20 = .ok (.iinc 1 1, 3) := by decide +kernel
theorem d_Proc_freeHandle_23 : decode prog_3_method_6_code 23 = .ok (.goto (-21), 3) := by decide +kernel
theorem d_Proc_freeHandle_26 : decode prog_3_method_6_code 26 = .ok (.iconst (-1), 1) := by decide +kernel
theorem d_Proc_freeHandle_27 : decode prog_3_method_6_code 27 = .ok (.ireturn, 1) := by decide +kernel
theorem d_Obj_isThere_0 : decode prog_2_method_3_code 0 = .ok (.aload_n 0, 1) := by decide +kernel
theorem d_Obj_isThere_1 : decode prog_2_method_3_code 1 = .ok (.getfield 51, 3) := by decide +kernel
theorem d_Obj_isThere_4 : decode prog_2_method_3_code 4 = .ok (.ifCond .gt 10, 3) := by decide +kernel
theorem d_Obj_isThere_7 : decode prog_2_method_3_code 7 = .ok (.aload_n 0, 1) := by decide +kernel
theorem d_Obj_isThere_8 : decode prog_2_method_3_code 8 = .ok (.getfield 54, 3) := by decide +kernel
theorem d_Obj_isThere_11 : decode prog_2_method_3_code 11 = .ok (.ifCond .le 7, 3) := by decide +kernel
theorem d_Obj_isThere_14 : decode prog_2_method_3_code 14 = .ok (.iconst 1, 1) := by decide +kernel
theorem d_Obj_isThere_15 : decode prog_2_method_3_code 15 = .ok (.goto 4, 3) := by decide +kernel
theorem d_Obj_isThere_18 : decode prog_2_method_3_code 18 = .ok (.iconst 0, 1) := by decide +kernel
theorem d_Obj_isThere_19 : decode prog_2_method_3_code 19 = .ok (.ireturn, 1) := by decide +kernel
theorem d_Desk_freeObject_0 : decode prog_1_method_31_code 0 = .ok (.iconst 0, 1) := by decide +kernel
theorem d_Desk_freeObject_1 : decode prog_1_method_31_code 1 = .ok (.istore_n 1, 1) := by decide +kernel
theorem d_Desk_freeObject_2 : decode prog_1_method_31_code 2 = .ok (.iload_n 1, 1) := by decide +kernel
theorem d_Desk_freeObject_3 : decode prog_1_method_31_code 3 = .ok (.bipush 16, 2) := by decide +kernel
theorem d_Desk_freeObject_5 : decode prog_1_method_31_code 5 = .ok (.if_icmp .ge 23, 3) := by decide +kernel
theorem d_Desk_freeObject_8 : decode prog_1_method_31_code 8 = .ok (.aload_n 0, 1) := by decide +kernel
theorem d_Desk_freeObject_9 : decode prog_1_method_31_code 9 = .ok (.getfield 29, 3) := by decide +kernel
theorem d_Desk_freeObject_12 : decode prog_1_method_31_code 12 = .ok (.iload_n 1, 1) := by decide +kernel
theorem d_Desk_freeObject_13 : decode prog_1_method_31_code 13 = .ok (.aaload, 1) := by decide +kernel
theorem d_Desk_freeObject_14 : decode prog_1_method_31_code 14 = .ok (.invokevirtual 316, 3) := by decide +kernel
theorem d_Desk_freeObject_17 : decode prog_1_method_31_code 17 = .ok (.ifCond .ne 5, 3) := by decide +kernel
theorem d_Desk_freeObject_20 : decode prog_1_method_31_code 20 = .ok (.iload_n 1, 1) := by decide +kernel
theorem d_Desk_freeObject_21 : decode prog_1_method_31_code 21 = .ok (.ireturn, 1) := by decide +kernel
theorem d_Desk_freeObject_22 : decode prog_1_method_31_code 22 = .ok (.iinc 1 1, 3) := by decide +kernel
theorem d_Desk_freeObject_25 : decode prog_1_method_31_code 25 = .ok (.goto (-23), 3) := by decide +kernel
theorem d_Desk_freeObject_28 : decode prog_1_method_31_code 28 = .ok (.iconst (-1), 1) := by decide +kernel
theorem d_Desk_freeObject_29 : decode prog_1_method_31_code 29 = .ok (.ireturn, 1) := by decide +kernel
theorem d_Obj_begin_0 : decode prog_2_method_2_code 0 = .ok (.aload_n 0, 1) := by decide +kernel
theorem d_Obj_begin_1 : decode prog_2_method_2_code 1 = .ok (.iload_n 1, 1) := by decide +kernel
theorem d_Obj_begin_2 : decode prog_2_method_2_code 2 = .ok (.putfield 37, 3) := by decide +kernel
theorem d_Obj_begin_5 : decode prog_2_method_2_code 5 = .ok (.aload_n 0, 1) := by decide +kernel
theorem d_Obj_begin_6 : decode prog_2_method_2_code 6 = .ok (.iload_n 3, 1) := by decide +kernel
theorem d_Obj_begin_7 : decode prog_2_method_2_code 7 = .ok (.putfield 27, 3) := by decide +kernel
theorem d_Obj_begin_10 : decode prog_2_method_2_code 10 = .ok (.aload_n 0, 1) := by decide +kernel
theorem d_Obj_begin_11 : decode prog_2_method_2_code 11 = .ok (.iload_n 2, 1) := by decide +kernel
theorem d_Obj_begin_12 : decode prog_2_method_2_code 12 = .ok (.putfield 40, 3) := by decide +kernel
theorem d_Obj_begin_15 : decode prog_2_method_2_code 15 = .ok (.aload_n 0, 1) := by decide +kernel
theorem d_Obj_begin_16 : decode prog_2_method_2_code 16 = .ok (.iconst (-1), 1) := by decide +kernel
theorem d_Obj_begin_17 : decode prog_2_method_2_code 17 = .ok (.putfield 31, 3) := by decide +kernel
theorem d_Obj_begin_20 : decode prog_2_method_2_code 20 = .ok (.aload_n 0, 1) := by decide +kernel
theorem d_Obj_begin_21 : decode prog_2_method_2_code 21 = .ok (.iconst 0, 1) := by decide +kernel
theorem d_Obj_begin_22 : decode prog_2_method_2_code 22 = .ok (.putfield 43, 3) := by decide +kernel
theorem d_Obj_begin_25 : decode prog_2_method_2_code 25 = .ok (.aload_n 0, 1) := by decide +kernel
theorem d_Obj_begin_26 : decode prog_2_method_2_code 26 = .ok (.iconst (-1), 1) := by decide +kernel
theorem d_Obj_begin_27 : decode prog_2_method_2_code 27 = .ok (.putfield 34, 3) := by decide +kernel
theorem d_Obj_begin_30 : decode prog_2_method_2_code 30 = .ok (.aload_n 0, 1) := by decide +kernel
theorem d_Obj_begin_31 : decode prog_2_method_2_code 31 = .ok (.getfield 12, 3) := by decide +kernel
theorem d_Obj_begin_34 : decode prog_2_method_2_code 34 = .ok (.iconst 0, 1) := by decide +kernel
theorem d_Obj_begin_35 : decode prog_2_method_2_code 35 = .ok (.putfield 47, 3) := by decide +kernel
theorem d_Obj_begin_38 : decode prog_2_method_2_code 38 = .ok (.aload_n 0, 1) := by decide +kernel
theorem d_Obj_begin_39 : decode prog_2_method_2_code 39 = .ok (.getfield 23, 3) := by decide +kernel
theorem d_Obj_begin_42 : decode prog_2_method_2_code 42 = .ok (.iconst 0, 1) := by decide +kernel
theorem d_Obj_begin_43 : decode prog_2_method_2_code 43 = .ok (.putfield 50, 3) := by decide +kernel
theorem d_Obj_begin_46 : decode prog_2_method_2_code 46 = .ok (.return_, 1) := by decide +kernel
theorem d_Desk_giveHandle_0 : decode prog_1_method_35_code 0 = .ok (.aload_n 1, 1) := by decide +kernel
theorem d_Desk_giveHandle_1 : decode prog_1_method_35_code 1 = .ok (.getfield 324, 3) := by decide +kernel
theorem d_Desk_giveHandle_4 : decode prog_1_method_35_code 4 = .ok (.iload_n 2, 1) := by decide +kernel
theorem d_Desk_giveHandle_5 : decode prog_1_method_35_code 5 = .ok (.iload_n 3, 1) := by decide +kernel
theorem d_Desk_giveHandle_6 : decode prog_1_method_35_code 6 = .ok (.iastore, 1) := by decide +kernel
theorem d_Desk_giveHandle_7 : decode prog_1_method_35_code 7 = .ok (.aload_n 1, 1) := by decide +kernel
theorem d_Desk_giveHandle_8 : decode prog_1_method_35_code 8 = .ok (.getfield 328, 3) := by decide +kernel
theorem d_Desk_giveHandle_11 : decode prog_1_method_35_code 11 = .ok (.iload_n 2, 1) := by decide +kernel
theorem d_Desk_giveHandle_12 : decode prog_1_method_35_code 12 = .ok (.iload 4, 2) := by decide +kernel
theorem d_Desk_giveHandle_14 : decode prog_1_method_35_code 14 = .ok (.iastore, 1) := by decide +kernel
theorem d_Desk_giveHandle_15 : decode prog_1_method_35_code 15 = .ok (.aload_n 0, 1) := by decide +kernel
theorem d_Desk_giveHandle_16 : decode prog_1_method_35_code 16 = .ok (.getfield 29, 3) := by decide +kernel
theorem d_Desk_giveHandle_19 : decode prog_1_method_35_code 19 = .ok (.iload_n 3, 1) := by decide +kernel
theorem d_Desk_giveHandle_20 : decode prog_1_method_35_code 20 = .ok (.aaload, 1) := by decide +kernel
theorem d_Desk_giveHandle_21 : decode prog_1_method_35_code 21 = .ok (.dup, 1) := by decide +kernel
theorem d_Desk_giveHandle_22 : decode prog_1_method_35_code 22 = .ok (.getfield 141, 3) := by decide +kernel
theorem d_Desk_giveHandle_25 : decode prog_1_method_35_code 25 = .ok (.iconst 1, 1) := by decide +kernel
theorem d_Desk_giveHandle_26 : decode prog_1_method_35_code 26 = .ok (.iadd, 1) := by decide +kernel
theorem d_Desk_giveHandle_27 : decode prog_1_method_35_code 27 = .ok (.putfield 141, 3) := by decide +kernel
theorem d_Desk_giveHandle_30 : decode prog_1_method_35_code 30 = .ok (.return_, 1) := by decide +kernel
theorem d_Desk_create_0 : decode prog_1_method_4_code 0 = .ok (.aload_n 0, 1) := by decide +kernel
theorem d_Desk_create_1 : decode prog_1_method_4_code 1 = .ok (.getfield 18, 3) := by decide +kernel
theorem d_Desk_create_4 : decode prog_1_method_4_code 4 = .ok (.getfield 92, 3) := by decide +kernel
theorem d_Desk_create_7 : decode prog_1_method_4_code 7 = .ok (.iconst (-1), 1) := by decide +kernel
theorem d_Desk_create_8 : decode prog_1_method_4_code 8 = .ok (.if_icmp .ne 6, 3) := by decide +kernel
theorem d_Desk_create_11 : decode prog_1_method_4_code 11 = .ok (.bipush (-3), 2) := by decide +kernel
theorem d_Desk_create_13 : decode prog_1_method_4_code 13 = .ok (.ireturn, 1) := by decide +kernel
theorem d_Desk_create_14 : decode prog_1_method_4_code 14 = .ok (.iload_n 1, 1) := by decide +kernel
theorem d_Desk_create_15 : decode prog_1_method_4_code 15 = .ok (.iconst 0, 1) := by decide +kernel
theorem d_Desk_create_16 : decode prog_1_method_4_code 16 = .ok (.iconst 5, 1) := by decide +kernel
theorem d_Desk_create_17 : decode prog_1_method_4_code 17 = .ok (.invokestatic 54, 3) := by decide +kernel
theorem d_Desk_create_20 : decode prog_1_method_4_code 20 = .ok (.ifCond .eq 25, 3) := by decide +kernel
theorem d_Desk_create_23 : decode prog_1_method_4_code 23 = .ok (.iload_n 2, 1) := by decide +kernel
theorem d_Desk_create_24 : decode prog_1_method_4_code 24 = .ok (.iconst 0, 1) := by decide +kernel
theorem d_Desk_create_25 : decode prog_1_method_4_code 25 = .ok (.iload_n 1, 1) := by decide +kernel
theorem d_Desk_create_26 : decode prog_1_method_4_code 26 = .ok (.invokestatic 95, 3) := by decide +kernel
theorem d_Desk_create_29 : decode prog_1_method_4_code 29 = .ok (.invokestatic 54, 3) := by decide +kernel
theorem d_Desk_create_32 : decode prog_1_method_4_code 32 = .ok (.ifCond .eq 13, 3) := by decide +kernel
theorem d_Desk_create_35 : decode prog_1_method_4_code 35 = .ok (.iload_n 3, 1) := by decide +kernel
theorem d_Desk_create_36 : decode prog_1_method_4_code 36 = .ok (.iconst (-1), 1) := by decide +kernel
theorem d_Desk_create_37 : decode prog_1_method_4_code 37 = .ok (.bipush 15, 2) := by decide +kernel
theorem d_Desk_create_39 : decode prog_1_method_4_code 39 = .ok (.invokestatic 54, 3) := by decide +kernel
theorem d_Desk_create_42 : decode prog_1_method_4_code 42 = .ok (.ifCond .ne 5, 3) := by decide +kernel
theorem d_Desk_create_45 : decode prog_1_method_4_code 45 = .ok (.iconst (-1), 1) := by decide +kernel
theorem d_Desk_create_46 : decode prog_1_method_4_code 46 = .ok (.ireturn, 1) := by decide +kernel
theorem d_Desk_create_47 : decode prog_1_method_4_code 47 = .ok (.iload_n 3, 1) := by decide +kernel
theorem d_Desk_create_48 : decode prog_1_method_4_code 48 = .ok (.iconst (-1), 1) := by decide +kernel
theorem d_Desk_create_49 : decode prog_1_method_4_code 49 = .ok (.if_icmp .eq 15, 3) := by decide +kernel
theorem d_Desk_create_52 : decode prog_1_method_4_code 52 = .ok (.aload_n 0, 1) := by decide +kernel
theorem d_Desk_create_53 : decode prog_1_method_4_code 53 = .ok (.iload_n 3, 1) := by decide +kernel
theorem d_Desk_create_54 : decode prog_1_method_4_code 54 = .ok (.invokevirtual 99, 3) := by decide +kernel
theorem d_Desk_create_57 : decode prog_1_method_4_code 57 = .ok (.iconst (-1), 1) := by decide +kernel
theorem d_Desk_create_58 : decode prog_1_method_4_code 58 = .ok (.if_icmp .eq 6, 3) := by decide +kernel
theorem d_Desk_create_61 : decode prog_1_method_4_code 61 = .ok (.bipush (-6), 2) := by decide +kernel
theorem d_Desk_create_63 : decode prog_1_method_4_code 63 = .ok (.ireturn, 1) := by decide +kernel
theorem d_Desk_create_64 : decode prog_1_method_4_code 64 = .ok (.aload_n 0, 1) := by decide +kernel
theorem d_Desk_create_65 : decode prog_1_method_4_code 65 = .ok (.invokevirtual 102, 3) := by decide +kernel
theorem d_Desk_create_68 : decode prog_1_method_4_code 68 = .ok (.astore 4, 2) := by decide +kernel
theorem d_Desk_create_70 : decode prog_1_method_4_code 70 = .ok (.aload 4, 2) := by decide +kernel
theorem d_Desk_create_72 : decode prog_1_method_4_code 72 = .ok (.invokevirtual 106, 3) := by decide +kernel
theorem d_Desk_create_75 : decode prog_1_method_4_code 75 = .ok (.istore 5, 2) := by decide +kernel
theorem d_Desk_create_77 : decode prog_1_method_4_code 77 = .ok (.aload_n 0, 1) := by decide +kernel
theorem d_Desk_create_78 : decode prog_1_method_4_code 78 = .ok (.invokevirtual 110, 3) := by decide +kernel
theorem d_Desk_create_81 : decode prog_1_method_4_code 81 = .ok (.istore 6, 2) := by decide +kernel
theorem d_Desk_create_83 : decode prog_1_method_4_code 83 = .ok (.iload 5, 2) := by decide +kernel
theorem d_Desk_create_85 : decode prog_1_method_4_code 85 = .ok (.iconst (-1), 1) := by decide +kernel
theorem d_Desk_create_86 : decode prog_1_method_4_code 86 = .ok (.if_icmp .eq 9, 3) := by decide +kernel
theorem d_Desk_create_89 : decode prog_1_method_4_code 89 = .ok (.iload 6, 2) := by decide +kernel
theorem d_Desk_create_91 : decode prog_1_method_4_code 91 = .ok (.iconst (-1), 1) := by decide +kernel
theorem d_Desk_create_92 : decode prog_1_method_4_code 92 = .ok (.if_icmp .ne 6, 3) := by decide +kernel
theorem d_Desk_create_95 : decode prog_1_method_4_code 95 = .ok (.bipush (-2), 2) := by decide +kernel
theorem d_Desk_create_97 : decode prog_1_method_4_code 97 = .ok (.ireturn, 1) := by decide +kernel
theorem d_Desk_create_98 : decode prog_1_method_4_code 98 = .ok (.aload_n 0, 1) := by decide +kernel
theorem d_Desk_create_99 : decode prog_1_method_4_code 99 = .ok (.getfield 29, 3) := by decide +kernel
theorem d_Desk_create_102 : decode prog_1_method_4_code 102 = .ok (.iload 6, 2) := by decide +kernel
theorem d_Desk_create_104 : decode prog_1_method_4_code 104 = .ok (.aaload, 1) := by decide +kernel
theorem d_Desk_create_105 : decode prog_1_method_4_code 105 = .ok (.iload_n 1, 1) := by decide +kernel
theorem d_Desk_create_106 : decode prog_1_method_4_code 106 = .ok (.iload_n 2, 1) := by decide +kernel
theorem d_Desk_create_107 : decode prog_1_method_4_code 107 = .ok (.iload_n 3, 1) := by decide +kernel
theorem d_Desk_create_108 : decode prog_1_method_4_code 108 = .ok (.invokevirtual 113, 3) := by decide +kernel
theorem d_Desk_create_111 : decode prog_1_method_4_code 111 = .ok (.iload_n 1, 1) := by decide +kernel
theorem d_Desk_create_112 : decode prog_1_method_4_code 112 = .ok (.iconst 2, 1) := by decide +kernel
theorem d_Desk_create_113 : decode prog_1_method_4_code 113 = .ok (.if_icmp .ne 25, 3) := by decide +kernel
theorem d_Desk_create_116 : decode prog_1_method_4_code 116 = .ok (.iload_n 2, 1) := by decide +kernel
theorem d_Desk_create_117 : decode prog_1_method_4_code 117 = .ok (.iconst 1, 1) := by decide +kernel
theorem d_Desk_create_118 : decode prog_1_method_4_code 118 = .ok (.if_icmp .ne 20, 3) := by decide +kernel
theorem d_Desk_create_121 : decode prog_1_method_4_code 121 = .ok (.aload_n 0, 1) := by decide +kernel
theorem d_Desk_create_122 : decode prog_1_method_4_code 122 = .ok (.getfield 29, 3) := by decide +kernel
theorem d_Desk_create_125 : decode prog_1_method_4_code 125 = .ok (.iload 6, 2) := by decide +kernel
theorem d_Desk_create_127 : decode prog_1_method_4_code 127 = .ok (.aaload, 1) := by decide +kernel
theorem d_Desk_create_128 : decode prog_1_method_4_code 128 = .ok (.aload_n 0, 1) := by decide +kernel
theorem d_Desk_create_129 : decode prog_1_method_4_code 129 = .ok (.getfield 18, 3) := by decide +kernel
theorem d_Desk_create_132 : decode prog_1_method_4_code 132 = .ok (.getfield 92, 3) := by decide +kernel
theorem d_Desk_create_135 : decode prog_1_method_4_code 135 = .ok (.putfield 117, 3) := by decide +kernel
theorem d_Desk_create_138 : decode prog_1_method_4_code 138 = .ok (.aload_n 0, 1) := by decide +kernel
theorem d_Desk_create_139 : decode prog_1_method_4_code 139 = .ok (.aload 4, 2) := by decide +kernel
theorem d_Desk_create_141 : decode prog_1_method_4_code 141 = .ok (.iload 5, 2) := by decide +kernel
theorem d_Desk_create_143 : decode prog_1_method_4_code 143 = .ok (.iload 6, 2) := by decide +kernel
theorem d_Desk_create_145 : decode prog_1_method_4_code 145 = .ok (.bipush 7, 2) := by decide +kernel
theorem d_Desk_create_147 : decode prog_1_method_4_code 147 = .ok (.invokevirtual 120, 3) := by decide +kernel
theorem d_Desk_create_150 : decode prog_1_method_4_code 150 = .ok (.iload 5, 2) := by decide +kernel
theorem d_Desk_create_152 : decode prog_1_method_4_code 152 = .ok (.ireturn, 1) := by decide +kernel
theorem d_Rul_grants_0 : decode prog_5_method_3_code 0 = .ok (.iload_n 2, 1) := by decide +kernel
theorem d_Rul_grants_1 : decode prog_5_method_3_code 1 = .ok (.istore_n 3, 1) := by decide +kernel
theorem d_Rul_grants_2 : decode prog_5_method_3_code 2 = .ok (.iconst 0, 1) := by decide +kernel
theorem d_Rul_grants_3 : decode prog_5_method_3_code 3 = .ok (.istore 4, 2) := by decide +kernel
theorem d_Rul_grants_5 : decode prog_5_method_3_code 5 = .ok (.iload 4, 2) := by decide +kernel
theorem d_Rul_grants_7 : decode prog_5_method_3_code 7 = .ok (.aload_n 0, 1) := by decide +kernel
theorem d_Rul_grants_8 : decode prog_5_method_3_code 8 = .ok (.getfield 21, 3) := by decide +kernel
theorem d_Rul_grants_11 : decode prog_5_method_3_code 11 = .ok (.if_icmp .ge 70, 3) := by decide +kernel
theorem d_Rul_grants_14 : decode prog_5_method_3_code 14 = .ok (.iload_n 3, 1) := by decide +kernel
theorem d_Rul_grants_15 : decode prog_5_method_3_code 15 = .ok (.ifCond .eq 66, 3) := by decide +kernel
theorem d_Rul_grants_18 : decode prog_5_method_3_code 18 = .ok (.iload_n 1, 1) := by decide +kernel
theorem d_Rul_grants_19 : decode prog_5_method_3_code 19 = .ok (.iconst 1, 1) := by decide +kernel
theorem d_Rul_grants_20 : decode prog_5_method_3_code 20 = .ok (.aload_n 0, 1) := by decide +kernel
theorem d_Rul_grants_21 : decode prog_5_method_3_code 21 = .ok (.getfield 15, 3) := by decide +kernel
theorem d_Rul_grants_24 : decode prog_5_method_3_code 24 = .ok (.iload 4, 2) := by decide +kernel
theorem d_Rul_grants_26 : decode prog_5_method_3_code 26 = .ok (.iaload, 1) := by decide +kernel
theorem d_Rul_grants_27 : decode prog_5_method_3_code 27 = .ok (.ishl, 1) := by decide +kernel
theorem d_Rul_grants_28 : decode prog_5_method_3_code 28 = .ok (.iand, 1) := by decide +kernel
theorem d_Rul_grants_29 : decode prog_5_method_3_code 29 = .ok (.ifCond .ne 6, 3) := by decide +kernel
theorem d_Rul_grants_32 : decode prog_5_method_3_code 32 = .ok (.goto 43, 3) := by decide +kernel
theorem d_Rul_grants_35 : decode prog_5_method_3_code 35 = .ok (.aload_n 0, 1) := by decide +kernel
theorem d_Rul_grants_36 : decode prog_5_method_3_code 36 = .ok (.getfield 9, 3) := by decide +kernel
theorem d_Rul_grants_39 : decode prog_5_method_3_code 39 = .ok (.iload 4, 2) := by decide +kernel
theorem d_Rul_grants_41 : decode prog_5_method_3_code 41 = .ok (.iaload, 1) := by decide +kernel
theorem d_Rul_grants_42 : decode prog_5_method_3_code 42 = .ok (.iconst 1, 1) := by decide +kernel
theorem d_Rul_grants_43 : decode prog_5_method_3_code 43 = .ok (.if_icmp .ne 18, 3) := by decide +kernel
theorem d_Rul_grants_46 : decode prog_5_method_3_code 46 = .ok (.iload_n 3, 1) := by decide +kernel
theorem d_Rul_grants_47 : decode prog_5_method_3_code 47 = .ok (.aload_n 0, 1) := by decide +kernel
theorem d_Rul_grants_48 : decode prog_5_method_3_code 48 = .ok (.getfield 18, 3) := by decide +kernel
theorem d_Rul_grants_51 : decode prog_5_method_3_code 51 = .ok (.iload 4, 2) := by decide +kernel
theorem d_Rul_grants_53 : decode prog_5_method_3_code 53 = .ok (.iaload, 1) := by decide +kernel
theorem d_Rul_grants_54 : decode prog_5_method_3_code 54 = .ok (.iconst (-1), 1) := by decide +kernel
theorem d_Rul_grants_55 : decode prog_5_method_3_code 55 = .ok (.ixor, 1) := by decide +kernel
theorem d_Rul_grants_56 : decode prog_5_method_3_code 56 = .ok (.iand, 1) := by decide +kernel
theorem d_Rul_grants_57 : decode prog_5_method_3_code 57 = .ok (.istore_n 3, 1) := by decide +kernel
theorem d_Rul_grants_58 : decode prog_5_method_3_code 58 = .ok (.goto 17, 3) := by decide +kernel
theorem d_Rul_grants_61 : decode prog_5_method_3_code 61 = .ok (.iload_n 3, 1) := by decide +kernel
theorem d_Rul_grants_62 : decode prog_5_method_3_code 62 = .ok (.aload_n 0, 1) := by decide +kernel
theorem d_Rul_grants_63 : decode prog_5_method_3_code 63 = .ok (.getfield 18, 3) := by decide +kernel
theorem d_Rul_grants_66 : decode prog_5_method_3_code 66 = .ok (.iload 4, 2) := by decide +kernel
theorem d_Rul_grants_68 : decode prog_5_method_3_code 68 = .ok (.iaload, 1) := by decide +kernel
theorem d_Rul_grants_69 : decode prog_5_method_3_code 69 = .ok (.iand, 1) := by decide +kernel
theorem d_Rul_grants_70 : decode prog_5_method_3_code 70 = .ok (.ifCond .eq 5, 3) := by decide +kernel
theorem d_Rul_grants_73 : decode prog_5_method_3_code 73 = .ok (.iconst 0, 1) := by decide +kernel
theorem d_Rul_grants_74 : decode prog_5_method_3_code 74 = .ok (.ireturn, 1) := by decide +kernel
theorem d_Rul_grants_75 : decode prog_5_method_3_code 75 = .ok (.iinc 4 1, 3) := by decide +kernel
theorem d_Rul_grants_78 : decode prog_5_method_3_code 78 = .ok (.goto (-73), 3) := by decide +kernel
theorem d_Rul_grants_81 : decode prog_5_method_3_code 81 = .ok (.aload_n 0, 1) := by decide +kernel
theorem d_Rul_grants_82 : decode prog_5_method_3_code 82 = .ok (.getfield 21, 3) := by decide +kernel
theorem d_Rul_grants_85 : decode prog_5_method_3_code 85 = .ok (.ifCond .eq 7, 3) := by decide +kernel
theorem d_Rul_grants_88 : decode prog_5_method_3_code 88 = .ok (.iload_n 3, 1) := by decide +kernel
theorem d_Rul_grants_89 : decode prog_5_method_3_code 89 = .ok (.ifCond .ne 7, 3) := by decide +kernel
theorem d_Rul_grants_92 : decode prog_5_method_3_code 92 = .ok (.iconst 1, 1) := by decide +kernel
theorem d_Rul_grants_93 : decode prog_5_method_3_code 93 = .ok (.goto 4, 3) := by decide +kernel
theorem d_Rul_grants_96 : decode prog_5_method_3_code 96 = .ok (.iconst 0, 1) := by decide +kernel
theorem d_Rul_grants_97 : decode prog_5_method_3_code 97 = .ok (.ireturn, 1) := by decide +kernel
theorem d_Desk_opn_0 : decode prog_1_method_5_code 0 = .ok (.aload_n 0, 1) := by decide +kernel
theorem d_Desk_opn_1 : decode prog_1_method_5_code 1 = .ok (.getfield 18, 3) := by decide +kernel
theorem d_Desk_opn_4 : decode prog_1_method_5_code 4 = .ok (.getfield 92, 3) := by decide +kernel
theorem d_Desk_opn_7 : decode prog_1_method_5_code 7 = .ok (.iconst (-1), 1) := by decide +kernel
theorem d_Desk_opn_8 : decode prog_1_method_5_code 8 = .ok (.if_icmp .ne 6, 3) := by decide +kernel
theorem d_Desk_opn_11 : decode prog_1_method_5_code 11 = .ok (.bipush (-3), 2) := by decide +kernel
theorem d_Desk_opn_13 : decode prog_1_method_5_code 13 = .ok (.ireturn, 1) := by decide +kernel
theorem d_Desk_opn_14 : decode prog_1_method_5_code 14 = .ok (.iload_n 1, 1) := by decide +kernel
theorem d_Desk_opn_15 : decode prog_1_method_5_code 15 = .ok (.iconst 0, 1) := by decide +kernel
theorem d_Desk_opn_16 : decode prog_1_method_5_code 16 = .ok (.bipush 15, 2) := by decide +kernel
theorem d_Desk_opn_18 : decode prog_1_method_5_code 18 = .ok (.invokestatic 54, 3) := by decide +kernel
theorem d_Desk_opn_21 : decode prog_1_method_5_code 21 = .ok (.ifCond .eq 13, 3) := by decide +kernel
theorem d_Desk_opn_24 : decode prog_1_method_5_code 24 = .ok (.iload_n 2, 1) := by decide +kernel
theorem d_Desk_opn_25 : decode prog_1_method_5_code 25 = .ok (.iconst 1, 1) := by decide +kernel
theorem d_Desk_opn_26 : decode prog_1_method_5_code 26 = .ok (.bipush 7, 2) := by decide +kernel
theorem d_Desk_opn_28 : decode prog_1_method_5_code 28 = .ok (.invokestatic 54, 3) := by decide +kernel
theorem d_Desk_opn_31 : decode prog_1_method_5_code 31 = .ok (.ifCond .ne 5, 3) := by decide +kernel
theorem d_Desk_opn_34 : decode prog_1_method_5_code 34 = .ok (.iconst (-1), 1) := by decide +kernel
theorem d_Desk_opn_35 : decode prog_1_method_5_code 35 = .ok (.ireturn, 1) := by decide +kernel
theorem d_Desk_opn_36 : decode prog_1_method_5_code 36 = .ok (.aload_n 0, 1) := by decide +kernel
theorem d_Desk_opn_37 : decode prog_1_method_5_code 37 = .ok (.iload_n 1, 1) := by decide +kernel
theorem d_Desk_opn_38 : decode prog_1_method_5_code 38 = .ok (.invokevirtual 99, 3) := by decide +kernel
theorem d_Desk_opn_41 : decode prog_1_method_5_code 41 = .ok (.istore_n 3, 1) := by decide +kernel
theorem d_Desk_opn_42 : decode prog_1_method_5_code 42 = .ok (.iload_n 3, 1) := by decide +kernel
theorem d_Desk_opn_43 : decode prog_1_method_5_code 43 = .ok (.iconst (-1), 1) := by decide +kernel
theorem d_Desk_opn_44 : decode prog_1_method_5_code 44 = .ok (.if_icmp .ne 6, 3) := by decide +kernel
theorem d_Desk_opn_47 : decode prog_1_method_5_code 47 = .ok (.bipush (-7), 2) := by decide +kernel
theorem d_Desk_opn_49 : decode prog_1_method_5_code 49 = .ok (.ireturn, 1) := by decide +kernel
theorem d_Desk_opn_50 : decode prog_1_method_5_code 50 = .ok (.aload_n 0, 1) := by decide +kernel
theorem d_Desk_opn_51 : decode prog_1_method_5_code 51 = .ok (.invokevirtual 102, 3) := by decide +kernel
theorem d_Desk_opn_54 : decode prog_1_method_5_code 54 = .ok (.astore 4, 2) := by decide +kernel
theorem d_Desk_opn_56 : decode prog_1_method_5_code 56 = .ok (.aload_n 0, 1) := by decide +kernel
theorem d_Desk_opn_57 : decode prog_1_method_5_code 57 = .ok (.getfield 29, 3) := by decide +kernel
theorem d_Desk_opn_60 : decode prog_1_method_5_code 60 = .ok (.iload_n 3, 1) := by decide +kernel
theorem d_Desk_opn_61 : decode prog_1_method_5_code 61 = .ok (.aaload, 1) := by decide +kernel
theorem d_Desk_opn_62 : decode prog_1_method_5_code 62 = .ok (.getfield 124, 3) := by decide +kernel
theorem d_Desk_opn_65 : decode prog_1_method_5_code 65 = .ok (.aload 4, 2) := by decide +kernel
theorem d_Desk_opn_67 : decode prog_1_method_5_code 67 = .ok (.getfield 62, 3) := by decide +kernel
theorem d_Desk_opn_70 : decode prog_1_method_5_code 70 = .ok (.iload_n 2, 1) := by decide +kernel
theorem d_Desk_opn_71 : decode prog_1_method_5_code 71 = .ok (.invokevirtual 128, 3) := by decide +kernel
theorem d_Desk_opn_74 : decode prog_1_method_5_code 74 = .ok (.ifCond .ne 6, 3) := by decide +kernel
theorem d_Desk_opn_77 : decode prog_1_method_5_code 77 = .ok (.bipush (-5), 2) := by decide +kernel
theorem d_Desk_opn_79 : decode prog_1_method_5_code 79 = .ok (.ireturn, 1) := by decide +kernel
theorem d_Desk_opn_80 : decode prog_1_method_5_code 80 = .ok (.aload 4, 2) := by decide +kernel
theorem d_Desk_opn_82 : decode prog_1_method_5_code 82 = .ok (.invokevirtual 106, 3) := by decide +kernel
theorem d_Desk_opn_85 : decode prog_1_method_5_code 85 = .ok (.istore 5, 2) := by decide +kernel
theorem d_Desk_opn_87 : decode prog_1_method_5_code 87 = .ok (.iload 5, 2) := by decide +kernel
theorem d_Desk_opn_89 : decode prog_1_method_5_code 89 = .ok (.iconst (-1), 1) := by decide +kernel
theorem d_Desk_opn_90 : decode prog_1_method_5_code 90 = .ok (.if_icmp .ne 6, 3) := by decide +kernel
theorem d_Desk_opn_93 : decode prog_1_method_5_code 93 = .ok (.bipush (-2), 2) := by decide +kernel
theorem d_Desk_opn_95 : decode prog_1_method_5_code 95 = .ok (.ireturn, 1) := by decide +kernel
theorem d_Desk_opn_96 : decode prog_1_method_5_code 96 = .ok (.aload_n 0, 1) := by decide +kernel
theorem d_Desk_opn_97 : decode prog_1_method_5_code 97 = .ok (.aload 4, 2) := by decide +kernel
theorem d_Desk_opn_99 : decode prog_1_method_5_code 99 = .ok (.iload 5, 2) := by decide +kernel
theorem d_Desk_opn_101 : decode prog_1_method_5_code 101 = .ok (.iload_n 3, 1) := by decide +kernel
theorem d_Desk_opn_102 : decode prog_1_method_5_code 102 = .ok (.iload_n 2, 1) := by decide +kernel
theorem d_Desk_opn_103 : decode prog_1_method_5_code 103 = .ok (.invokevirtual 120, 3) := by decide +kernel
theorem d_Desk_opn_106 : decode prog_1_method_5_code 106 = .ok (.iload 5, 2) := by decide +kernel
theorem d_Desk_opn_108 : decode prog_1_method_5_code 108 = .ok (.ireturn, 1) := by decide +kernel
theorem d_Proc_objectOf_0 : decode prog_3_method_3_code 0 = .ok (.iload_n 1, 1) := by decide +kernel
theorem d_Proc_objectOf_1 : decode prog_3_method_3_code 1 = .ok (.iconst 0, 1) := by decide +kernel
theorem d_Proc_objectOf_2 : decode prog_3_method_3_code 2 = .ok (.bipush 7, 2) := by decide +kernel
theorem d_Proc_objectOf_4 : decode prog_3_method_3_code 4 = .ok (.invokestatic 25, 3) := by decide +kernel
theorem d_Proc_objectOf_7 : decode prog_3_method_3_code 7 = .ok (.ifCond .eq 12, 3) := by decide +kernel
theorem d_Proc_objectOf_10 : decode prog_3_method_3_code 10 = .ok (.aload_n 0, 1) := by decide +kernel
theorem d_Proc_objectOf_11 : decode prog_3_method_3_code 11 = .ok (.getfield 9, 3) := by decide +kernel
theorem d_Proc_objectOf_14 : decode prog_3_method_3_code 14 = .ok (.iload_n 1, 1) := by decide +kernel
theorem d_Proc_objectOf_15 : decode prog_3_method_3_code 15 = .ok (.iaload, 1) := by decide +kernel
theorem d_Proc_objectOf_16 : decode prog_3_method_3_code 16 = .ok (.goto 4, 3) := by decide +kernel
theorem d_Proc_objectOf_19 : decode prog_3_method_3_code 19 = .ok (.iconst (-1), 1) := by decide +kernel
theorem d_Proc_objectOf_20 : decode prog_3_method_3_code 20 = .ok (.ireturn, 1) := by decide +kernel
theorem d_Desk_dropHandle_0 : decode prog_1_method_36_code 0 = .ok (.aload_n 0, 1) := by decide +kernel
theorem d_Desk_dropHandle_1 : decode prog_1_method_36_code 1 = .ok (.getfield 29, 3) := by decide +kernel
theorem d_Desk_dropHandle_4 : decode prog_1_method_36_code 4 = .ok (.aload_n 1, 1) := by decide +kernel
theorem d_Desk_dropHandle_5 : decode prog_1_method_36_code 5 = .ok (.getfield 324, 3) := by decide +kernel
theorem d_Desk_dropHandle_8 : decode prog_1_method_36_code 8 = .ok (.iload_n 2, 1) := by decide +kernel
theorem d_Desk_dropHandle_9 : decode prog_1_method_36_code 9 = .ok (.iaload, 1) := by decide +kernel
theorem d_Desk_dropHandle_10 : decode prog_1_method_36_code 10 = .ok (.aaload, 1) := by decide +kernel
theorem d_Desk_dropHandle_11 : decode prog_1_method_36_code 11 = .ok (.dup, 1) := by decide +kernel
theorem d_Desk_dropHandle_12 : decode prog_1_method_36_code 12 = .ok (.getfield 141, 3) := by decide +kernel
theorem d_Desk_dropHandle_15 : decode prog_1_method_36_code 15 = .ok (.iconst 1, 1) := by decide +kernel
theorem d_Desk_dropHandle_16 : decode prog_1_method_36_code 16 = .ok (.isub, 1) := by decide +kernel
theorem d_Desk_dropHandle_17 : decode prog_1_method_36_code 17 = .ok (.putfield 141, 3) := by decide +kernel
theorem d_Desk_dropHandle_20 : decode prog_1_method_36_code 20 = .ok (.aload_n 1, 1) := by decide +kernel
theorem d_Desk_dropHandle_21 : decode prog_1_method_36_code 21 = .ok (.getfield 324, 3) := by decide +kernel
theorem d_Desk_dropHandle_24 : decode prog_1_method_36_code 24 = .ok (.iload_n 2, 1) := by decide +kernel
theorem d_Desk_dropHandle_25 : decode prog_1_method_36_code 25 = .ok (.iconst (-1), 1) := by decide +kernel
theorem d_Desk_dropHandle_26 : decode prog_1_method_36_code 26 = .ok (.iastore, 1) := by decide +kernel
theorem d_Desk_dropHandle_27 : decode prog_1_method_36_code 27 = .ok (.return_, 1) := by decide +kernel
theorem d_Desk_clse_0 : decode prog_1_method_6_code 0 = .ok (.aload_n 0, 1) := by decide +kernel
theorem d_Desk_clse_1 : decode prog_1_method_6_code 1 = .ok (.getfield 18, 3) := by decide +kernel
theorem d_Desk_clse_4 : decode prog_1_method_6_code 4 = .ok (.getfield 92, 3) := by decide +kernel
theorem d_Desk_clse_7 : decode prog_1_method_6_code 7 = .ok (.iconst (-1), 1) := by decide +kernel
theorem d_Desk_clse_8 : decode prog_1_method_6_code 8 = .ok (.if_icmp .ne 6, 3) := by decide +kernel
theorem d_Desk_clse_11 : decode prog_1_method_6_code 11 = .ok (.bipush (-3), 2) := by decide +kernel
theorem d_Desk_clse_13 : decode prog_1_method_6_code 13 = .ok (.ireturn, 1) := by decide +kernel
theorem d_Desk_clse_14 : decode prog_1_method_6_code 14 = .ok (.aload_n 0, 1) := by decide +kernel
theorem d_Desk_clse_15 : decode prog_1_method_6_code 15 = .ok (.invokevirtual 102, 3) := by decide +kernel
theorem d_Desk_clse_18 : decode prog_1_method_6_code 18 = .ok (.astore_n 2, 1) := by decide +kernel
theorem d_Desk_clse_19 : decode prog_1_method_6_code 19 = .ok (.aload_n 2, 1) := by decide +kernel
theorem d_Desk_clse_20 : decode prog_1_method_6_code 20 = .ok (.iload_n 1, 1) := by decide +kernel
theorem d_Desk_clse_21 : decode prog_1_method_6_code 21 = .ok (.invokevirtual 134, 3) := by decide +kernel
