theorem d_Mod_satisfy_154 : decode prog_10_method_20_code 154 = .ok (.iload 6, 2) := by decide +kernel
theorem d_Mod_satisfy_156 : decode prog_10_method_20_code 156 = .ok (.iadd, 1) := by decide +kernel
theorem d_Mod_satisfy_157 : decode prog_10_method_20_code 157 = .ok (.iaload, 1) := by decide +kernel
theorem d_Mod_satisfy_158 : decode prog_10_method_20_code 158 = .ok (.iload_n 1, 1) := by decide +kernel
theorem d_Mod_satisfy_159 : decode prog_10_method_20_code 159 = .ok (.invokevirtual 200, 3) := by decide +kernel
theorem d_Mod_satisfy_162 : decode prog_10_method_20_code 162 = .ok (.ior, 1) := by decide +kernel
theorem d_Mod_satisfy_163 : decode prog_10_method_20_code 163 = .ok (.istore 5, 2) := by decide +kernel
theorem d_Mod_satisfy_165 : decode prog_10_method_20_code 165 = .ok (.iinc 6 1, 3) := by decide +kernel
theorem d_Mod_satisfy_168 : decode prog_10_method_20_code 168 = .ok (.goto (-44), 3) := by decide +kernel
theorem d_Mod_satisfy_171 : decode prog_10_method_20_code 171 = .ok (.iload 5, 2) := by decide +kernel
theorem d_Mod_satisfy_173 : decode prog_10_method_20_code 173 = .ok (.ireturn, 1) := by decide +kernel
theorem d_Mod_go_0 : decode prog_10_method_21_code 0 = .ok (.aload_n 0, 1) := by decide +kernel
theorem d_Mod_go_1 : decode prog_10_method_21_code 1 = .ok (.getfield 34, 3) := by decide +kernel
theorem d_Mod_go_4 : decode prog_10_method_21_code 4 = .ok (.iload_n 1, 1) := by decide +kernel
theorem d_Mod_go_5 : decode prog_10_method_21_code 5 = .ok (.iload_n 2, 1) := by decide +kernel
theorem d_Mod_go_6 : decode prog_10_method_21_code 6 = .ok (.iastore, 1) := by decide +kernel
theorem d_Mod_go_7 : decode prog_10_method_21_code 7 = .ok (.aload_n 0, 1) := by decide +kernel
theorem d_Mod_go_8 : decode prog_10_method_21_code 8 = .ok (.getfield 49, 3) := by decide +kernel
theorem d_Mod_go_11 : decode prog_10_method_21_code 11 = .ok (.iload_n 1, 1) := by decide +kernel
theorem d_Mod_go_12 : decode prog_10_method_21_code 12 = .ok (.iconst (-1), 1) := by decide +kernel
theorem d_Mod_go_13 : decode prog_10_method_21_code 13 = .ok (.iastore, 1) := by decide +kernel
theorem d_Mod_go_14 : decode prog_10_method_21_code 14 = .ok (.aload_n 0, 1) := by decide +kernel
theorem d_Mod_go_15 : decode prog_10_method_21_code 15 = .ok (.iload_n 1, 1) := by decide +kernel
theorem d_Mod_go_16 : decode prog_10_method_21_code 16 = .ok (.invokevirtual 164, 3) := by decide +kernel
theorem d_Mod_go_19 : decode prog_10_method_21_code 19 = .ok (.return_, 1) := by decide +kernel
theorem d_Mod_waiter_0 : decode prog_10_method_23_code 0 = .ok (.iconst (-1), 1) := by decide +kernel
theorem d_Mod_waiter_1 : decode prog_10_method_23_code 1 = .ok (.istore_n 2, 1) := by decide +kernel
theorem d_Mod_waiter_2 : decode prog_10_method_23_code 2 = .ok (.iconst 0, 1) := by decide +kernel
theorem d_Mod_waiter_3 : decode prog_10_method_23_code 3 = .ok (.istore_n 3, 1) := by decide +kernel
theorem d_Mod_waiter_4 : decode prog_10_method_23_code 4 = .ok (.iload_n 3, 1) := by decide +kernel
theorem d_Mod_waiter_5 : decode prog_10_method_23_code 5 = .ok (.aload_n 0, 1) := by decide +kernel
theorem d_Mod_waiter_6 : decode prog_10_method_23_code 6 = .ok (.getfield 144, 3) := by decide +kernel
theorem d_Mod_waiter_9 : decode prog_10_method_23_code 9 = .ok (.if_icmp .ge 50, 3) := by decide +kernel
theorem d_Mod_waiter_12 : decode prog_10_method_23_code 12 = .ok (.aload_n 0, 1) := by decide +kernel
theorem d_Mod_waiter_13 : decode prog_10_method_23_code 13 = .ok (.getfield 31, 3) := by decide +kernel
theorem d_Mod_waiter_16 : decode prog_10_method_23_code 16 = .ok (.iload_n 3, 1) := by decide +kernel
theorem d_Mod_waiter_17 : decode prog_10_method_23_code 17 = .ok (.iaload, 1) := by decide +kernel
theorem d_Mod_waiter_18 : decode prog_10_method_23_code 18 = .ok (.iconst 2, 1) := by decide +kernel
theorem d_Mod_waiter_19 : decode prog_10_method_23_code 19 = .ok (.if_icmp .ne 34, 3) := by decide +kernel
theorem d_Mod_waiter_22 : decode prog_10_method_23_code 22 = .ok (.aload_n 0, 1) := by decide +kernel
theorem d_Mod_waiter_23 : decode prog_10_method_23_code 23 = .ok (.getfield 55, 3) := by decide +kernel
theorem d_Mod_waiter_26 : decode prog_10_method_23_code 26 = .ok (.iload_n 3, 1) := by decide +kernel
theorem d_Mod_waiter_27 : decode prog_10_method_23_code 27 = .ok (.iaload, 1) := by decide +kernel
theorem d_Mod_waiter_28 : decode prog_10_method_23_code 28 = .ok (.iload_n 1, 1) := by decide +kernel
theorem d_Mod_waiter_29 : decode prog_10_method_23_code 29 = .ok (.if_icmp .le 24, 3) := by decide +kernel
theorem d_Mod_waiter_32 : decode prog_10_method_23_code 32 = .ok (.iload_n 2, 1) := by decide +kernel
theorem d_Mod_waiter_33 : decode prog_10_method_23_code 33 = .ok (.ifCond .lt 18, 3) := by decide +kernel
theorem d_Mod_waiter_36 : decode prog_10_method_23_code 36 = .ok (.aload_n 0, 1) := by decide +kernel
theorem d_Mod_waiter_37 : decode prog_10_method_23_code 37 = .ok (.getfield 55, 3) := by decide +kernel
theorem d_Mod_waiter_40 : decode prog_10_method_23_code 40 = .ok (.iload_n 3, 1) := by decide +kernel
theorem d_Mod_waiter_41 : decode prog_10_method_23_code 41 = .ok (.iaload, 1) := by decide +kernel
theorem d_Mod_waiter_42 : decode prog_10_method_23_code 42 = .ok (.aload_n 0, 1) := by decide +kernel
theorem d_Mod_waiter_43 : decode prog_10_method_23_code 43 = .ok (.getfield 55, 3) := by decide +kernel
theorem d_Mod_waiter_46 : decode prog_10_method_23_code 46 = .ok (.iload_n 2, 1) := by decide +kernel
theorem d_Mod_waiter_47 : decode prog_10_method_23_code 47 = .ok (.iaload, 1) := by decide +kernel
theorem d_Mod_waiter_48 : decode prog_10_method_23_code 48 = .ok (.if_icmp .ge 5, 3) := by decide +kernel
theorem d_Mod_waiter_51 : decode prog_10_method_23_code 51 = .ok (.iload_n 3, 1) := by decide +kernel
theorem d_Mod_waiter_52 : decode prog_10_method_23_code 52 = .ok (.istore_n 2, 1) := by decide +kernel
theorem d_Mod_waiter_53 : decode prog_10_method_23_code 53 = .ok (.iinc 3 1, 3) := by decide +kernel
theorem d_Mod_waiter_56 : decode prog_10_method_23_code 56 = .ok (.goto (-52), 3) := by decide +kernel
theorem d_Mod_waiter_59 : decode prog_10_method_23_code 59 = .ok (.iload_n 2, 1) := by decide +kernel
theorem d_Mod_waiter_60 : decode prog_10_method_23_code 60 = .ok (.ireturn, 1) := by decide +kernel
theorem d_Mod_release_0 : decode prog_10_method_22_code 0 = .ok (.iconst (-1), 1) := by decide +kernel
theorem d_Mod_release_1 : decode prog_10_method_22_code 1 = .ok (.istore_n 1, 1) := by decide +kernel
theorem d_Mod_release_2 : decode prog_10_method_22_code 2 = .ok (.aload_n 0, 1) := by decide +kernel
theorem d_Mod_release_3 : decode prog_10_method_22_code 3 = .ok (.iload_n 1, 1) := by decide +kernel
theorem d_Mod_release_4 : decode prog_10_method_22_code 4 = .ok (.invokevirtual 204, 3) := by decide +kernel
theorem d_Mod_release_7 : decode prog_10_method_22_code 7 = .ok (.istore_n 2, 1) := by decide +kernel
theorem d_Mod_release_8 : decode prog_10_method_22_code 8 = .ok (.iload_n 2, 1) := by decide +kernel
theorem d_Mod_release_9 : decode prog_10_method_22_code 9 = .ok (.ifCond .lt 35, 3) := by decide +kernel
theorem d_Mod_release_12 : decode prog_10_method_22_code 12 = .ok (.aload_n 0, 1) := by decide +kernel
theorem d_Mod_release_13 : decode prog_10_method_22_code 13 = .ok (.getfield 55, 3) := by decide +kernel
theorem d_Mod_release_16 : decode prog_10_method_22_code 16 = .ok (.iload_n 2, 1) := by decide +kernel
theorem d_Mod_release_17 : decode prog_10_method_22_code 17 = .ok (.iaload, 1) := by decide +kernel
theorem d_Mod_release_18 : decode prog_10_method_22_code 18 = .ok (.istore_n 1, 1) := by decide +kernel
theorem d_Mod_release_19 : decode prog_10_method_22_code 19 = .ok (.aload_n 0, 1) := by decide +kernel
theorem d_Mod_release_20 : decode prog_10_method_22_code 20 = .ok (.iload_n 2, 1) := by decide +kernel
theorem d_Mod_release_21 : decode prog_10_method_22_code 21 = .ok (.invokevirtual 207, 3) := by decide +kernel
theorem d_Mod_release_24 : decode prog_10_method_22_code 24 = .ok (.istore_n 3, 1) := by decide +kernel
theorem d_Mod_release_25 : decode prog_10_method_22_code 25 = .ok (.iload_n 3, 1) := by decide +kernel
theorem d_Mod_release_26 : decode prog_10_method_22_code 26 = .ok (.ifCond .lt 9, 3) := by decide +kernel
theorem d_Mod_release_29 : decode prog_10_method_22_code 29 = .ok (.aload_n 0, 1) := by decide +kernel
theorem d_Mod_release_30 : decode prog_10_method_22_code 30 = .ok (.iload_n 2, 1) := by decide +kernel
theorem d_Mod_release_31 : decode prog_10_method_22_code 31 = .ok (.iload_n 3, 1) := by decide +kernel
theorem d_Mod_release_32 : decode prog_10_method_22_code 32 = .ok (.invokevirtual 210, 3) := by decide +kernel
theorem d_Mod_release_35 : decode prog_10_method_22_code 35 = .ok (.aload_n 0, 1) := by decide +kernel
theorem d_Mod_release_36 : decode prog_10_method_22_code 36 = .ok (.iload_n 1, 1) := by decide +kernel
theorem d_Mod_release_37 : decode prog_10_method_22_code 37 = .ok (.invokevirtual 204, 3) := by decide +kernel
theorem d_Mod_release_40 : decode prog_10_method_22_code 40 = .ok (.istore_n 2, 1) := by decide +kernel
theorem d_Mod_release_41 : decode prog_10_method_22_code 41 = .ok (.goto (-33), 3) := by decide +kernel
theorem d_Mod_release_44 : decode prog_10_method_22_code 44 = .ok (.return_, 1) := by decide +kernel
theorem d_Mod_signal_0 : decode prog_10_method_24_code 0 = .ok (.aload_n 0, 1) := by decide +kernel
theorem d_Mod_signal_1 : decode prog_10_method_24_code 1 = .ok (.getfield 71, 3) := by decide +kernel
theorem d_Mod_signal_4 : decode prog_10_method_24_code 4 = .ok (.iload_n 1, 1) := by decide +kernel
theorem d_Mod_signal_5 : decode prog_10_method_24_code 5 = .ok (.iconst 1, 1) := by decide +kernel
theorem d_Mod_signal_6 : decode prog_10_method_24_code 6 = .ok (.bastore, 1) := by decide +kernel
theorem d_Mod_signal_7 : decode prog_10_method_24_code 7 = .ok (.aload_n 0, 1) := by decide +kernel
theorem d_Mod_signal_8 : decode prog_10_method_24_code 8 = .ok (.invokevirtual 214, 3) := by decide +kernel
theorem d_Mod_signal_11 : decode prog_10_method_24_code 11 = .ok (.return_, 1) := by decide +kernel
theorem d_Mod_deliver_0 : decode prog_10_method_25_code 0 = .ok (.aload_n 0, 1) := by decide +kernel
theorem d_Mod_deliver_1 : decode prog_10_method_25_code 1 = .ok (.getfield 37, 3) := by decide +kernel
theorem d_Mod_deliver_4 : decode prog_10_method_25_code 4 = .ok (.iload_n 1, 1) := by decide +kernel
theorem d_Mod_deliver_5 : decode prog_10_method_25_code 5 = .ok (.iaload, 1) := by decide +kernel
theorem d_Mod_deliver_6 : decode prog_10_method_25_code 6 = .ok (.ifCond .ne 4, 3) := by decide +kernel
theorem d_Mod_deliver_9 : decode prog_10_method_25_code 9 = .ok (.return_, 1) := by decide +kernel
theorem d_Mod_deliver_10 : decode prog_10_method_25_code 10 = .ok (.aload_n 0, 1) := by decide +kernel
theorem d_Mod_deliver_11 : decode prog_10_method_25_code 11 = .ok (.getfield 40, 3) := by decide +kernel
theorem d_Mod_deliver_14 : decode prog_10_method_25_code 14 = .ok (.iload_n 1, 1) := by decide +kernel
theorem d_Mod_deliver_15 : decode prog_10_method_25_code 15 = .ok (.dup2, 1) := by decide +kernel
theorem d_Mod_deliver_16 : decode prog_10_method_25_code 16 = .ok (.iaload, 1) := by decide +kernel
theorem d_Mod_deliver_17 : decode prog_10_method_25_code 17 = .ok (.aload_n 0, 1) := by decide +kernel
theorem d_Mod_deliver_18 : decode prog_10_method_25_code 18 = .ok (.getfield 37, 3) := by decide +kernel
theorem d_Mod_deliver_21 : decode prog_10_method_25_code 21 = .ok (.iload_n 1, 1) := by decide +kernel
theorem d_Mod_deliver_22 : decode prog_10_method_25_code 22 = .ok (.iaload, 1) := by decide +kernel
theorem d_Mod_deliver_23 : decode prog_10_method_25_code 23 = .ok (.iadd, 1) := by decide +kernel
theorem d_Mod_deliver_24 : decode prog_10_method_25_code 24 = .ok (.iastore, 1) := by decide +kernel
theorem d_Mod_deliver_25 : decode prog_10_method_25_code 25 = .ok (.aload_n 0, 1) := by decide +kernel
theorem d_Mod_deliver_26 : decode prog_10_method_25_code 26 = .ok (.getfield 43, 3) := by decide +kernel
theorem d_Mod_deliver_29 : decode prog_10_method_25_code 29 = .ok (.iload_n 1, 1) := by decide +kernel
theorem d_Mod_deliver_30 : decode prog_10_method_25_code 30 = .ok (.aload_n 0, 1) := by decide +kernel
theorem d_Mod_deliver_31 : decode prog_10_method_25_code 31 = .ok (.getfield 64, 3) := by decide +kernel
theorem d_Mod_deliver_34 : decode prog_10_method_25_code 34 = .ok (.iconst 4, 1) := by decide +kernel
theorem d_Mod_deliver_35 : decode prog_10_method_25_code 35 = .ok (.iload_n 1, 1) := by decide +kernel
theorem d_Mod_deliver_36 : decode prog_10_method_25_code 36 = .ok (.imul, 1) := by decide +kernel
theorem d_Mod_deliver_37 : decode prog_10_method_25_code 37 = .ok (.aload_n 0, 1) := by decide +kernel
theorem d_Mod_deliver_38 : decode prog_10_method_25_code 38 = .ok (.getfield 37, 3) := by decide +kernel
theorem d_Mod_deliver_41 : decode prog_10_method_25_code 41 = .ok (.iload_n 1, 1) := by decide +kernel
theorem d_Mod_deliver_42 : decode prog_10_method_25_code 42 = .ok (.iaload, 1) := by decide +kernel
theorem d_Mod_deliver_43 : decode prog_10_method_25_code 43 = .ok (.iadd, 1) := by decide +kernel
theorem d_Mod_deliver_44 : decode prog_10_method_25_code 44 = .ok (.iconst 1, 1) := by decide +kernel
theorem d_Mod_deliver_45 : decode prog_10_method_25_code 45 = .ok (.isub, 1) := by decide +kernel
theorem d_Mod_deliver_46 : decode prog_10_method_25_code 46 = .ok (.iaload, 1) := by decide +kernel
theorem d_Mod_deliver_47 : decode prog_10_method_25_code 47 = .ok (.iastore, 1) := by decide +kernel
theorem d_Mod_deliver_48 : decode prog_10_method_25_code 48 = .ok (.aload_n 0, 1) := by decide +kernel
theorem d_Mod_deliver_49 : decode prog_10_method_25_code 49 = .ok (.getfield 37, 3) := by decide +kernel
theorem d_Mod_deliver_52 : decode prog_10_method_25_code 52 = .ok (.iload_n 1, 1) := by decide +kernel
theorem d_Mod_deliver_53 : decode prog_10_method_25_code 53 = .ok (.iconst 0, 1) := by decide +kernel
theorem d_Mod_deliver_54 : decode prog_10_method_25_code 54 = .ok (.iastore, 1) := by decide +kernel
theorem d_Mod_deliver_55 : decode prog_10_method_25_code 55 = .ok (.return_, 1) := by decide +kernel
theorem d_Mod_alert_0 : decode prog_10_method_26_code 0 = .ok (.aload_n 0, 1) := by decide +kernel
theorem d_Mod_alert_1 : decode prog_10_method_26_code 1 = .ok (.getfield 31, 3) := by decide +kernel
theorem d_Mod_alert_4 : decode prog_10_method_26_code 4 = .ok (.iload_n 1, 1) := by decide +kernel
theorem d_Mod_alert_5 : decode prog_10_method_26_code 5 = .ok (.iaload, 1) := by decide +kernel
theorem d_Mod_alert_6 : decode prog_10_method_26_code 6 = .ok (.iconst 2, 1) := by decide +kernel
theorem d_Mod_alert_7 : decode prog_10_method_26_code 7 = .ok (.if_icmp .ne 30, 3) := by decide +kernel
theorem d_Mod_alert_10 : decode prog_10_method_26_code 10 = .ok (.aload_n 0, 1) := by decide +kernel
theorem d_Mod_alert_11 : decode prog_10_method_26_code 11 = .ok (.getfield 52, 3) := by decide +kernel
theorem d_Mod_alert_14 : decode prog_10_method_26_code 14 = .ok (.iload_n 1, 1) := by decide +kernel
theorem d_Mod_alert_15 : decode prog_10_method_26_code 15 = .ok (.iaload, 1) := by decide +kernel
theorem d_Mod_alert_16 : decode prog_10_method_26_code 16 = .ok (.iconst 2, 1) := by decide +kernel
theorem d_Mod_alert_17 : decode prog_10_method_26_code 17 = .ok (.if_icmp .lt 20, 3) := by decide +kernel
theorem d_Mod_alert_20 : decode prog_10_method_26_code 20 = .ok (.aload_n 0, 1) := by decide +kernel
theorem d_Mod_alert_21 : decode prog_10_method_26_code 21 = .ok (.getfield 37, 3) := by decide +kernel
theorem d_Mod_alert_24 : decode prog_10_method_26_code 24 = .ok (.iload_n 1, 1) := by decide +kernel
theorem d_Mod_alert_25 : decode prog_10_method_26_code 25 = .ok (.iaload, 1) := by decide +kernel
theorem d_Mod_alert_26 : decode prog_10_method_26_code 26 = .ok (.ifCond .eq 11, 3) := by decide +kernel
theorem d_Mod_alert_29 : decode prog_10_method_26_code 29 = .ok (.aload_n 0, 1) := by decide +kernel
theorem d_Mod_alert_30 : decode prog_10_method_26_code 30 = .ok (.getfield 177, 3) := by decide +kernel
theorem d_Mod_alert_33 : decode prog_10_method_26_code 33 = .ok (.iconst 1, 1) := by decide +kernel
theorem d_Mod_alert_34 : decode prog_10_method_26_code 34 = .ok (.if_icmp .ne 4, 3) := by decide +kernel
theorem d_Mod_alert_37 : decode prog_10_method_26_code 37 = .ok (.return_, 1) := by decide +kernel
theorem d_Mod_alert_38 : decode prog_10_method_26_code 38 = .ok (.aload_n 0, 1) := by decide +kernel
theorem d_Mod_alert_39 : decode prog_10_method_26_code 39 = .ok (.iload_n 1, 1) := by decide +kernel
theorem d_Mod_alert_40 : decode prog_10_method_26_code 40 = .ok (.bipush (-12), 2) := by decide +kernel
theorem d_Mod_alert_42 : decode prog_10_method_26_code 42 = .ok (.invokevirtual 210, 3) := by decide +kernel
theorem d_Mod_alert_45 : decode prog_10_method_26_code 45 = .ok (.aload_n 0, 1) := by decide +kernel
theorem d_Mod_alert_46 : decode prog_10_method_26_code 46 = .ok (.iload_n 1, 1) := by decide +kernel
theorem d_Mod_alert_47 : decode prog_10_method_26_code 47 = .ok (.invokevirtual 217, 3) := by decide +kernel
theorem d_Mod_alert_50 : decode prog_10_method_26_code 50 = .ok (.return_, 1) := by decide +kernel
theorem d_Mod_await_0 : decode prog_10_method_27_code 0 = .ok (.aload_n 0, 1) := by decide +kernel
theorem d_Mod_await_1 : decode prog_10_method_27_code 1 = .ok (.getfield 137, 3) := by decide +kernel
theorem d_Mod_await_4 : decode prog_10_method_27_code 4 = .ok (.ifCond .ge 6, 3) := by decide +kernel
theorem d_Mod_await_7 : decode prog_10_method_27_code 7 = .ok (.bipush (-3), 2) := by decide +kernel
theorem d_Mod_await_9 : decode prog_10_method_27_code 9 = .ok (.ireturn, 1) := by decide +kernel
theorem d_Mod_await_10 : decode prog_10_method_27_code 10 = .ok (.aload_n 0, 1) := by decide +kernel
theorem d_Mod_await_11 : decode prog_10_method_27_code 11 = .ok (.getfield 177, 3) := by decide +kernel
theorem d_Mod_await_14 : decode prog_10_method_27_code 14 = .ok (.iconst 1, 1) := by decide +kernel
theorem d_Mod_await_15 : decode prog_10_method_27_code 15 = .ok (.if_icmp .ne 6, 3) := by decide +kernel
theorem d_Mod_await_18 : decode prog_10_method_27_code 18 = .ok (.bipush (-4), 2) := by decide +kernel
theorem d_Mod_await_20 : decode prog_10_method_27_code 20 = .ok (.ireturn, 1) := by decide +kernel
theorem d_Mod_await_21 : decode prog_10_method_27_code 21 = .ok (.iload_n 2, 1) := by decide +kernel
theorem d_Mod_await_22 : decode prog_10_method_27_code 22 = .ok (.iconst (-1), 1) := by decide +kernel
theorem d_Mod_await_23 : decode prog_10_method_27_code 23 = .ok (.if_icmp .eq 7, 3) := by decide +kernel
theorem d_Mod_await_26 : decode prog_10_method_27_code 26 = .ok (.iconst 1, 1) := by decide +kernel
theorem d_Mod_await_27 : decode prog_10_method_27_code 27 = .ok (.goto 4, 3) := by decide +kernel
theorem d_Mod_await_30 : decode prog_10_method_27_code 30 = .ok (.iconst 0, 1) := by decide +kernel
theorem d_Mod_await_31 : decode prog_10_method_27_code 31 = .ok (.istore 6, 2) := by decide +kernel
theorem d_Mod_await_33 : decode prog_10_method_27_code 33 = .ok (.iload_n 3, 1) := by decide +kernel
theorem d_Mod_await_34 : decode prog_10_method_27_code 34 = .ok (.iconst (-1), 1) := by decide +kernel
theorem d_Mod_await_35 : decode prog_10_method_27_code 35 = .ok (.if_icmp .eq 7, 3) := by decide +kernel
theorem d_Mod_await_38 : decode prog_10_method_27_code 38 = .ok (.iconst 1, 1) := by decide +kernel
theorem d_Mod_await_39 : decode prog_10_method_27_code 39 = .ok (.goto 4, 3) := by decide +kernel
theorem d_Mod_await_42 : decode prog_10_method_27_code 42 = .ok (.iconst 0, 1) := by decide +kernel
theorem d_Mod_await_43 : decode prog_10_method_27_code 43 = .ok (.istore 7, 2) := by decide +kernel
theorem d_Mod_await_45 : decode prog_10_method_27_code 45 = .ok (.iload 4, 2) := by decide +kernel
theorem d_Mod_await_47 : decode prog_10_method_27_code 47 = .ok (.iconst 0, 1) := by decide +kernel
theorem d_Mod_await_48 : decode prog_10_method_27_code 48 = .ok (.iconst 3, 1) := by decide +kernel
theorem d_Mod_await_49 : decode prog_10_method_27_code 49 = .ok (.invokestatic 157, 3) := by decide +kernel
theorem d_Mod_await_52 : decode prog_10_method_27_code 52 = .ok (.ifCond .eq 48, 3) := by decide +kernel
theorem d_Mod_await_55 : decode prog_10_method_27_code 55 = .ok (.iload 5, 2) := by decide +kernel
theorem d_Mod_await_57 : decode prog_10_method_27_code 57 = .ok (.iconst (-1), 1) := by decide +kernel
theorem d_Mod_await_58 : decode prog_10_method_27_code 58 = .ok (.bipush 99, 2) := by decide +kernel
theorem d_Mod_await_60 : decode prog_10_method_27_code 60 = .ok (.invokestatic 157, 3) := by decide +kernel
theorem d_Mod_await_63 : decode prog_10_method_27_code 63 = .ok (.ifCond .eq 37, 3) := by decide +kernel
theorem d_Mod_await_66 : decode prog_10_method_27_code 66 = .ok (.aload_n 0, 1) := by decide +kernel
theorem d_Mod_await_67 : decode prog_10_method_27_code 67 = .ok (.iload_n 1, 1) := by decide +kernel
theorem d_Mod_await_68 : decode prog_10_method_27_code 68 = .ok (.invokevirtual 220, 3) := by decide +kernel
theorem d_Mod_await_71 : decode prog_10_method_27_code 71 = .ok (.ifCond .eq 29, 3) := by decide +kernel
theorem d_Mod_await_74 : decode prog_10_method_27_code 74 = .ok (.iload 6, 2) := by decide +kernel
theorem d_Mod_await_76 : decode prog_10_method_27_code 76 = .ok (.ifCond .eq 11, 3) := by decide +kernel
theorem d_Mod_await_79 : decode prog_10_method_27_code 79 = .ok (.aload_n 0, 1) := by decide +kernel
theorem d_Mod_await_80 : decode prog_10_method_27_code 80 = .ok (.iload_n 2, 1) := by decide +kernel
theorem d_Mod_await_81 : decode prog_10_method_27_code 81 = .ok (.invokevirtual 220, 3) := by decide +kernel
theorem d_Mod_await_84 : decode prog_10_method_27_code 84 = .ok (.ifCond .eq 16, 3) := by decide +kernel
theorem d_Mod_await_87 : decode prog_10_method_27_code 87 = .ok (.iload 7, 2) := by decide +kernel
theorem d_Mod_await_89 : decode prog_10_method_27_code 89 = .ok (.ifCond .eq 13, 3) := by decide +kernel
theorem d_Mod_await_92 : decode prog_10_method_27_code 92 = .ok (.aload_n 0, 1) := by decide +kernel
theorem d_Mod_await_93 : decode prog_10_method_27_code 93 = .ok (.iload_n 3, 1) := by decide +kernel
theorem d_Mod_await_94 : decode prog_10_method_27_code 94 = .ok (.invokevirtual 220, 3) := by decide +kernel
theorem d_Mod_await_97 : decode prog_10_method_27_code 97 = .ok (.ifCond .ne 5, 3) := by decide +kernel
theorem d_Mod_await_100 : decode prog_10_method_27_code 100 = .ok (.iconst (-1), 1) := by decide +kernel
theorem d_Mod_await_101 : decode prog_10_method_27_code 101 = .ok (.ireturn, 1) := by decide +kernel
theorem d_Mod_await_102 : decode prog_10_method_27_code 102 = .ok (.aload_n 0, 1) := by decide +kernel
theorem d_Mod_await_103 : decode prog_10_method_27_code 103 = .ok (.getfield 137, 3) := by decide +kernel
theorem d_Mod_await_106 : decode prog_10_method_27_code 106 = .ok (.istore 8, 2) := by decide +kernel
theorem d_Mod_await_108 : decode prog_10_method_27_code 108 = .ok (.aload_n 0, 1) := by decide +kernel
theorem d_Mod_await_109 : decode prog_10_method_27_code 109 = .ok (.iload_n 1, 1) := by decide +kernel
theorem d_Mod_await_110 : decode prog_10_method_27_code 110 = .ok (.invokevirtual 224, 3) := by decide +kernel
theorem d_Mod_await_113 : decode prog_10_method_27_code 113 = .ok (.istore 9, 2) := by decide +kernel
theorem d_Mod_await_115 : decode prog_10_method_27_code 115 = .ok (.iload 6, 2) := by decide +kernel
theorem d_Mod_await_117 : decode prog_10_method_27_code 117 = .ok (.ifCond .eq 11, 3) := by decide +kernel
theorem d_Mod_await_120 : decode prog_10_method_27_code 120 = .ok (.aload_n 0, 1) := by decide +kernel
theorem d_Mod_await_121 : decode prog_10_method_27_code 121 = .ok (.iload_n 2, 1) := by decide +kernel
theorem d_Mod_await_122 : decode prog_10_method_27_code 122 = .ok (.invokevirtual 224, 3) := by decide +kernel
theorem d_Mod_await_125 : decode prog_10_method_27_code 125 = .ok (.goto 4, 3) := by decide +kernel
theorem d_Mod_await_128 : decode prog_10_method_27_code 128 = .ok (.iconst (-1), 1) := by decide +kernel
theorem d_Mod_await_129 : decode prog_10_method_27_code 129 = .ok (.istore 10, 2) := by decide +kernel
theorem d_Mod_await_131 : decode prog_10_method_27_code 131 = .ok (.iload 7, 2) := by decide +kernel
theorem d_Mod_await_133 : decode prog_10_method_27_code 133 = .ok (.ifCond .eq 11, 3) := by decide +kernel
theorem d_Mod_await_136 : decode prog_10_method_27_code 136 = .ok (.aload_n 0, 1) := by decide +kernel
theorem d_Mod_await_137 : decode prog_10_method_27_code 137 = .ok (.iload_n 3, 1) := by decide +kernel
theorem d_Mod_await_138 : decode prog_10_method_27_code 138 = .ok (.invokevirtual 224, 3) := by decide +kernel
theorem d_Mod_await_141 : decode prog_10_method_27_code 141 = .ok (.goto 5, 3) := by decide +kernel
theorem d_Mod_await_144 : decode prog_10_method_27_code 144 = .ok (.bipush (-2), 2) := by decide +kernel
theorem d_Mod_await_146 : decode prog_10_method_27_code 146 = .ok (.istore 11, 2) := by decide +kernel
theorem d_Mod_await_148 : decode prog_10_method_27_code 148 = .ok (.aload_n 0, 1) := by decide +kernel
theorem d_Mod_await_149 : decode prog_10_method_27_code 149 = .ok (.getfield 77, 3) := by decide +kernel
theorem d_Mod_await_152 : decode prog_10_method_27_code 152 = .ok (.iload 9, 2) := by decide +kernel
theorem d_Mod_await_154 : decode prog_10_method_27_code 154 = .ok (.iaload, 1) := by decide +kernel
theorem d_Mod_await_155 : decode prog_10_method_27_code 155 = .ok (.iconst 5, 1) := by decide +kernel
theorem d_Mod_await_156 : decode prog_10_method_27_code 156 = .ok (.if_icmp .eq 56, 3) := by decide +kernel
theorem d_Mod_await_159 : decode prog_10_method_27_code 159 = .ok (.iload 6, 2) := by decide +kernel
theorem d_Mod_await_161 : decode prog_10_method_27_code 161 = .ok (.ifCond .eq 14, 3) := by decide +kernel
theorem d_Mod_await_164 : decode prog_10_method_27_code 164 = .ok (.aload_n 0, 1) := by decide +kernel
theorem d_Mod_await_165 : decode prog_10_method_27_code 165 = .ok (.getfield 77, 3) := by decide +kernel
theorem d_Mod_await_168 : decode prog_10_method_27_code 168 = .ok (.iload 10, 2) := by decide +kernel
theorem d_Mod_await_170 : decode prog_10_method_27_code 170 = .ok (.iaload, 1) := by decide +kernel
theorem d_Mod_await_171 : decode prog_10_method_27_code 171 = .ok (.iconst 5, 1) := by decide +kernel
theorem d_Mod_await_172 : decode prog_10_method_27_code 172 = .ok (.if_icmp .eq 40, 3) := by decide +kernel
theorem d_Mod_await_175 : decode prog_10_method_27_code 175 = .ok (.iload 7, 2) := by decide +kernel
theorem d_Mod_await_177 : decode prog_10_method_27_code 177 = .ok (.ifCond .eq 14, 3) := by decide +kernel
theorem d_Mod_await_180 : decode prog_10_method_27_code 180 = .ok (.aload_n 0, 1) := by decide +kernel
theorem d_Mod_await_181 : decode prog_10_method_27_code 181 = .ok (.getfield 77, 3) := by decide +kernel
theorem d_Mod_await_184 : decode prog_10_method_27_code 184 = .ok (.iload 11, 2) := by decide +kernel
theorem d_Mod_await_186 : decode prog_10_method_27_code 186 = .ok (.iaload, 1) := by decide +kernel
theorem d_Mod_await_187 : decode prog_10_method_27_code 187 = .ok (.iconst 5, 1) := by decide +kernel
theorem d_Mod_await_188 : decode prog_10_method_27_code 188 = .ok (.if_icmp .eq 24, 3) := by decide +kernel
theorem d_Mod_await_191 : decode prog_10_method_27_code 191 = .ok (.iload 9, 2) := by decide +kernel
theorem d_Mod_await_193 : decode prog_10_method_27_code 193 = .ok (.iload 10, 2) := by decide +kernel
theorem d_Mod_await_195 : decode prog_10_method_27_code 195 = .ok (.if_icmp .eq 17, 3) := by decide +kernel
theorem d_Mod_await_198 : decode prog_10_method_27_code 198 = .ok (.iload 9, 2) := by decide +kernel
theorem d_Mod_await_200 : decode prog_10_method_27_code 200 = .ok (.iload 11, 2) := by decide +kernel
theorem d_Mod_await_202 : decode prog_10_method_27_code 202 = .ok (.if_icmp .eq 10, 3) := by decide +kernel
theorem d_Mod_await_205 : decode prog_10_method_27_code 205 = .ok (.iload 10, 2) := by decide +kernel
theorem d_Mod_await_207 : decode prog_10_method_27_code 207 = .ok (.iload 11, 2) := by decide +kernel
theorem d_Mod_await_209 : decode prog_10_method_27_code 209 = .ok (.if_icmp .ne 5, 3) := by decide +kernel
theorem d_Mod_await_212 : decode prog_10_method_27_code 212 = .ok (.iconst (-1), 1) := by decide +kernel
theorem d_Mod_await_213 : decode prog_10_method_27_code 213 = .ok (.ireturn, 1) := by decide +kernel
theorem d_Mod_await_214 : decode prog_10_method_27_code 214 = .ok (.aload_n 0, 1) := by decide +kernel
theorem d_Mod_await_215 : decode prog_10_method_27_code 215 = .ok (.iload_n 1, 1) := by decide +kernel
theorem d_Mod_await_216 : decode prog_10_method_27_code 216 = .ok (.iconst 4, 1) := by decide +kernel
theorem d_Mod_await_217 : decode prog_10_method_27_code 217 = .ok (.invokevirtual 227, 3) := by decide +kernel
theorem d_Mod_await_220 : decode prog_10_method_27_code 220 = .ok (.ifCond .ne 31, 3) := by decide +kernel
theorem d_Mod_await_223 : decode prog_10_method_27_code 223 = .ok (.iload 6, 2) := by decide +kernel
theorem d_Mod_await_225 : decode prog_10_method_27_code 225 = .ok (.ifCond .eq 12, 3) := by decide +kernel
theorem d_Mod_await_228 : decode prog_10_method_27_code 228 = .ok (.aload_n 0, 1) := by decide +kernel
theorem d_Mod_await_229 : decode prog_10_method_27_code 229 = .ok (.iload_n 2, 1) := by decide +kernel
theorem d_Mod_await_230 : decode prog_10_method_27_code 230 = .ok (.iconst 4, 1) := by decide +kernel
theorem d_Mod_await_231 : decode prog_10_method_27_code 231 = .ok (.invokevirtual 227, 3) := by decide +kernel
theorem d_Mod_await_234 : decode prog_10_method_27_code 234 = .ok (.ifCond .ne 17, 3) := by decide +kernel
theorem d_Mod_await_237 : decode prog_10_method_27_code 237 = .ok (.iload 7, 2) := by decide +kernel
theorem d_Mod_await_239 : decode prog_10_method_27_code 239 = .ok (.ifCond .eq 15, 3) := by decide +kernel
theorem d_Mod_await_242 : decode prog_10_method_27_code 242 = .ok (.aload_n 0, 1) := by decide +kernel
theorem d_Mod_await_243 : decode prog_10_method_27_code 243 = .ok (.iload_n 3, 1) := by decide +kernel
theorem d_Mod_await_244 : decode prog_10_method_27_code 244 = .ok (.iconst 4, 1) := by decide +kernel
theorem d_Mod_await_245 : decode prog_10_method_27_code 245 = .ok (.invokevirtual 227, 3) := by decide +kernel
theorem d_Mod_await_248 : decode prog_10_method_27_code 248 = .ok (.ifCond .eq 6, 3) := by decide +kernel
theorem d_Mod_await_251 : decode prog_10_method_27_code 251 = .ok (.bipush (-5), 2) := by decide +kernel
theorem d_Mod_await_253 : decode prog_10_method_27_code 253 = .ok (.ireturn, 1) := by decide +kernel
theorem d_Mod_await_254 : decode prog_10_method_27_code 254 = .ok (.iload 4, 2) := by decide +kernel
theorem d_Mod_await_256 : decode prog_10_method_27_code 256 = .ok (.iconst 1, 1) := by decide +kernel
theorem d_Mod_await_257 : decode prog_10_method_27_code 257 = .ok (.if_icmp .le 26, 3) := by decide +kernel
theorem d_Mod_await_260 : decode prog_10_method_27_code 260 = .ok (.aload_n 0, 1) := by decide +kernel
theorem d_Mod_await_261 : decode prog_10_method_27_code 261 = .ok (.getfield 37, 3) := by decide +kernel
theorem d_Mod_await_264 : decode prog_10_method_27_code 264 = .ok (.iload 8, 2) := by decide +kernel
theorem d_Mod_await_266 : decode prog_10_method_27_code 266 = .ok (.iaload, 1) := by decide +kernel
theorem d_Mod_await_267 : decode prog_10_method_27_code 267 = .ok (.ifCond .le 16, 3) := by decide +kernel
theorem d_Mod_await_270 : decode prog_10_method_27_code 270 = .ok (.aload_n 0, 1) := by decide +kernel
theorem d_Mod_await_271 : decode prog_10_method_27_code 271 = .ok (.iload 8, 2) := by decide +kernel
theorem d_Mod_await_273 : decode prog_10_method_27_code 273 = .ok (.invokevirtual 217, 3) := by decide +kernel
theorem d_Mod_await_276 : decode prog_10_method_27_code 276 = .ok (.aload_n 0, 1) := by decide +kernel
theorem d_Mod_await_277 : decode prog_10_method_27_code 277 = .ok (.bipush (-12), 2) := by decide +kernel
theorem d_Mod_await_279 : decode prog_10_method_27_code 279 = .ok (.invokevirtual 168, 3) := by decide +kernel
theorem d_Mod_await_282 : decode prog_10_method_27_code 282 = .ok (.ireturn, 1) := by decide +kernel
theorem d_Mod_await_283 : decode prog_10_method_27_code 283 = .ok (.aload_n 0, 1) := by decide +kernel
theorem d_Mod_await_284 : decode prog_10_method_27_code 284 = .ok (.getfield 61, 3) := by decide +kernel
theorem d_Mod_await_287 : decode prog_10_method_27_code 287 = .ok (.iconst 3, 1) := by decide +kernel
theorem d_Mod_await_288 : decode prog_10_method_27_code 288 = .ok (.iload 8, 2) := by decide +kernel
theorem d_Mod_await_290 : decode prog_10_method_27_code 290 = .ok (.imul, 1) := by decide +kernel
theorem d_Mod_await_291 : decode prog_10_method_27_code 291 = .ok (.iload 9, 2) := by decide +kernel
theorem d_Mod_await_293 : decode prog_10_method_27_code 293 = .ok (.iastore, 1) := by decide +kernel
theorem d_Mod_await_294 : decode prog_10_method_27_code 294 = .ok (.aload_n 0, 1) := by decide +kernel
theorem d_Mod_await_295 : decode prog_10_method_27_code 295 = .ok (.getfield 61, 3) := by decide +kernel
theorem d_Mod_await_298 : decode prog_10_method_27_code 298 = .ok (.iconst 3, 1) := by decide +kernel
theorem d_Mod_await_299 : decode prog_10_method_27_code 299 = .ok (.iload 8, 2) := by decide +kernel
theorem d_Mod_await_301 : decode prog_10_method_27_code 301 = .ok (.imul, 1) := by decide +kernel
theorem d_Mod_await_302 : decode prog_10_method_27_code 302 = .ok (.iconst 1, 1) := by decide +kernel
theorem d_Mod_await_303 : decode prog_10_method_27_code 303 = .ok (.iadd, 1) := by decide +kernel
theorem d_Mod_await_304 : decode prog_10_method_27_code 304 = .ok (.iload 10, 2) := by decide +kernel
theorem d_Mod_await_306 : decode prog_10_method_27_code 306 = .ok (.iastore, 1) := by decide +kernel
theorem d_Mod_await_307 : decode prog_10_method_27_code 307 = .ok (.aload_n 0, 1) := by decide +kernel
theorem d_Mod_await_308 : decode prog_10_method_27_code 308 = .ok (.getfield 61, 3) := by decide +kernel
theorem d_Mod_await_311 : decode prog_10_method_27_code 311 = .ok (.iconst 3, 1) := by decide +kernel
theorem d_Mod_await_312 : decode prog_10_method_27_code 312 = .ok (.iload 8, 2) := by decide +kernel
theorem d_Mod_await_314 : decode prog_10_method_27_code 314 = .ok (.imul, 1) := by decide +kernel
theorem d_Mod_await_315 : decode prog_10_method_27_code 315 = .ok (.iconst 2, 1) := by decide +kernel
theorem d_Mod_await_316 : decode prog_10_method_27_code 316 = .ok (.iadd, 1) := by decide +kernel
theorem d_Mod_await_317 : decode prog_10_method_27_code 317 = .ok (.iload 7, 2) := by decide +kernel
theorem d_Mod_await_319 : decode prog_10_method_27_code 319 = .ok (.ifCond .eq 8, 3) := by decide +kernel
theorem d_Mod_await_322 : decode prog_10_method_27_code 322 = .ok (.iload 11, 2) := by decide +kernel
theorem d_Mod_await_324 : decode prog_10_method_27_code 324 = .ok (.goto 4, 3) := by decide +kernel
theorem d_Mod_await_327 : decode prog_10_method_27_code 327 = .ok (.iconst (-1), 1) := by decide +kernel
theorem d_Mod_await_328 : decode prog_10_method_27_code 328 = .ok (.iastore, 1) := by decide +kernel
theorem d_Mod_await_329 : decode prog_10_method_27_code 329 = .ok (.aload_n 0, 1) := by decide +kernel
theorem d_Mod_await_330 : decode prog_10_method_27_code 330 = .ok (.getfield 52, 3) := by decide +kernel
theorem d_Mod_await_333 : decode prog_10_method_27_code 333 = .ok (.iload 8, 2) := by decide +kernel
theorem d_Mod_await_335 : decode prog_10_method_27_code 335 = .ok (.iload 4, 2) := by decide +kernel
theorem d_Mod_await_337 : decode prog_10_method_27_code 337 = .ok (.iastore, 1) := by decide +kernel
theorem d_Mod_await_338 : decode prog_10_method_27_code 338 = .ok (.aload_n 0, 1) := by decide +kernel
theorem d_Mod_await_339 : decode prog_10_method_27_code 339 = .ok (.iload 8, 2) := by decide +kernel
theorem d_Mod_await_341 : decode prog_10_method_27_code 341 = .ok (.invokevirtual 207, 3) := by decide +kernel
theorem d_Mod_await_344 : decode prog_10_method_27_code 344 = .ok (.istore 12, 2) := by decide +kernel
theorem d_Mod_await_346 : decode prog_10_method_27_code 346 = .ok (.iload 12, 2) := by decide +kernel
theorem d_Mod_await_348 : decode prog_10_method_27_code 348 = .ok (.ifCond .ge 8, 3) := by decide +kernel
theorem d_Mod_await_351 : decode prog_10_method_27_code 351 = .ok (.iload 5, 2) := by decide +kernel
theorem d_Mod_await_353 : decode prog_10_method_27_code 353 = .ok (.ifCond .ne 20, 3) := by decide +kernel
theorem d_Mod_await_356 : decode prog_10_method_27_code 356 = .ok (.aload_n 0, 1) := by decide +kernel
theorem d_Mod_await_357 : decode prog_10_method_27_code 357 = .ok (.iload 12, 2) := by decide +kernel
theorem d_Mod_await_359 : decode prog_10_method_27_code 359 = .ok (.ifCond .lt 8, 3) := by decide +kernel
theorem d_Mod_await_362 : decode prog_10_method_27_code 362 = .ok (.iload 12, 2) := by decide +kernel
theorem d_Mod_await_364 : decode prog_10_method_27_code 364 = .ok (.goto 5, 3) := by decide +kernel
theorem d_Mod_await_367 : decode prog_10_method_27_code 367 = .ok (.bipush (-11), 2) := by decide +kernel
theorem d_Mod_await_369 : decode prog_10_method_27_code 369 = .ok (.invokevirtual 168, 3) := by decide +kernel
theorem d_Mod_await_372 : decode prog_10_method_27_code 372 = .ok (.ireturn, 1) := by decide +kernel
theorem d_Mod_await_373 : decode prog_10_method_27_code 373 = .ok (.aload_n 0, 1) := by decide +kernel
theorem d_Mod_await_374 : decode prog_10_method_27_code 374 = .ok (.getfield 31, 3) := by decide +kernel
theorem d_Mod_await_377 : decode prog_10_method_27_code 377 = .ok (.iload 8, 2) := by decide +kernel
theorem d_Mod_await_379 : decode prog_10_method_27_code 379 = .ok (.iconst 2, 1) := by decide +kernel
theorem d_Mod_await_380 : decode prog_10_method_27_code 380 = .ok (.iastore, 1) := by decide +kernel
theorem d_Mod_await_381 : decode prog_10_method_27_code 381 = .ok (.aload_n 0, 1) := by decide +kernel
theorem d_Mod_await_382 : decode prog_10_method_27_code 382 = .ok (.iconst (-1), 1) := by decide +kernel
theorem d_Mod_await_383 : decode prog_10_method_27_code 383 = .ok (.putfield 137, 3) := by decide +kernel
theorem d_Mod_await_386 : decode prog_10_method_27_code 386 = .ok (.aload_n 0, 1) := by decide +kernel
theorem d_Mod_await_387 : decode prog_10_method_27_code 387 = .ok (.getfield 34, 3) := by decide +kernel
theorem d_Mod_await_390 : decode prog_10_method_27_code 390 = .ok (.iload 8, 2) := by decide +kernel
theorem d_Mod_await_392 : decode prog_10_method_27_code 392 = .ok (.bipush (-10), 2) := by decide +kernel
theorem d_Mod_await_394 : decode prog_10_method_27_code 394 = .ok (.iastore, 1) := by decide +kernel
theorem d_Mod_await_395 : decode prog_10_method_27_code 395 = .ok (.aload_n 0, 1) := by decide +kernel
theorem d_Mod_await_396 : decode prog_10_method_27_code 396 = .ok (.getfield 49, 3) := by decide +kernel
theorem d_Mod_await_399 : decode prog_10_method_27_code 399 = .ok (.iload 8, 2) := by decide +kernel
theorem d_Mod_await_401 : decode prog_10_method_27_code 401 = .ok (.iload 5, 2) := by decide +kernel
theorem d_Mod_await_403 : decode prog_10_method_27_code 403 = .ok (.ifCond .ge 7, 3) := by decide +kernel
theorem d_Mod_await_406 : decode prog_10_method_27_code 406 = .ok (.iconst (-1), 1) := by decide +kernel
theorem d_Mod_await_407 : decode prog_10_method_27_code 407 = .ok (.goto 10, 3) := by decide +kernel
theorem d_Mod_await_410 : decode prog_10_method_27_code 410 = .ok (.aload_n 0, 1) := by decide +kernel
theorem d_Mod_await_411 : decode prog_10_method_27_code 411 = .ok (.getfield 230, 3) := by decide +kernel
theorem d_Mod_await_414 : decode prog_10_method_27_code 414 = .ok (.iload 5, 2) := by decide +kernel
theorem d_Mod_await_416 : decode prog_10_method_27_code 416 = .ok (.iadd, 1) := by decide +kernel
theorem d_Mod_await_417 : decode prog_10_method_27_code 417 = .ok (.iastore, 1) := by decide +kernel
theorem d_Mod_await_418 : decode prog_10_method_27_code 418 = .ok (.aload_n 0, 1) := by decide +kernel
theorem d_Mod_await_419 : decode prog_10_method_27_code 419 = .ok (.getfield 46, 3) := by decide +kernel
theorem d_Mod_await_422 : decode prog_10_method_27_code 422 = .ok (.iload 8, 2) := by decide +kernel
theorem d_Mod_await_424 : decode prog_10_method_27_code 424 = .ok (.iconst 0, 1) := by decide +kernel
theorem d_Mod_await_425 : decode prog_10_method_27_code 425 = .ok (.iastore, 1) := by decide +kernel
theorem d_Mod_await_426 : decode prog_10_method_27_code 426 = .ok (.aload_n 0, 1) := by decide +kernel
theorem d_Mod_await_427 : decode prog_10_method_27_code 427 = .ok (.getfield 55, 3) := by decide +kernel
theorem d_Mod_await_430 : decode prog_10_method_27_code 430 = .ok (.iload 8, 2) := by decide +kernel
theorem d_Mod_await_432 : decode prog_10_method_27_code 432 = .ok (.aload_n 0, 1) := by decide +kernel
theorem d_Mod_await_433 : decode prog_10_method_27_code 433 = .ok (.dup, 1) := by decide +kernel
theorem d_Mod_await_434 : decode prog_10_method_27_code 434 = .ok (.getfield 171, 3) := by decide +kernel
theorem d_Mod_await_437 : decode prog_10_method_27_code 437 = .ok (.iconst 1, 1) := by decide +kernel
theorem d_Mod_await_438 : decode prog_10_method_27_code 438 = .ok (.iadd, 1) := by decide +kernel
theorem d_Mod_await_439 : decode prog_10_method_27_code 439 = .ok (.dup_x1, 1) := by decide +kernel
theorem d_Mod_await_440 : decode prog_10_method_27_code 440 = .ok (.putfield 171, 3) := by decide +kernel
theorem d_Mod_await_443 : decode prog_10_method_27_code 443 = .ok (.iastore, 1) := by decide +kernel
theorem d_Mod_await_444 : decode prog_10_method_27_code 444 = .ok (.aload_n 0, 1) := by decide +kernel
theorem d_Mod_await_445 : decode prog_10_method_27_code 445 = .ok (.bipush (-10), 2) := by decide +kernel
theorem d_Mod_await_447 : decode prog_10_method_27_code 447 = .ok (.invokevirtual 168, 3) := by decide +kernel
theorem d_Mod_await_450 : decode prog_10_method_27_code 450 = .ok (.ireturn, 1) := by decide +kernel
theorem d_Mod_use_0 : decode prog_10_method_29_code 0 = .ok (.aload_n 0, 1) := by decide +kernel
theorem d_Mod_use_1 : decode prog_10_method_29_code 1 = .ok (.getfield 19, 3) := by decide +kernel
theorem d_Mod_use_4 : decode prog_10_method_29_code 4 = .ok (.bipush 8, 2) := by decide +kernel
theorem d_Mod_use_6 : decode prog_10_method_29_code 6 = .ok (.aload_n 0, 1) := by decide +kernel
theorem d_Mod_use_7 : decode prog_10_method_29_code 7 = .ok (.getfield 25, 3) := by decide +kernel
theorem d_Mod_use_10 : decode prog_10_method_29_code 10 = .ok (.aload_n 0, 1) := by decide +kernel
theorem d_Mod_use_11 : decode prog_10_method_29_code 11 = .ok (.getfield 137, 3) := by decide +kernel
theorem d_Mod_use_14 : decode prog_10_method_29_code 14 = .ok (.iaload, 1) := by decide +kernel
theorem d_Mod_use_15 : decode prog_10_method_29_code 15 = .ok (.imul, 1) := by decide +kernel
theorem d_Mod_use_16 : decode prog_10_method_29_code 16 = .ok (.iload_n 1, 1) := by decide +kernel
theorem d_Mod_use_17 : decode prog_10_method_29_code 17 = .ok (.iadd, 1) := by decide +kernel
theorem d_Mod_use_18 : decode prog_10_method_29_code 18 = .ok (.iload_n 2, 1) := by decide +kernel
theorem d_Mod_use_19 : decode prog_10_method_29_code 19 = .ok (.iastore, 1) := by decide +kernel
theorem d_Mod_use_20 : decode prog_10_method_29_code 20 = .ok (.aload_n 0, 1) := by decide +kernel
theorem d_Mod_use_21 : decode prog_10_method_29_code 21 = .ok (.getfield 22, 3) := by decide +kernel
theorem d_Mod_use_24 : decode prog_10_method_29_code 24 = .ok (.bipush 8, 2) := by decide +kernel
theorem d_Mod_use_26 : decode prog_10_method_29_code 26 = .ok (.aload_n 0, 1) := by decide +kernel
theorem d_Mod_use_27 : decode prog_10_method_29_code 27 = .ok (.getfield 25, 3) := by decide +kernel
theorem d_Mod_use_30 : decode prog_10_method_29_code 30 = .ok (.aload_n 0, 1) := by decide +kernel
theorem d_Mod_use_31 : decode prog_10_method_29_code 31 = .ok (.getfield 137, 3) := by decide +kernel
theorem d_Mod_use_34 : decode prog_10_method_29_code 34 = .ok (.iaload, 1) := by decide +kernel
theorem d_Mod_use_35 : decode prog_10_method_29_code 35 = .ok (.imul, 1) := by decide +kernel
theorem d_Mod_use_36 : decode prog_10_method_29_code 36 = .ok (.iload_n 1, 1) := by decide +kernel
theorem d_Mod_use_37 : decode prog_10_method_29_code 37 = .ok (.iadd, 1) := by decide +kernel
theorem d_Mod_use_38 : decode prog_10_method_29_code 38 = .ok (.iload_n 3, 1) := by decide +kernel
theorem d_Mod_use_39 : decode prog_10_method_29_code 39 = .ok (.iastore, 1) := by decide +kernel
theorem d_Mod_use_40 : decode prog_10_method_29_code 40 = .ok (.iload_n 1, 1) := by decide +kernel
theorem d_Mod_use_41 : decode prog_10_method_29_code 41 = .ok (.ireturn, 1) := by decide +kernel
theorem d_Mod_create_0 : decode prog_10_method_28_code 0 = .ok (.aload_n 0, 1) := by decide +kernel
theorem d_Mod_create_1 : decode prog_10_method_28_code 1 = .ok (.getfield 137, 3) := by decide +kernel
theorem d_Mod_create_4 : decode prog_10_method_28_code 4 = .ok (.ifCond .ge 6, 3) := by decide +kernel
theorem d_Mod_create_7 : decode prog_10_method_28_code 7 = .ok (.bipush (-3), 2) := by decide +kernel
theorem d_Mod_create_9 : decode prog_10_method_28_code 9 = .ok (.ireturn, 1) := by decide +kernel
theorem d_Mod_create_10 : decode prog_10_method_28_code 10 = .ok (.iload_n 1, 1) := by decide +kernel
theorem d_Mod_create_11 : decode prog_10_method_28_code 11 = .ok (.iconst 3, 1) := by decide +kernel
theorem d_Mod_create_12 : decode prog_10_method_28_code 12 = .ok (.if_icmp .ge 7, 3) := by decide +kernel
theorem d_Mod_create_15 : decode prog_10_method_28_code 15 = .ok (.iconst 1, 1) := by decide +kernel
theorem d_Mod_create_16 : decode prog_10_method_28_code 16 = .ok (.goto 24, 3) := by decide +kernel
theorem d_Mod_create_19 : decode prog_10_method_28_code 19 = .ok (.iload_n 1, 1) := by decide +kernel
theorem d_Mod_create_20 : decode prog_10_method_28_code 20 = .ok (.iconst 3, 1) := by decide +kernel
theorem d_Mod_create_21 : decode prog_10_method_28_code 21 = .ok (.if_icmp .ne 8, 3) := by decide +kernel
theorem d_Mod_create_24 : decode prog_10_method_28_code 24 = .ok (.bipush 9, 2) := by decide +kernel
theorem d_Mod_create_26 : decode prog_10_method_28_code 26 = .ok (.goto 14, 3) := by decide +kernel
theorem d_Mod_create_29 : decode prog_10_method_28_code 29 = .ok (.iload_n 1, 1) := by decide +kernel
theorem d_Mod_create_30 : decode prog_10_method_28_code 30 = .ok (.iconst 4, 1) := by decide +kernel
theorem d_Mod_create_31 : decode prog_10_method_28_code 31 = .ok (.if_icmp .ne 7, 3) := by decide +kernel
theorem d_Mod_create_34 : decode prog_10_method_28_code 34 = .ok (.iconst 0, 1) := by decide +kernel
theorem d_Mod_create_35 : decode prog_10_method_28_code 35 = .ok (.goto 5, 3) := by decide +kernel
theorem d_Mod_create_38 : decode prog_10_method_28_code 38 = .ok (.bipush 7, 2) := by decide +kernel
theorem d_Mod_create_40 : decode prog_10_method_28_code 40 = .ok (.istore 4, 2) := by decide +kernel
theorem d_Mod_create_42 : decode prog_10_method_28_code 42 = .ok (.iload_n 1, 1) := by decide +kernel
theorem d_Mod_create_43 : decode prog_10_method_28_code 43 = .ok (.iconst 0, 1) := by decide +kernel
theorem d_Mod_create_44 : decode prog_10_method_28_code 44 = .ok (.iconst 5, 1) := by decide +kernel
theorem d_Mod_create_45 : decode prog_10_method_28_code 45 = .ok (.invokestatic 157, 3) := by decide +kernel
theorem d_Mod_create_48 : decode prog_10_method_28_code 48 = .ok (.ifCond .eq 23, 3) := by decide +kernel
theorem d_Mod_create_51 : decode prog_10_method_28_code 51 = .ok (.iload_n 2, 1) := by decide +kernel
theorem d_Mod_create_52 : decode prog_10_method_28_code 52 = .ok (.iconst 0, 1) := by decide +kernel
theorem d_Mod_create_53 : decode prog_10_method_28_code 53 = .ok (.iload 4, 2) := by decide +kernel
theorem d_Mod_create_55 : decode prog_10_method_28_code 55 = .ok (.invokestatic 157, 3) := by decide +kernel
theorem d_Mod_create_58 : decode prog_10_method_28_code 58 = .ok (.ifCond .eq 13, 3) := by decide +kernel
theorem d_Mod_create_61 : decode prog_10_method_28_code 61 = .ok (.iload_n 3, 1) := by decide +kernel
theorem d_Mod_create_62 : decode prog_10_method_28_code 62 = .ok (.iconst (-1), 1) := by decide +kernel
theorem d_Mod_create_63 : decode prog_10_method_28_code 63 = .ok (.bipush 15, 2) := by decide +kernel
theorem d_Mod_create_65 : decode prog_10_method_28_code 65 = .ok (.invokestatic 157, 3) := by decide +kernel
theorem d_Mod_create_68 : decode prog_10_method_28_code 68 = .ok (.ifCond .ne 5, 3) := by decide +kernel
theorem d_Mod_create_71 : decode prog_10_method_28_code 71 = .ok (.iconst (-1), 1) := by decide +kernel
theorem d_Mod_create_72 : decode prog_10_method_28_code 72 = .ok (.ireturn, 1) := by decide +kernel
theorem d_Mod_create_73 : decode prog_10_method_28_code 73 = .ok (.aload_n 0, 1) := by decide +kernel
theorem d_Mod_create_74 : decode prog_10_method_28_code 74 = .ok (.iload_n 3, 1) := by decide +kernel
theorem d_Mod_create_75 : decode prog_10_method_28_code 75 = .ok (.invokevirtual 233, 3) := by decide +kernel
theorem d_Mod_create_78 : decode prog_10_method_28_code 78 = .ok (.ifCond .lt 6, 3) := by decide +kernel
theorem d_Mod_create_81 : decode prog_10_method_28_code 81 = .ok (.bipush (-6), 2) := by decide +kernel
theorem d_Mod_create_83 : decode prog_10_method_28_code 83 = .ok (.ireturn, 1) := by decide +kernel
theorem d_Mod_create_84 : decode prog_10_method_28_code 84 = .ok (.iconst 0, 1) := by decide +kernel
theorem d_Mod_create_85 : decode prog_10_method_28_code 85 = .ok (.istore 5, 2) := by decide +kernel
theorem d_Mod_create_87 : decode prog_10_method_28_code 87 = .ok (.aload_n 0, 1) := by decide +kernel
theorem d_Mod_create_88 : decode prog_10_method_28_code 88 = .ok (.invokevirtual 236, 3) := by decide +kernel
theorem d_Mod_create_91 : decode prog_10_method_28_code 91 = .ok (.istore 6, 2) := by decide +kernel
theorem d_Mod_create_93 : decode prog_10_method_28_code 93 = .ok (.iload 5, 2) := by decide +kernel
theorem d_Mod_create_95 : decode prog_10_method_28_code 95 = .ok (.bipush 16, 2) := by decide +kernel
theorem d_Mod_create_97 : decode prog_10_method_28_code 97 = .ok (.if_icmp .ge 19, 3) := by decide +kernel
theorem d_Mod_create_100 : decode prog_10_method_28_code 100 = .ok (.aload_n 0, 1) := by decide +kernel
theorem d_Mod_create_101 : decode prog_10_method_28_code 101 = .ok (.getfield 67, 3) := by decide +kernel
theorem d_Mod_create_104 : decode prog_10_method_28_code 104 = .ok (.iload 5, 2) := by decide +kernel
theorem d_Mod_create_106 : decode prog_10_method_28_code 106 = .ok (.baload, 1) := by decide +kernel
theorem d_Mod_create_107 : decode prog_10_method_28_code 107 = .ok (.ifCond .eq 9, 3) := by decide +kernel
theorem d_Mod_create_110 : decode prog_10_method_28_code 110 = .ok (.iinc 5 1, 3) := by decide +kernel
theorem d_Mod_create_113 : decode prog_10_method_28_code 113 = .ok (.goto (-20), 3) := by decide +kernel
theorem d_Mod_create_116 : decode prog_10_method_28_code 116 = .ok (.iload 6, 2) := by decide +kernel
theorem d_Mod_create_118 : decode prog_10_method_28_code 118 = .ok (.ifCond .lt 10, 3) := by decide +kernel
theorem d_Mod_create_121 : decode prog_10_method_28_code 121 = .ok (.iload 5, 2) := by decide +kernel
theorem d_Mod_create_123 : decode prog_10_method_28_code 123 = .ok (.bipush 16, 2) := by decide +kernel
theorem d_Mod_create_125 : decode prog_10_method_28_code 125 = .ok (.if_icmp .ne 6, 3) := by decide +kernel
theorem d_Mod_create_128 : decode prog_10_method_28_code 128 = .ok (.bipush (-2), 2) := by decide +kernel
theorem d_Mod_create_130 : decode prog_10_method_28_code 130 = .ok (.ireturn, 1) := by decide +kernel
theorem d_Mod_create_131 : decode prog_10_method_28_code 131 = .ok (.aload_n 0, 1) := by decide +kernel
theorem d_Mod_create_132 : decode prog_10_method_28_code 132 = .ok (.getfield 67, 3) := by decide +kernel
theorem d_Mod_create_135 : decode prog_10_method_28_code 135 = .ok (.iload 5, 2) := by decide +kernel
theorem d_Mod_create_137 : decode prog_10_method_28_code 137 = .ok (.iconst 1, 1) := by decide +kernel
theorem d_Mod_create_138 : decode prog_10_method_28_code 138 = .ok (.bastore, 1) := by decide +kernel
theorem d_Mod_create_139 : decode prog_10_method_28_code 139 = .ok (.aload_n 0, 1) := by decide +kernel
theorem d_Mod_create_140 : decode prog_10_method_28_code 140 = .ok (.getfield 77, 3) := by decide +kernel
theorem d_Mod_create_143 : decode prog_10_method_28_code 143 = .ok (.iload 5, 2) := by decide +kernel
theorem d_Mod_create_145 : decode prog_10_method_28_code 145 = .ok (.iload_n 1, 1) := by decide +kernel
theorem d_Mod_create_146 : decode prog_10_method_28_code 146 = .ok (.iastore, 1) := by decide +kernel
theorem d_Mod_create_147 : decode prog_10_method_28_code 147 = .ok (.aload_n 0, 1) := by decide +kernel
theorem d_Mod_create_148 : decode prog_10_method_28_code 148 = .ok (.getfield 80, 3) := by decide +kernel
theorem d_Mod_create_151 : decode prog_10_method_28_code 151 = .ok (.iload 5, 2) := by decide +kernel
theorem d_Mod_create_153 : decode prog_10_method_28_code 153 = .ok (.iload_n 3, 1) := by decide +kernel
theorem d_Mod_create_154 : decode prog_10_method_28_code 154 = .ok (.iastore, 1) := by decide +kernel
theorem d_Mod_create_155 : decode prog_10_method_28_code 155 = .ok (.aload_n 0, 1) := by decide +kernel
theorem d_Mod_create_156 : decode prog_10_method_28_code 156 = .ok (.getfield 71, 3) := by decide +kernel
theorem d_Mod_create_159 : decode prog_10_method_28_code 159 = .ok (.iload 5, 2) := by decide +kernel
theorem d_Mod_create_161 : decode prog_10_method_28_code 161 = .ok (.iload_n 1, 1) := by decide +kernel
theorem d_Mod_create_162 : decode prog_10_method_28_code 162 = .ok (.iconst 2, 1) := by decide +kernel
theorem d_Mod_create_163 : decode prog_10_method_28_code 163 = .ok (.if_icmp .ge 12, 3) := by decide +kernel
theorem d_Mod_create_166 : decode prog_10_method_28_code 166 = .ok (.iload_n 2, 1) := by decide +kernel
theorem d_Mod_create_167 : decode prog_10_method_28_code 167 = .ok (.iconst 1, 1) := by decide +kernel
theorem d_Mod_create_168 : decode prog_10_method_28_code 168 = .ok (.if_icmp .ne 7, 3) := by decide +kernel
theorem d_Mod_create_171 : decode prog_10_method_28_code 171 = .ok (.iconst 1, 1) := by decide +kernel
theorem d_Mod_create_172 : decode prog_10_method_28_code 172 = .ok (.goto 4, 3) := by decide +kernel
theorem d_Mod_create_175 : decode prog_10_method_28_code 175 = .ok (.iconst 0, 1) := by decide +kernel
theorem d_Mod_create_176 : decode prog_10_method_28_code 176 = .ok (.bastore, 1) := by decide +kernel
theorem d_Mod_create_177 : decode prog_10_method_28_code 177 = .ok (.aload_n 0, 1) := by decide +kernel
theorem d_Mod_create_178 : decode prog_10_method_28_code 178 = .ok (.getfield 74, 3) := by decide +kernel
theorem d_Mod_create_181 : decode prog_10_method_28_code 181 = .ok (.iload 5, 2) := by decide +kernel
theorem d_Mod_create_183 : decode prog_10_method_28_code 183 = .ok (.iconst 0, 1) := by decide +kernel
theorem d_Mod_create_184 : decode prog_10_method_28_code 184 = .ok (.bastore, 1) := by decide +kernel
theorem d_Mod_create_185 : decode prog_10_method_28_code 185 = .ok (.aload_n 0, 1) := by decide +kernel
theorem d_Mod_create_186 : decode prog_10_method_28_code 186 = .ok (.getfield 83, 3) := by decide +kernel
theorem d_Mod_create_189 : decode prog_10_method_28_code 189 = .ok (.iload 5, 2) := by decide +kernel
theorem d_Mod_create_191 : decode prog_10_method_28_code 191 = .ok (.iload_n 2, 1) := by decide +kernel
theorem d_Mod_create_192 : decode prog_10_method_28_code 192 = .ok (.iastore, 1) := by decide +kernel
theorem d_Mod_create_193 : decode prog_10_method_28_code 193 = .ok (.aload_n 0, 1) := by decide +kernel
theorem d_Mod_create_194 : decode prog_10_method_28_code 194 = .ok (.getfield 86, 3) := by decide +kernel
theorem d_Mod_create_197 : decode prog_10_method_28_code 197 = .ok (.iload 5, 2) := by decide +kernel
theorem d_Mod_create_199 : decode prog_10_method_28_code 199 = .ok (.iload_n 1, 1) := by decide +kernel
theorem d_Mod_create_200 : decode prog_10_method_28_code 200 = .ok (.iconst 2, 1) := by decide +kernel
theorem d_Mod_create_201 : decode prog_10_method_28_code 201 = .ok (.if_icmp .ne 15, 3) := by decide +kernel
theorem d_Mod_create_204 : decode prog_10_method_28_code 204 = .ok (.iload_n 2, 1) := by decide +kernel
theorem d_Mod_create_205 : decode prog_10_method_28_code 205 = .ok (.iconst 1, 1) := by decide +kernel
theorem d_Mod_create_206 : decode prog_10_method_28_code 206 = .ok (.if_icmp .ne 10, 3) := by decide +kernel
theorem d_Mod_create_209 : decode prog_10_method_28_code 209 = .ok (.aload_n 0, 1) := by decide +kernel
theorem d_Mod_create_210 : decode prog_10_method_28_code 210 = .ok (.getfield 137, 3) := by decide +kernel
theorem d_Mod_create_213 : decode prog_10_method_28_code 213 = .ok (.goto 4, 3) := by decide +kernel
theorem d_Mod_create_216 : decode prog_10_method_28_code 216 = .ok (.iconst (-1), 1) := by decide +kernel
theorem d_Mod_create_217 : decode prog_10_method_28_code 217 = .ok (.iastore, 1) := by decide +kernel
theorem d_Mod_create_218 : decode prog_10_method_28_code 218 = .ok (.aload_n 0, 1) := by decide +kernel
theorem d_Mod_create_219 : decode prog_10_method_28_code 219 = .ok (.getfield 89, 3) := by decide +kernel
theorem d_Mod_create_222 : decode prog_10_method_28_code 222 = .ok (.iload 5, 2) := by decide +kernel
theorem d_Mod_create_224 : decode prog_10_method_28_code 224 = .ok (.iconst 0, 1) := by decide +kernel
theorem d_Mod_create_225 : decode prog_10_method_28_code 225 = .ok (.iastore, 1) := by decide +kernel
theorem d_Mod_create_226 : decode prog_10_method_28_code 226 = .ok (.aload_n 0, 1) := by decide +kernel
theorem d_Mod_create_227 : decode prog_10_method_28_code 227 = .ok (.getfield 92, 3) := by decide +kernel
theorem d_Mod_create_230 : decode prog_10_method_28_code 230 = .ok (.iload 5, 2) := by decide +kernel
theorem d_Mod_create_232 : decode prog_10_method_28_code 232 = .ok (.iconst 0, 1) := by decide +kernel
theorem d_Mod_create_233 : decode prog_10_method_28_code 233 = .ok (.iastore, 1) := by decide +kernel
theorem d_Mod_create_234 : decode prog_10_method_28_code 234 = .ok (.aload_n 0, 1) := by decide +kernel
theorem d_Mod_create_235 : decode prog_10_method_28_code 235 = .ok (.iload 6, 2) := by decide +kernel
theorem d_Mod_create_237 : decode prog_10_method_28_code 237 = .ok (.iload 5, 2) := by decide +kernel
theorem d_Mod_create_239 : decode prog_10_method_28_code 239 = .ok (.bipush 7, 2) := by decide +kernel
theorem d_Mod_create_241 : decode prog_10_method_28_code 241 = .ok (.invokevirtual 239, 3) := by decide +kernel
theorem d_Mod_create_244 : decode prog_10_method_28_code 244 = .ok (.ireturn, 1) := by decide +kernel
theorem d_Mod_opn_0 : decode prog_10_method_30_code 0 = .ok (.aload_n 0, 1) := by decide +kernel
theorem d_Mod_opn_1 : decode prog_10_method_30_code 1 = .ok (.getfield 137, 3) := by decide +kernel
theorem d_Mod_opn_4 : decode prog_10_method_30_code 4 = .ok (.ifCond .ge 6, 3) := by decide +kernel
theorem d_Mod_opn_7 : decode prog_10_method_30_code 7 = .ok (.bipush (-3), 2) := by decide +kernel
theorem d_Mod_opn_9 : decode prog_10_method_30_code 9 = .ok (.ireturn, 1) := by decide +kernel
theorem d_Mod_opn_10 : decode prog_10_method_30_code 10 = .ok (.iload_n 1, 1) := by decide +kernel
theorem d_Mod_opn_11 : decode prog_10_method_30_code 11 = .ok (.iconst 0, 1) := by decide +kernel
theorem d_Mod_opn_12 : decode prog_10_method_30_code 12 = .ok (.bipush 15, 2) := by decide +kernel
theorem d_Mod_opn_14 : decode prog_10_method_30_code 14 = .ok (.invokestatic 157, 3) := by decide +kernel
theorem d_Mod_opn_17 : decode prog_10_method_30_code 17 = .ok (.ifCond .eq 13, 3) := by decide +kernel
theorem d_Mod_opn_20 : decode prog_10_method_30_code 20 = .ok (.iload_n 2, 1) := by decide +kernel
theorem d_Mod_opn_21 : decode prog_10_method_30_code 21 = .ok (.iconst 1, 1) := by decide +kernel
theorem d_Mod_opn_22 : decode prog_10_method_30_code 22 = .ok (.bipush 7, 2) := by decide +kernel
theorem d_Mod_opn_24 : decode prog_10_method_30_code 24 = .ok (.invokestatic 157, 3) := by decide +kernel
theorem d_Mod_opn_27 : decode prog_10_method_30_code 27 = .ok (.ifCond .ne 5, 3) := by decide +kernel
theorem d_Mod_opn_30 : decode prog_10_method_30_code 30 = .ok (.iconst (-1), 1) := by decide +kernel
theorem d_Mod_opn_31 : decode prog_10_method_30_code 31 = .ok (.ireturn, 1) := by decide +kernel
theorem d_Mod_opn_32 : decode prog_10_method_30_code 32 = .ok (.aload_n 0, 1) := by decide +kernel
theorem d_Mod_opn_33 : decode prog_10_method_30_code 33 = .ok (.iload_n 1, 1) := by decide +kernel
theorem d_Mod_opn_34 : decode prog_10_method_30_code 34 = .ok (.invokevirtual 233, 3) := by decide +kernel
theorem d_Mod_opn_37 : decode prog_10_method_30_code 37 = .ok (.istore_n 3, 1) := by decide +kernel
theorem d_Mod_opn_38 : decode prog_10_method_30_code 38 = .ok (.iload_n 2, 1) := by decide +kernel
theorem d_Mod_opn_39 : decode prog_10_method_30_code 39 = .ok (.istore 4, 2) := by decide +kernel
theorem d_Mod_opn_41 : decode prog_10_method_30_code 41 = .ok (.iload_n 3, 1) := by decide +kernel
theorem d_Mod_opn_42 : decode prog_10_method_30_code 42 = .ok (.ifCond .ge 6, 3) := by decide +kernel
theorem d_Mod_opn_45 : decode prog_10_method_30_code 45 = .ok (.bipush (-7), 2) := by decide +kernel
theorem d_Mod_opn_47 : decode prog_10_method_30_code 47 = .ok (.ireturn, 1) := by decide +kernel
theorem d_Mod_opn_48 : decode prog_10_method_30_code 48 = .ok (.iconst 0, 1) := by decide +kernel
theorem d_Mod_opn_49 : decode prog_10_method_30_code 49 = .ok (.istore 5, 2) := by decide +kernel
theorem d_Mod_opn_51 : decode prog_10_method_30_code 51 = .ok (.iload 5, 2) := by decide +kernel
theorem d_Mod_opn_53 : decode prog_10_method_30_code 53 = .ok (.aload_n 0, 1) := by decide +kernel
theorem d_Mod_opn_54 : decode prog_10_method_30_code 54 = .ok (.getfield 92, 3) := by decide +kernel
theorem d_Mod_opn_57 : decode prog_10_method_30_code 57 = .ok (.iload_n 3, 1) := by decide +kernel
theorem d_Mod_opn_58 : decode prog_10_method_30_code 58 = .ok (.iaload, 1) := by decide +kernel
theorem d_Mod_opn_59 : decode prog_10_method_30_code 59 = .ok (.if_icmp .ge 103, 3) := by decide +kernel
theorem d_Mod_opn_62 : decode prog_10_method_30_code 62 = .ok (.iload 4, 2) := by decide +kernel
theorem d_Mod_opn_64 : decode prog_10_method_30_code 64 = .ok (.ifCond .le 98, 3) := by decide +kernel
theorem d_Mod_opn_67 : decode prog_10_method_30_code 67 = .ok (.iconst 4, 1) := by decide +kernel
theorem d_Mod_opn_68 : decode prog_10_method_30_code 68 = .ok (.iload_n 3, 1) := by decide +kernel
theorem d_Mod_opn_69 : decode prog_10_method_30_code 69 = .ok (.imul, 1) := by decide +kernel
theorem d_Mod_opn_70 : decode prog_10_method_30_code 70 = .ok (.iload 5, 2) := by decide +kernel
theorem d_Mod_opn_72 : decode prog_10_method_30_code 72 = .ok (.iadd, 1) := by decide +kernel
theorem d_Mod_opn_73 : decode prog_10_method_30_code 73 = .ok (.istore 6, 2) := by decide +kernel
theorem d_Mod_opn_75 : decode prog_10_method_30_code 75 = .ok (.aload_n 0, 1) := by decide +kernel
theorem d_Mod_opn_76 : decode prog_10_method_30_code 76 = .ok (.getfield 7, 3) := by decide +kernel
theorem d_Mod_opn_79 : decode prog_10_method_30_code 79 = .ok (.aload_n 0, 1) := by decide +kernel
theorem d_Mod_opn_80 : decode prog_10_method_30_code 80 = .ok (.getfield 25, 3) := by decide +kernel
theorem d_Mod_opn_83 : decode prog_10_method_30_code 83 = .ok (.aload_n 0, 1) := by decide +kernel
theorem d_Mod_opn_84 : decode prog_10_method_30_code 84 = .ok (.getfield 137, 3) := by decide +kernel
theorem d_Mod_opn_87 : decode prog_10_method_30_code 87 = .ok (.iaload, 1) := by decide +kernel
theorem d_Mod_opn_88 : decode prog_10_method_30_code 88 = .ok (.iaload, 1) := by decide +kernel
theorem d_Mod_opn_89 : decode prog_10_method_30_code 89 = .ok (.aload_n 0, 1) := by decide +kernel
theorem d_Mod_opn_90 : decode prog_10_method_30_code 90 = .ok (.getfield 98, 3) := by decide +kernel
theorem d_Mod_opn_93 : decode prog_10_method_30_code 93 = .ok (.iload 6, 2) := by decide +kernel
theorem d_Mod_opn_95 : decode prog_10_method_30_code 95 = .ok (.iaload, 1) := by decide +kernel
theorem d_Mod_opn_96 : decode prog_10_method_30_code 96 = .ok (.ishr, 1) := by decide +kernel
theorem d_Mod_opn_97 : decode prog_10_method_30_code 97 = .ok (.iconst 1, 1) := by decide +kernel
theorem d_Mod_opn_98 : decode prog_10_method_30_code 98 = .ok (.iand, 1) := by decide +kernel
theorem d_Mod_opn_99 : decode prog_10_method_30_code 99 = .ok (.ifCond .ne 6, 3) := by decide +kernel
theorem d_Mod_opn_102 : decode prog_10_method_30_code 102 = .ok (.goto 54, 3) := by decide +kernel
theorem d_Mod_opn_105 : decode prog_10_method_30_code 105 = .ok (.aload_n 0, 1) := by decide +kernel
theorem d_Mod_opn_106 : decode prog_10_method_30_code 106 = .ok (.getfield 95, 3) := by decide +kernel
theorem d_Mod_opn_109 : decode prog_10_method_30_code 109 = .ok (.iload 6, 2) := by decide +kernel
theorem d_Mod_opn_111 : decode prog_10_method_30_code 111 = .ok (.iaload, 1) := by decide +kernel
theorem d_Mod_opn_112 : decode prog_10_method_30_code 112 = .ok (.ifCond .ne 19, 3) := by decide +kernel
theorem d_Mod_opn_115 : decode prog_10_method_30_code 115 = .ok (.aload_n 0, 1) := by decide +kernel
theorem d_Mod_opn_116 : decode prog_10_method_30_code 116 = .ok (.getfield 101, 3) := by decide +kernel
theorem d_Mod_opn_119 : decode prog_10_method_30_code 119 = .ok (.iload 6, 2) := by decide +kernel
theorem d_Mod_opn_121 : decode prog_10_method_30_code 121 = .ok (.iaload, 1) := by decide +kernel
theorem d_Mod_opn_122 : decode prog_10_method_30_code 122 = .ok (.iload 4, 2) := by decide +kernel
theorem d_Mod_opn_124 : decode prog_10_method_30_code 124 = .ok (.iand, 1) := by decide +kernel
theorem d_Mod_opn_125 : decode prog_10_method_30_code 125 = .ok (.ifCond .eq 6, 3) := by decide +kernel
theorem d_Mod_opn_128 : decode prog_10_method_30_code 128 = .ok (.bipush (-5), 2) := by decide +kernel
theorem d_Mod_opn_130 : decode prog_10_method_30_code 130 = .ok (.ireturn, 1) := by decide +kernel
theorem d_Mod_opn_131 : decode prog_10_method_30_code 131 = .ok (.aload_n 0, 1) := by decide +kernel
theorem d_Mod_opn_132 : decode prog_10_method_30_code 132 = .ok (.getfield 95, 3) := by decide +kernel
theorem d_Mod_opn_135 : decode prog_10_method_30_code 135 = .ok (.iload 6, 2) := by decide +kernel
theorem d_Mod_opn_137 : decode prog_10_method_30_code 137 = .ok (.iaload, 1) := by decide +kernel
theorem d_Mod_opn_138 : decode prog_10_method_30_code 138 = .ok (.iconst 1, 1) := by decide +kernel
theorem d_Mod_opn_139 : decode prog_10_method_30_code 139 = .ok (.if_icmp .ne 17, 3) := by decide +kernel
theorem d_Mod_opn_142 : decode prog_10_method_30_code 142 = .ok (.iload 4, 2) := by decide +kernel
theorem d_Mod_opn_144 : decode prog_10_method_30_code 144 = .ok (.aload_n 0, 1) := by decide +kernel
theorem d_Mod_opn_145 : decode prog_10_method_30_code 145 = .ok (.getfield 101, 3) := by decide +kernel
theorem d_Mod_opn_148 : decode prog_10_method_30_code 148 = .ok (.iload 6, 2) := by decide +kernel
theorem d_Mod_opn_150 : decode prog_10_method_30_code 150 = .ok (.iaload, 1) := by decide +kernel
theorem d_Mod_opn_151 : decode prog_10_method_30_code 151 = .ok (.iconst (-1), 1) := by decide +kernel
theorem d_Mod_opn_152 : decode prog_10_method_30_code 152 = .ok (.ixor, 1) := by decide +kernel
theorem d_Mod_opn_153 : decode prog_10_method_30_code 153 = .ok (.iand, 1) := by decide +kernel
theorem d_Mod_opn_154 : decode prog_10_method_30_code 154 = .ok (.istore 4, 2) := by decide +kernel
theorem d_Mod_opn_156 : decode prog_10_method_30_code 156 = .ok (.iinc 5 1, 3) := by decide +kernel
theorem d_Mod_opn_159 : decode prog_10_method_30_code 159 = .ok (.goto (-108), 3) := by decide +kernel
theorem d_Mod_opn_162 : decode prog_10_method_30_code 162 = .ok (.aload_n 0, 1) := by decide +kernel
theorem d_Mod_opn_163 : decode prog_10_method_30_code 163 = .ok (.getfield 92, 3) := by decide +kernel
theorem d_Mod_opn_166 : decode prog_10_method_30_code 166 = .ok (.iload_n 3, 1) := by decide +kernel
theorem d_Mod_opn_167 : decode prog_10_method_30_code 167 = .ok (.iaload, 1) := by decide +kernel
theorem d_Mod_opn_168 : decode prog_10_method_30_code 168 = .ok (.ifCond .le 11, 3) := by decide +kernel
theorem d_Mod_opn_171 : decode prog_10_method_30_code 171 = .ok (.iload 4, 2) := by decide +kernel
theorem d_Mod_opn_173 : decode prog_10_method_30_code 173 = .ok (.ifCond .le 6, 3) := by decide +kernel
theorem d_Mod_opn_176 : decode prog_10_method_30_code 176 = .ok (.bipush (-5), 2) := by decide +kernel
theorem d_Mod_opn_178 : decode prog_10_method_30_code 178 = .ok (.ireturn, 1) := by decide +kernel
theorem d_Mod_opn_179 : decode prog_10_method_30_code 179 = .ok (.aload_n 0, 1) := by decide +kernel
theorem d_Mod_opn_180 : decode prog_10_method_30_code 180 = .ok (.invokevirtual 236, 3) := by decide +kernel
theorem d_Mod_opn_183 : decode prog_10_method_30_code 183 = .ok (.istore 5, 2) := by decide +kernel
theorem d_Mod_opn_185 : decode prog_10_method_30_code 185 = .ok (.iload 5, 2) := by decide +kernel
theorem d_Mod_opn_187 : decode prog_10_method_30_code 187 = .ok (.ifCond .ge 8, 3) := by decide +kernel
theorem d_Mod_opn_190 : decode prog_10_method_30_code 190 = .ok (.bipush (-2), 2) := by decide +kernel
theorem d_Mod_opn_192 : decode prog_10_method_30_code 192 = .ok (.goto 11, 3) := by decide +kernel
theorem d_Mod_opn_195 : decode prog_10_method_30_code 195 = .ok (.aload_n 0, 1) := by decide +kernel
theorem d_Mod_opn_196 : decode prog_10_method_30_code 196 = .ok (.iload 5, 2) := by decide +kernel
theorem d_Mod_opn_198 : decode prog_10_method_30_code 198 = .ok (.iload_n 3, 1) := by decide +kernel
theorem d_Mod_opn_199 : decode prog_10_method_30_code 199 = .ok (.iload_n 2, 1) := by decide +kernel
theorem d_Mod_opn_200 : decode prog_10_method_30_code 200 = .ok (.invokevirtual 239, 3) := by decide +kernel
theorem d_Mod_opn_203 : decode prog_10_method_30_code 203 = .ok (.ireturn, 1) := by decide +kernel
theorem d_Mod_clse_0 : decode prog_10_method_31_code 0 = .ok (.aload_n 0, 1) := by decide +kernel
theorem d_Mod_clse_1 : decode prog_10_method_31_code 1 = .ok (.getfield 137, 3) := by decide +kernel
theorem d_Mod_clse_4 : decode prog_10_method_31_code 4 = .ok (.ifCond .ge 6, 3) := by decide +kernel
theorem d_Mod_clse_7 : decode prog_10_method_31_code 7 = .ok (.bipush (-3), 2) := by decide +kernel
theorem d_Mod_clse_9 : decode prog_10_method_31_code 9 = .ok (.ireturn, 1) := by decide +kernel
theorem d_Mod_clse_10 : decode prog_10_method_31_code 10 = .ok (.aload_n 0, 1) := by decide +kernel
theorem d_Mod_clse_11 : decode prog_10_method_31_code 11 = .ok (.iload_n 1, 1) := by decide +kernel
theorem d_Mod_clse_12 : decode prog_10_method_31_code 12 = .ok (.invokevirtual 220, 3) := by decide +kernel
theorem d_Mod_clse_15 : decode prog_10_method_31_code 15 = .ok (.ifCond .ne 5, 3) := by decide +kernel
theorem d_Mod_clse_18 : decode prog_10_method_31_code 18 = .ok (.iconst (-1), 1) := by decide +kernel
theorem d_Mod_clse_19 : decode prog_10_method_31_code 19 = .ok (.ireturn, 1) := by decide +kernel
theorem d_Mod_clse_20 : decode prog_10_method_31_code 20 = .ok (.aload_n 0, 1) := by decide +kernel
theorem d_Mod_clse_21 : decode prog_10_method_31_code 21 = .ok (.iload_n 1, 1) := by decide +kernel
theorem d_Mod_clse_22 : decode prog_10_method_31_code 22 = .ok (.invokevirtual 224, 3) := by decide +kernel
theorem d_Mod_clse_25 : decode prog_10_method_31_code 25 = .ok (.istore_n 2, 1) := by decide +kernel
