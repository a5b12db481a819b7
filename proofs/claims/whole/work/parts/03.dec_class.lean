/-! each instruction, by program: A C Y S -/
theorem d_S_init_0 : decode b_S_init 0 = .ok (.aload_n 0, 1) := by decide +kernel
theorem d_S_init_1 : decode b_S_init 1 = .ok (.invokespecial 5, 3) := by decide +kernel
theorem d_S_init_4 : decode b_S_init 4 = .ok (.aload_n 0, 1) := by decide +kernel
theorem d_S_init_5 : decode b_S_init 5 = .ok (.new 11, 3) := by decide +kernel
theorem d_S_init_8 : decode b_S_init 8 = .ok (.dup, 1) := by decide +kernel
theorem d_S_init_9 : decode b_S_init 9 = .ok (.invokespecial 13, 3) := by decide +kernel
theorem d_S_init_12 : decode b_S_init 12 = .ok (.putfield 14, 3) := by decide +kernel
theorem d_S_init_15 : decode b_S_init 15 = .ok (.aload_n 0, 1) := by decide +kernel
theorem d_S_init_16 : decode b_S_init 16 = .ok (.new 11, 3) := by decide +kernel
theorem d_S_init_19 : decode b_S_init 19 = .ok (.dup, 1) := by decide +kernel
theorem d_S_init_20 : decode b_S_init 20 = .ok (.invokespecial 13, 3) := by decide +kernel
theorem d_S_init_23 : decode b_S_init 23 = .ok (.putfield 18, 3) := by decide +kernel
theorem d_S_init_26 : decode b_S_init 26 = .ok (.aload_n 0, 1) := by decide +kernel
theorem d_S_init_27 : decode b_S_init 27 = .ok (.iconst 0, 1) := by decide +kernel
theorem d_S_init_28 : decode b_S_init 28 = .ok (.putfield 21, 3) := by decide +kernel
theorem d_S_init_31 : decode b_S_init 31 = .ok (.return_, 1) := by decide +kernel
theorem d_S_actor_0 : decode b_S_actor 0 = .ok (.aload_n 0, 1) := by decide +kernel
theorem d_S_actor_1 : decode b_S_actor 1 = .ok (.getfield 14, 3) := by decide +kernel
theorem d_S_actor_4 : decode b_S_actor 4 = .ok (.iload_n 1, 1) := by decide +kernel
theorem d_S_actor_5 : decode b_S_actor 5 = .ok (.iload_n 2, 1) := by decide +kernel
theorem d_S_actor_6 : decode b_S_actor 6 = .ok (.iload_n 3, 1) := by decide +kernel
theorem d_S_actor_7 : decode b_S_actor 7 = .ok (.invokevirtual 25, 3) := by decide +kernel
theorem d_S_actor_10 : decode b_S_actor 10 = .ok (.istore 4, 2) := by decide +kernel
theorem d_S_actor_12 : decode b_S_actor 12 = .ok (.iload 4, 2) := by decide +kernel
theorem d_S_actor_14 : decode b_S_actor 14 = .ok (.iconst (-1), 1) := by decide +kernel
theorem d_S_actor_15 : decode b_S_actor 15 = .ok (.if_icmp .eq 19, 3) := by decide +kernel
theorem d_S_actor_18 : decode b_S_actor 18 = .ok (.aload_n 0, 1) := by decide +kernel
theorem d_S_actor_19 : decode b_S_actor 19 = .ok (.getfield 18, 3) := by decide +kernel
theorem d_S_actor_22 : decode b_S_actor 22 = .ok (.iload_n 1, 1) := by decide +kernel
theorem d_S_actor_23 : decode b_S_actor 23 = .ok (.iload_n 2, 1) := by decide +kernel
theorem d_S_actor_24 : decode b_S_actor 24 = .ok (.iload_n 3, 1) := by decide +kernel
theorem d_S_actor_25 : decode b_S_actor 25 = .ok (.invokevirtual 25, 3) := by decide +kernel
theorem d_S_actor_28 : decode b_S_actor 28 = .ok (.pop, 1) := by decide +kernel
theorem d_S_actor_29 : decode b_S_actor 29 = .ok (.aload_n 0, 1) := by decide +kernel
theorem d_S_actor_30 : decode b_S_actor 30 = .ok (.iconst 0, 1) := by decide +kernel
theorem d_S_actor_31 : decode b_S_actor 31 = .ok (.putfield 21, 3) := by decide +kernel
theorem d_S_actor_34 : decode b_S_actor 34 = .ok (.iload 4, 2) := by decide +kernel
theorem d_S_actor_36 : decode b_S_actor 36 = .ok (.ireturn, 1) := by decide +kernel
theorem d_S_value_0 : decode b_S_value 0 = .ok (.aload_n 0, 1) := by decide +kernel
theorem d_S_value_1 : decode b_S_value 1 = .ok (.getfield 14, 3) := by decide +kernel
theorem d_S_value_4 : decode b_S_value 4 = .ok (.iload_n 1, 1) := by decide +kernel
theorem d_S_value_5 : decode b_S_value 5 = .ok (.iconst 0, 1) := by decide +kernel
theorem d_S_value_6 : decode b_S_value 6 = .ok (.invokevirtual 29, 3) := by decide +kernel
theorem d_S_value_9 : decode b_S_value 9 = .ok (.astore_n 3, 1) := by decide +kernel
theorem d_S_value_10 : decode b_S_value 10 = .ok (.aload_n 3, 1) := by decide +kernel
theorem d_S_value_11 : decode b_S_value 11 = .ok (.ifnull 11, 3) := by decide +kernel
theorem d_S_value_14 : decode b_S_value 14 = .ok (.aload_n 3, 1) := by decide +kernel
theorem d_S_value_15 : decode b_S_value 15 = .ok (.iload_n 2, 1) := by decide +kernel
theorem d_S_value_16 : decode b_S_value 16 = .ok (.invokevirtual 33, 3) := by decide +kernel
theorem d_S_value_19 : decode b_S_value 19 = .ok (.ifCond .ne 5, 3) := by decide +kernel
theorem d_S_value_22 : decode b_S_value 22 = .ok (.iconst 0, 1) := by decide +kernel
theorem d_S_value_23 : decode b_S_value 23 = .ok (.ireturn, 1) := by decide +kernel
theorem d_S_value_24 : decode b_S_value 24 = .ok (.aload_n 0, 1) := by decide +kernel
theorem d_S_value_25 : decode b_S_value 25 = .ok (.iconst 0, 1) := by decide +kernel
theorem d_S_value_26 : decode b_S_value 26 = .ok (.putfield 21, 3) := by decide +kernel
theorem d_S_value_29 : decode b_S_value 29 = .ok (.iconst 1, 1) := by decide +kernel
theorem d_S_value_30 : decode b_S_value 30 = .ok (.ireturn, 1) := by decide +kernel
theorem d_S_channel_0 : decode b_S_channel 0 = .ok (.aload_n 0, 1) := by decide +kernel
theorem d_S_channel_1 : decode b_S_channel 1 = .ok (.getfield 14, 3) := by decide +kernel
theorem d_S_channel_4 : decode b_S_channel 4 = .ok (.iload_n 1, 1) := by decide +kernel
theorem d_S_channel_5 : decode b_S_channel 5 = .ok (.iload_n 2, 1) := by decide +kernel
theorem d_S_channel_6 : decode b_S_channel 6 = .ok (.iload_n 3, 1) := by decide +kernel
theorem d_S_channel_7 : decode b_S_channel 7 = .ok (.iload 4, 2) := by decide +kernel
theorem d_S_channel_9 : decode b_S_channel 9 = .ok (.iload 5, 2) := by decide +kernel
theorem d_S_channel_11 : decode b_S_channel 11 = .ok (.invokevirtual 39, 3) := by decide +kernel
theorem d_S_channel_14 : decode b_S_channel 14 = .ok (.istore 6, 2) := by decide +kernel
theorem d_S_channel_16 : decode b_S_channel 16 = .ok (.iload 6, 2) := by decide +kernel
theorem d_S_channel_18 : decode b_S_channel 18 = .ok (.iconst (-1), 1) := by decide +kernel
theorem d_S_channel_19 : decode b_S_channel 19 = .ok (.if_icmp .eq 23, 3) := by decide +kernel
theorem d_S_channel_22 : decode b_S_channel 22 = .ok (.aload_n 0, 1) := by decide +kernel
theorem d_S_channel_23 : decode b_S_channel 23 = .ok (.getfield 18, 3) := by decide +kernel
theorem d_S_channel_26 : decode b_S_channel 26 = .ok (.iload_n 1, 1) := by decide +kernel
theorem d_S_channel_27 : decode b_S_channel 27 = .ok (.iload_n 2, 1) := by decide +kernel
theorem d_S_channel_28 : decode b_S_channel 28 = .ok (.iload_n 3, 1) := by decide +kernel
theorem d_S_channel_29 : decode b_S_channel 29 = .ok (.iload 4, 2) := by decide +kernel
theorem d_S_channel_31 : decode b_S_channel 31 = .ok (.iload 5, 2) := by decide +kernel
theorem d_S_channel_33 : decode b_S_channel 33 = .ok (.invokevirtual 39, 3) := by decide +kernel
theorem d_S_channel_36 : decode b_S_channel 36 = .ok (.pop, 1) := by decide +kernel
theorem d_S_channel_37 : decode b_S_channel 37 = .ok (.aload_n 0, 1) := by decide +kernel
theorem d_S_channel_38 : decode b_S_channel 38 = .ok (.iconst 0, 1) := by decide +kernel
theorem d_S_channel_39 : decode b_S_channel 39 = .ok (.putfield 21, 3) := by decide +kernel
theorem d_S_channel_42 : decode b_S_channel 42 = .ok (.iload 6, 2) := by decide +kernel
theorem d_S_channel_44 : decode b_S_channel 44 = .ok (.ireturn, 1) := by decide +kernel
theorem d_S_can_0 : decode b_S_can 0 = .ok (.aload_n 0, 1) := by decide +kernel
theorem d_S_can_1 : decode b_S_can 1 = .ok (.getfield 14, 3) := by decide +kernel
theorem d_S_can_4 : decode b_S_can 4 = .ok (.iload_n 1, 1) := by decide +kernel
theorem d_S_can_5 : decode b_S_can 5 = .ok (.invokevirtual 43, 3) := by decide +kernel
theorem d_S_can_8 : decode b_S_can 8 = .ok (.astore_n 2, 1) := by decide +kernel
theorem d_S_can_9 : decode b_S_can 9 = .ok (.aload_n 2, 1) := by decide +kernel
theorem d_S_can_10 : decode b_S_can 10 = .ok (.ifnull 14, 3) := by decide +kernel
theorem d_S_can_13 : decode b_S_can 13 = .ok (.aload_n 2, 1) := by decide +kernel
theorem d_S_can_14 : decode b_S_can 14 = .ok (.invokevirtual 47, 3) := by decide +kernel
theorem d_S_can_17 : decode b_S_can 17 = .ok (.ifCond .eq 7, 3) := by decide +kernel
theorem d_S_can_20 : decode b_S_can 20 = .ok (.iconst 1, 1) := by decide +kernel
theorem d_S_can_21 : decode b_S_can 21 = .ok (.goto 4, 3) := by decide +kernel
theorem d_S_can_24 : decode b_S_can 24 = .ok (.iconst 0, 1) := by decide +kernel
theorem d_S_can_25 : decode b_S_can 25 = .ok (.ireturn, 1) := by decide +kernel
theorem d_S_act_0 : decode b_S_act 0 = .ok (.aload_n 0, 1) := by decide +kernel
theorem d_S_act_1 : decode b_S_act 1 = .ok (.getfield 14, 3) := by decide +kernel
theorem d_S_act_4 : decode b_S_act 4 = .ok (.iload_n 1, 1) := by decide +kernel
theorem d_S_act_5 : decode b_S_act 5 = .ok (.invokevirtual 43, 3) := by decide +kernel
theorem d_S_act_8 : decode b_S_act 8 = .ok (.astore_n 2, 1) := by decide +kernel
theorem d_S_act_9 : decode b_S_act 9 = .ok (.aload_n 2, 1) := by decide +kernel
theorem d_S_act_10 : decode b_S_act 10 = .ok (.ifnull 10, 3) := by decide +kernel
theorem d_S_act_13 : decode b_S_act 13 = .ok (.aload_n 2, 1) := by decide +kernel
theorem d_S_act_14 : decode b_S_act 14 = .ok (.invokevirtual 47, 3) := by decide +kernel
theorem d_S_act_17 : decode b_S_act 17 = .ok (.ifCond .ne 5, 3) := by decide +kernel
theorem d_S_act_20 : decode b_S_act 20 = .ok (.iconst 0, 1) := by decide +kernel
theorem d_S_act_21 : decode b_S_act 21 = .ok (.ireturn, 1) := by decide +kernel
theorem d_S_act_22 : decode b_S_act 22 = .ok (.aload_n 2, 1) := by decide +kernel
theorem d_S_act_23 : decode b_S_act 23 = .ok (.invokevirtual 51, 3) := by decide +kernel
theorem d_S_act_26 : decode b_S_act 26 = .ok (.iconst 1, 1) := by decide +kernel
theorem d_S_act_27 : decode b_S_act 27 = .ok (.ireturn, 1) := by decide +kernel
theorem d_S_run_0 : decode b_S_run 0 = .ok (.iload_n 3, 1) := by decide +kernel
theorem d_S_run_1 : decode b_S_run 1 = .ok (.ifCond .lt 10, 3) := by decide +kernel
theorem d_S_run_4 : decode b_S_run 4 = .ok (.iload_n 3, 1) := by decide +kernel
theorem d_S_run_5 : decode b_S_run 5 = .ok (.sipush 2000, 3) := by decide +kernel
theorem d_S_run_8 : decode b_S_run 8 = .ok (.if_icmp .le 5, 3) := by decide +kernel
theorem d_S_run_11 : decode b_S_run 11 = .ok (.iconst (-1), 1) := by decide +kernel
theorem d_S_run_12 : decode b_S_run 12 = .ok (.ireturn, 1) := by decide +kernel
theorem d_S_run_13 : decode b_S_run 13 = .ok (.aload_n 0, 1) := by decide +kernel
theorem d_S_run_14 : decode b_S_run 14 = .ok (.getfield 14, 3) := by decide +kernel
theorem d_S_run_17 : decode b_S_run 17 = .ok (.lload_n 1, 1) := by decide +kernel
theorem d_S_run_18 : decode b_S_run 18 = .ok (.iload_n 3, 1) := by decide +kernel
theorem d_S_run_19 : decode b_S_run 19 = .ok (.invokevirtual 54, 3) := by decide +kernel
theorem d_S_run_22 : decode b_S_run 22 = .ok (.ireturn, 1) := by decide +kernel
theorem d_S_acted_0 : decode b_S_acted 0 = .ok (.aload_n 0, 1) := by decide +kernel
theorem d_S_acted_1 : decode b_S_acted 1 = .ok (.getfield 14, 3) := by decide +kernel
theorem d_S_acted_4 : decode b_S_acted 4 = .ok (.iload_n 1, 1) := by decide +kernel
theorem d_S_acted_5 : decode b_S_acted 5 = .ok (.invokevirtual 43, 3) := by decide +kernel
theorem d_S_acted_8 : decode b_S_acted 8 = .ok (.invokestatic 58, 3) := by decide +kernel
theorem d_S_acted_11 : decode b_S_acted 11 = .ok (.ireturn, 1) := by decide +kernel
theorem d_S_kept_0 : decode b_S_kept 0 = .ok (.aload_n 0, 1) := by decide +kernel
theorem d_S_kept_1 : decode b_S_kept 1 = .ok (.getfield 14, 3) := by decide +kernel
theorem d_S_kept_4 : decode b_S_kept 4 = .ok (.iload_n 1, 1) := by decide +kernel
theorem d_S_kept_5 : decode b_S_kept 5 = .ok (.bipush 6, 2) := by decide +kernel
theorem d_S_kept_7 : decode b_S_kept 7 = .ok (.invokevirtual 29, 3) := by decide +kernel
theorem d_S_kept_10 : decode b_S_kept 10 = .ok (.invokestatic 58, 3) := by decide +kernel
theorem d_S_kept_13 : decode b_S_kept 13 = .ok (.ireturn, 1) := by decide +kernel
theorem d_S_at_0 : decode b_S_at 0 = .ok (.aload_n 0, 1) := by decide +kernel
theorem d_S_at_1 : decode b_S_at 1 = .ok (.getfield 14, 3) := by decide +kernel
theorem d_S_at_4 : decode b_S_at 4 = .ok (.iload_n 1, 1) := by decide +kernel
theorem d_S_at_5 : decode b_S_at 5 = .ok (.bipush 6, 2) := by decide +kernel
theorem d_S_at_7 : decode b_S_at 7 = .ok (.invokevirtual 29, 3) := by decide +kernel
theorem d_S_at_10 : decode b_S_at 10 = .ok (.iload_n 2, 1) := by decide +kernel
theorem d_S_at_11 : decode b_S_at 11 = .ok (.invokestatic 62, 3) := by decide +kernel
theorem d_S_at_14 : decode b_S_at 14 = .ok (.lreturn, 1) := by decide +kernel
theorem d_S_waits_0 : decode b_S_waits 0 = .ok (.aload_n 0, 1) := by decide +kernel
theorem d_S_waits_1 : decode b_S_waits 1 = .ok (.getfield 14, 3) := by decide +kernel
theorem d_S_waits_4 : decode b_S_waits 4 = .ok (.iload_n 1, 1) := by decide +kernel
theorem d_S_waits_5 : decode b_S_waits 5 = .ok (.invokevirtual 66, 3) := by decide +kernel
theorem d_S_waits_8 : decode b_S_waits 8 = .ok (.astore_n 2, 1) := by decide +kernel
theorem d_S_waits_9 : decode b_S_waits 9 = .ok (.aload_n 2, 1) := by decide +kernel
theorem d_S_waits_10 : decode b_S_waits 10 = .ok (.ifnonnull 7, 3) := by decide +kernel
theorem d_S_waits_13 : decode b_S_waits 13 = .ok (.iconst (-1), 1) := by decide +kernel
theorem d_S_waits_14 : decode b_S_waits 14 = .ok (.goto 7, 3) := by decide +kernel
theorem d_S_waits_17 : decode b_S_waits 17 = .ok (.aload_n 2, 1) := by decide +kernel
theorem d_S_waits_18 : decode b_S_waits 18 = .ok (.invokevirtual 70, 3) := by decide +kernel
theorem d_S_waits_21 : decode b_S_waits 21 = .ok (.ireturn, 1) := by decide +kernel
theorem d_S_waiting_0 : decode b_S_waiting 0 = .ok (.aload_n 0, 1) := by decide +kernel
theorem d_S_waiting_1 : decode b_S_waiting 1 = .ok (.getfield 14, 3) := by decide +kernel
theorem d_S_waiting_4 : decode b_S_waiting 4 = .ok (.iload_n 1, 1) := by decide +kernel
theorem d_S_waiting_5 : decode b_S_waiting 5 = .ok (.invokevirtual 66, 3) := by decide +kernel
theorem d_S_waiting_8 : decode b_S_waiting 8 = .ok (.astore_n 3, 1) := by decide +kernel
theorem d_S_waiting_9 : decode b_S_waiting 9 = .ok (.aload_n 3, 1) := by decide +kernel
theorem d_S_waiting_10 : decode b_S_waiting 10 = .ok (.ifnull 15, 3) := by decide +kernel
theorem d_S_waiting_13 : decode b_S_waiting 13 = .ok (.iload_n 2, 1) := by decide +kernel
theorem d_S_waiting_14 : decode b_S_waiting 14 = .ok (.ifCond .lt 11, 3) := by decide +kernel
theorem d_S_waiting_17 : decode b_S_waiting 17 = .ok (.iload_n 2, 1) := by decide +kernel
theorem d_S_waiting_18 : decode b_S_waiting 18 = .ok (.aload_n 3, 1) := by decide +kernel
theorem d_S_waiting_19 : decode b_S_waiting 19 = .ok (.invokevirtual 70, 3) := by decide +kernel
theorem d_S_waiting_22 : decode b_S_waiting 22 = .ok (.if_icmp .lt 7, 3) := by decide +kernel
theorem d_S_waiting_25 : decode b_S_waiting 25 = .ok (.ldc2_w 76, 3) := by decide +kernel
theorem d_S_waiting_28 : decode b_S_waiting 28 = .ok (.lreturn, 1) := by decide +kernel
theorem d_S_waiting_29 : decode b_S_waiting 29 = .ok (.aload_n 3, 1) := by decide +kernel
theorem d_S_waiting_30 : decode b_S_waiting 30 = .ok (.iload_n 2, 1) := by decide +kernel
theorem d_S_waiting_31 : decode b_S_waiting 31 = .ok (.invokevirtual 78, 3) := by decide +kernel
theorem d_S_waiting_34 : decode b_S_waiting 34 = .ok (.i2l, 1) := by decide +kernel
theorem d_S_waiting_35 : decode b_S_waiting 35 = .ok (.lreturn, 1) := by decide +kernel
theorem d_S_keptAtLast_0 : decode b_S_keptAtLast 0 = .ok (.aload_n 0, 1) := by decide +kernel
theorem d_S_keptAtLast_1 : decode b_S_keptAtLast 1 = .ok (.invokevirtual 82, 3) := by decide +kernel
theorem d_S_keptAtLast_4 : decode b_S_keptAtLast 4 = .ok (.iload_n 1, 1) := by decide +kernel
theorem d_S_keptAtLast_5 : decode b_S_keptAtLast 5 = .ok (.bipush 6, 2) := by decide +kernel
theorem d_S_keptAtLast_7 : decode b_S_keptAtLast 7 = .ok (.invokevirtual 29, 3) := by decide +kernel
theorem d_S_keptAtLast_10 : decode b_S_keptAtLast 10 = .ok (.invokestatic 58, 3) := by decide +kernel
theorem d_S_keptAtLast_13 : decode b_S_keptAtLast 13 = .ok (.ireturn, 1) := by decide +kernel
theorem d_S_atLast_0 : decode b_S_atLast 0 = .ok (.aload_n 0, 1) := by decide +kernel
theorem d_S_atLast_1 : decode b_S_atLast 1 = .ok (.invokevirtual 82, 3) := by decide +kernel
theorem d_S_atLast_4 : decode b_S_atLast 4 = .ok (.iload_n 1, 1) := by decide +kernel
theorem d_S_atLast_5 : decode b_S_atLast 5 = .ok (.bipush 6, 2) := by decide +kernel
theorem d_S_atLast_7 : decode b_S_atLast 7 = .ok (.invokevirtual 29, 3) := by decide +kernel
theorem d_S_atLast_10 : decode b_S_atLast 10 = .ok (.iload_n 2, 1) := by decide +kernel
theorem d_S_atLast_11 : decode b_S_atLast 11 = .ok (.invokestatic 62, 3) := by decide +kernel
theorem d_S_atLast_14 : decode b_S_atLast 14 = .ok (.lreturn, 1) := by decide +kernel
theorem d_S_actedAtLast_0 : decode b_S_actedAtLast 0 = .ok (.aload_n 0, 1) := by decide +kernel
theorem d_S_actedAtLast_1 : decode b_S_actedAtLast 1 = .ok (.invokevirtual 82, 3) := by decide +kernel
theorem d_S_actedAtLast_4 : decode b_S_actedAtLast 4 = .ok (.iload_n 1, 1) := by decide +kernel
theorem d_S_actedAtLast_5 : decode b_S_actedAtLast 5 = .ok (.invokevirtual 43, 3) := by decide +kernel
theorem d_S_actedAtLast_8 : decode b_S_actedAtLast 8 = .ok (.invokestatic 58, 3) := by decide +kernel
theorem d_S_actedAtLast_11 : decode b_S_actedAtLast 11 = .ok (.ireturn, 1) := by decide +kernel
theorem d_S_fullAtLast_0 : decode b_S_fullAtLast 0 = .ok (.aload_n 0, 1) := by decide +kernel
theorem d_S_fullAtLast_1 : decode b_S_fullAtLast 1 = .ok (.invokevirtual 82, 3) := by decide +kernel
theorem d_S_fullAtLast_4 : decode b_S_fullAtLast 4 = .ok (.iload_n 1, 1) := by decide +kernel
theorem d_S_fullAtLast_5 : decode b_S_fullAtLast 5 = .ok (.invokevirtual 86, 3) := by decide +kernel
theorem d_S_fullAtLast_8 : decode b_S_fullAtLast 8 = .ok (.ireturn, 1) := by decide +kernel
theorem d_S_settled_0 : decode b_S_settled 0 = .ok (.aload_n 0, 1) := by decide +kernel
theorem d_S_settled_1 : decode b_S_settled 1 = .ok (.getfield 21, 3) := by decide +kernel
theorem d_S_settled_4 : decode b_S_settled 4 = .ok (.ifCond .ne 26, 3) := by decide +kernel
theorem d_S_settled_7 : decode b_S_settled 7 = .ok (.aload_n 0, 1) := by decide +kernel
theorem d_S_settled_8 : decode b_S_settled 8 = .ok (.getfield 18, 3) := by decide +kernel
theorem d_S_settled_11 : decode b_S_settled 11 = .ok (.aload_n 0, 1) := by decide +kernel
theorem d_S_settled_12 : decode b_S_settled 12 = .ok (.getfield 14, 3) := by decide +kernel
theorem d_S_settled_15 : decode b_S_settled 15 = .ok (.invokevirtual 89, 3) := by decide +kernel
theorem d_S_settled_18 : decode b_S_settled 18 = .ok (.aload_n 0, 1) := by decide +kernel
theorem d_S_settled_19 : decode b_S_settled 19 = .ok (.getfield 18, 3) := by decide +kernel
theorem d_S_settled_22 : decode b_S_settled 22 = .ok (.invokevirtual 93, 3) := by decide +kernel
theorem d_S_settled_25 : decode b_S_settled 25 = .ok (.aload_n 0, 1) := by decide +kernel
theorem d_S_settled_26 : decode b_S_settled 26 = .ok (.iconst 1, 1) := by decide +kernel
theorem d_S_settled_27 : decode b_S_settled 27 = .ok (.putfield 21, 3) := by decide +kernel
theorem d_S_settled_30 : decode b_S_settled 30 = .ok (.aload_n 0, 1) := by decide +kernel
theorem d_S_settled_31 : decode b_S_settled 31 = .ok (.getfield 18, 3) := by decide +kernel
theorem d_S_settled_34 : decode b_S_settled 34 = .ok (.areturn, 1) := by decide +kernel
theorem d_S_timesOf_0 : decode b_S_timesOf 0 = .ok (.aload_n 0, 1) := by decide +kernel
theorem d_S_timesOf_1 : decode b_S_timesOf 1 = .ok (.ifnonnull 7, 3) := by decide +kernel
theorem d_S_timesOf_4 : decode b_S_timesOf 4 = .ok (.iconst (-1), 1) := by decide +kernel
theorem d_S_timesOf_5 : decode b_S_timesOf 5 = .ok (.goto 7, 3) := by decide +kernel
theorem d_S_timesOf_8 : decode b_S_timesOf 8 = .ok (.aload_n 0, 1) := by decide +kernel
theorem d_S_timesOf_9 : decode b_S_timesOf 9 = .ok (.invokevirtual 96, 3) := by decide +kernel
theorem d_S_timesOf_12 : decode b_S_timesOf 12 = .ok (.ireturn, 1) := by decide +kernel
theorem d_S_keptValue_0 : decode b_S_keptValue 0 = .ok (.aload_n 0, 1) := by decide +kernel
theorem d_S_keptValue_1 : decode b_S_keptValue 1 = .ok (.ifnull 15, 3) := by decide +kernel
theorem d_S_keptValue_4 : decode b_S_keptValue 4 = .ok (.iload_n 1, 1) := by decide +kernel
theorem d_S_keptValue_5 : decode b_S_keptValue 5 = .ok (.ifCond .lt 11, 3) := by decide +kernel
theorem d_S_keptValue_8 : decode b_S_keptValue 8 = .ok (.iload_n 1, 1) := by decide +kernel
theorem d_S_keptValue_9 : decode b_S_keptValue 9 = .ok (.aload_n 0, 1) := by decide +kernel
theorem d_S_keptValue_10 : decode b_S_keptValue 10 = .ok (.invokevirtual 96, 3) := by decide +kernel
theorem d_S_keptValue_13 : decode b_S_keptValue 13 = .ok (.if_icmp .lt 7, 3) := by decide +kernel
theorem d_S_keptValue_16 : decode b_S_keptValue 16 = .ok (.ldc2_w 76, 3) := by decide +kernel
theorem d_S_keptValue_19 : decode b_S_keptValue 19 = .ok (.lreturn, 1) := by decide +kernel
theorem d_S_keptValue_20 : decode b_S_keptValue 20 = .ok (.aload_n 0, 1) := by decide +kernel
theorem d_S_keptValue_21 : decode b_S_keptValue 21 = .ok (.iload_n 1, 1) := by decide +kernel
theorem d_S_keptValue_22 : decode b_S_keptValue 22 = .ok (.invokevirtual 99, 3) := by decide +kernel
theorem d_S_keptValue_25 : decode b_S_keptValue 25 = .ok (.i2l, 1) := by decide +kernel
theorem d_S_keptValue_26 : decode b_S_keptValue 26 = .ok (.lreturn, 1) := by decide +kernel
theorem d_A_init_0 : decode b_A_init 0 = .ok (.aload_n 0, 1) := by decide +kernel
theorem d_A_init_1 : decode b_A_init 1 = .ok (.invokespecial 3, 3) := by decide +kernel
theorem d_A_init_4 : decode b_A_init 4 = .ok (.aload_n 0, 1) := by decide +kernel
theorem d_A_init_5 : decode b_A_init 5 = .ok (.iload_n 1, 1) := by decide +kernel
theorem d_A_init_6 : decode b_A_init 6 = .ok (.putfield 9, 3) := by decide +kernel
theorem d_A_init_9 : decode b_A_init 9 = .ok (.aload_n 0, 1) := by decide +kernel
theorem d_A_init_10 : decode b_A_init 10 = .ok (.iload_n 2, 1) := by decide +kernel
theorem d_A_init_11 : decode b_A_init 11 = .ok (.putfield 15, 3) := by decide +kernel
theorem d_A_init_14 : decode b_A_init 14 = .ok (.aload_n 0, 1) := by decide +kernel
theorem d_A_init_15 : decode b_A_init 15 = .ok (.iload_n 3, 1) := by decide +kernel
theorem d_A_init_16 : decode b_A_init 16 = .ok (.putfield 18, 3) := by decide +kernel
theorem d_A_init_19 : decode b_A_init 19 = .ok (.aload_n 0, 1) := by decide +kernel
theorem d_A_init_20 : decode b_A_init 20 = .ok (.iconst 2, 1) := by decide +kernel
theorem d_A_init_21 : decode b_A_init 21 = .ok (.anewarray 21, 3) := by decide +kernel
theorem d_A_init_24 : decode b_A_init 24 = .ok (.putfield 23, 3) := by decide +kernel
theorem d_A_init_27 : decode b_A_init 27 = .ok (.aload_n 0, 1) := by decide +kernel
theorem d_A_init_28 : decode b_A_init 28 = .ok (.iconst 2, 1) := by decide +kernel
theorem d_A_init_29 : decode b_A_init 29 = .ok (.anewarray 21, 3) := by decide +kernel
theorem d_A_init_32 : decode b_A_init 32 = .ok (.putfield 27, 3) := by decide +kernel
theorem d_A_init_35 : decode b_A_init 35 = .ok (.aload_n 0, 1) := by decide +kernel
theorem d_A_init_36 : decode b_A_init 36 = .ok (.getstatic 30, 3) := by decide +kernel
theorem d_A_init_39 : decode b_A_init 39 = .ok (.iload_n 1, 1) := by decide +kernel
theorem d_A_init_40 : decode b_A_init 40 = .ok (.iaload, 1) := by decide +kernel
theorem d_A_init_41 : decode b_A_init 41 = .ok (.newarray .int, 2) := by decide +kernel
theorem d_A_init_43 : decode b_A_init 43 = .ok (.putfield 34, 3) := by decide +kernel
theorem d_A_init_46 : decode b_A_init 46 = .ok (.aload_n 0, 1) := by decide +kernel
theorem d_A_init_47 : decode b_A_init 47 = .ok (.iconst 0, 1) := by decide +kernel
theorem d_A_init_48 : decode b_A_init 48 = .ok (.putfield 37, 3) := by decide +kernel
theorem d_A_init_51 : decode b_A_init 51 = .ok (.aload_n 0, 1) := by decide +kernel
theorem d_A_init_52 : decode b_A_init 52 = .ok (.iconst 0, 1) := by decide +kernel
theorem d_A_init_53 : decode b_A_init 53 = .ok (.putfield 40, 3) := by decide +kernel
theorem d_A_init_56 : decode b_A_init 56 = .ok (.return_, 1) := by decide +kernel
theorem d_A_isKind_0 : decode b_A_isKind 0 = .ok (.aload_n 0, 1) := by decide +kernel
theorem d_A_isKind_1 : decode b_A_isKind 1 = .ok (.getfield 9, 3) := by decide +kernel
theorem d_A_isKind_4 : decode b_A_isKind 4 = .ok (.iload_n 1, 1) := by decide +kernel
theorem d_A_isKind_5 : decode b_A_isKind 5 = .ok (.if_icmp .ne 7, 3) := by decide +kernel
theorem d_A_isKind_8 : decode b_A_isKind 8 = .ok (.iconst 1, 1) := by decide +kernel
theorem d_A_isKind_9 : decode b_A_isKind 9 = .ok (.goto 4, 3) := by decide +kernel
theorem d_A_isKind_12 : decode b_A_isKind 12 = .ok (.iconst 0, 1) := by decide +kernel
theorem d_A_isKind_13 : decode b_A_isKind 13 = .ok (.ireturn, 1) := by decide +kernel
theorem d_A_times_0 : decode b_A_times 0 = .ok (.aload_n 0, 1) := by decide +kernel
theorem d_A_times_1 : decode b_A_times 1 = .ok (.getfield 40, 3) := by decide +kernel
theorem d_A_times_4 : decode b_A_times 4 = .ok (.ireturn, 1) := by decide +kernel
theorem d_A_rowValue_0 : decode b_A_rowValue 0 = .ok (.iload_n 1, 1) := by decide +kernel
theorem d_A_rowValue_1 : decode b_A_rowValue 1 = .ok (.ifCond .lt 21, 3) := by decide +kernel
theorem d_A_rowValue_4 : decode b_A_rowValue 4 = .ok (.iload_n 1, 1) := by decide +kernel
theorem d_A_rowValue_5 : decode b_A_rowValue 5 = .ok (.aload_n 0, 1) := by decide +kernel
theorem d_A_rowValue_6 : decode b_A_rowValue 6 = .ok (.getfield 34, 3) := by decide +kernel
theorem d_A_rowValue_9 : decode b_A_rowValue 9 = .ok (.arraylength, 1) := by decide +kernel
theorem d_A_rowValue_10 : decode b_A_rowValue 10 = .ok (.if_icmp .ge 12, 3) := by decide +kernel
theorem d_A_rowValue_13 : decode b_A_rowValue 13 = .ok (.aload_n 0, 1) := by decide +kernel
theorem d_A_rowValue_14 : decode b_A_rowValue 14 = .ok (.getfield 34, 3) := by decide +kernel
theorem d_A_rowValue_17 : decode b_A_rowValue 17 = .ok (.iload_n 1, 1) := by decide +kernel
theorem d_A_rowValue_18 : decode b_A_rowValue 18 = .ok (.iaload, 1) := by decide +kernel
theorem d_A_rowValue_19 : decode b_A_rowValue 19 = .ok (.goto 4, 3) := by decide +kernel
theorem d_A_rowValue_22 : decode b_A_rowValue 22 = .ok (.iconst 0, 1) := by decide +kernel
theorem d_A_rowValue_23 : decode b_A_rowValue 23 = .ok (.ireturn, 1) := by decide +kernel
theorem d_A_tell_0 : decode b_A_tell 0 = .ok (.aload_n 0, 1) := by decide +kernel
theorem d_A_tell_1 : decode b_A_tell 1 = .ok (.getfield 37, 3) := by decide +kernel
theorem d_A_tell_4 : decode b_A_tell 4 = .ok (.aload_n 0, 1) := by decide +kernel
theorem d_A_tell_5 : decode b_A_tell 5 = .ok (.getfield 34, 3) := by decide +kernel
theorem d_A_tell_8 : decode b_A_tell 8 = .ok (.arraylength, 1) := by decide +kernel
theorem d_A_tell_9 : decode b_A_tell 9 = .ok (.if_icmp .lt 5, 3) := by decide +kernel
theorem d_A_tell_12 : decode b_A_tell 12 = .ok (.iconst 0, 1) := by decide +kernel
theorem d_A_tell_13 : decode b_A_tell 13 = .ok (.ireturn, 1) := by decide +kernel
theorem d_A_tell_14 : decode b_A_tell 14 = .ok (.aload_n 0, 1) := by decide +kernel
theorem d_A_tell_15 : decode b_A_tell 15 = .ok (.getfield 34, 3) := by decide +kernel
theorem d_A_tell_18 : decode b_A_tell 18 = .ok (.aload_n 0, 1) := by decide +kernel
theorem d_A_tell_19 : decode b_A_tell 19 = .ok (.getfield 37, 3) := by decide +kernel
theorem d_A_tell_22 : decode b_A_tell 22 = .ok (.iload_n 1, 1) := by decide +kernel
theorem d_A_tell_23 : decode b_A_tell 23 = .ok (.iastore, 1) := by decide +kernel
theorem d_A_tell_24 : decode b_A_tell 24 = .ok (.aload_n 0, 1) := by decide +kernel
theorem d_A_tell_25 : decode b_A_tell 25 = .ok (.dup, 1) := by decide +kernel
theorem d_A_tell_26 : decode b_A_tell 26 = .ok (.getfield 37, 3) := by decide +kernel
theorem d_A_tell_29 : decode b_A_tell 29 = .ok (.iconst 1, 1) := by decide +kernel
theorem d_A_tell_30 : decode b_A_tell 30 = .ok (.iadd, 1) := by decide +kernel
theorem d_A_tell_31 : decode b_A_tell 31 = .ok (.putfield 37, 3) := by decide +kernel
theorem d_A_tell_34 : decode b_A_tell 34 = .ok (.iconst 1, 1) := by decide +kernel
theorem d_A_tell_35 : decode b_A_tell 35 = .ok (.ireturn, 1) := by decide +kernel
theorem d_A_hasFreeIn_0 : decode b_A_hasFreeIn 0 = .ok (.iload_n 1, 1) := by decide +kernel
theorem d_A_hasFreeIn_1 : decode b_A_hasFreeIn 1 = .ok (.ifCond .lt 28, 3) := by decide +kernel
theorem d_A_hasFreeIn_4 : decode b_A_hasFreeIn 4 = .ok (.iload_n 1, 1) := by decide +kernel
theorem d_A_hasFreeIn_5 : decode b_A_hasFreeIn 5 = .ok (.getstatic 43, 3) := by decide +kernel
theorem d_A_hasFreeIn_8 : decode b_A_hasFreeIn 8 = .ok (.aload_n 0, 1) := by decide +kernel
theorem d_A_hasFreeIn_9 : decode b_A_hasFreeIn 9 = .ok (.getfield 9, 3) := by decide +kernel
theorem d_A_hasFreeIn_12 : decode b_A_hasFreeIn 12 = .ok (.iaload, 1) := by decide +kernel
theorem d_A_hasFreeIn_13 : decode b_A_hasFreeIn 13 = .ok (.if_icmp .ge 16, 3) := by decide +kernel
theorem d_A_hasFreeIn_16 : decode b_A_hasFreeIn 16 = .ok (.aload_n 0, 1) := by decide +kernel
theorem d_A_hasFreeIn_17 : decode b_A_hasFreeIn 17 = .ok (.getfield 23, 3) := by decide +kernel
theorem d_A_hasFreeIn_20 : decode b_A_hasFreeIn 20 = .ok (.iload_n 1, 1) := by decide +kernel
theorem d_A_hasFreeIn_21 : decode b_A_hasFreeIn 21 = .ok (.aaload, 1) := by decide +kernel
theorem d_A_hasFreeIn_22 : decode b_A_hasFreeIn 22 = .ok (.ifnonnull 7, 3) := by decide +kernel
theorem d_A_hasFreeIn_25 : decode b_A_hasFreeIn 25 = .ok (.iconst 1, 1) := by decide +kernel
theorem d_A_hasFreeIn_26 : decode b_A_hasFreeIn 26 = .ok (.goto 4, 3) := by decide +kernel
theorem d_A_hasFreeIn_29 : decode b_A_hasFreeIn 29 = .ok (.iconst 0, 1) := by decide +kernel
theorem d_A_hasFreeIn_30 : decode b_A_hasFreeIn 30 = .ok (.ireturn, 1) := by decide +kernel
theorem d_A_hasFreeOut_0 : decode b_A_hasFreeOut 0 = .ok (.iload_n 1, 1) := by decide +kernel
theorem d_A_hasFreeOut_1 : decode b_A_hasFreeOut 1 = .ok (.ifCond .lt 28, 3) := by decide +kernel
theorem d_A_hasFreeOut_4 : decode b_A_hasFreeOut 4 = .ok (.iload_n 1, 1) := by decide +kernel
theorem d_A_hasFreeOut_5 : decode b_A_hasFreeOut 5 = .ok (.getstatic 46, 3) := by decide +kernel
theorem d_A_hasFreeOut_8 : decode b_A_hasFreeOut 8 = .ok (.aload_n 0, 1) := by decide +kernel
theorem d_A_hasFreeOut_9 : decode b_A_hasFreeOut 9 = .ok (.getfield 9, 3) := by decide +kernel
theorem d_A_hasFreeOut_12 : decode b_A_hasFreeOut 12 = .ok (.iaload, 1) := by decide +kernel
theorem d_A_hasFreeOut_13 : decode b_A_hasFreeOut 13 = .ok (.if_icmp .ge 16, 3) := by decide +kernel
theorem d_A_hasFreeOut_16 : decode b_A_hasFreeOut 16 = .ok (.aload_n 0, 1) := by decide +kernel
theorem d_A_hasFreeOut_17 : decode b_A_hasFreeOut 17 = .ok (.getfield 27, 3) := by decide +kernel
theorem d_A_hasFreeOut_20 : decode b_A_hasFreeOut 20 = .ok (.iload_n 1, 1) := by decide +kernel
theorem d_A_hasFreeOut_21 : decode b_A_hasFreeOut 21 = .ok (.aaload, 1) := by decide +kernel
theorem d_A_hasFreeOut_22 : decode b_A_hasFreeOut 22 = .ok (.ifnonnull 7, 3) := by decide +kernel
theorem d_A_hasFreeOut_25 : decode b_A_hasFreeOut 25 = .ok (.iconst 1, 1) := by decide +kernel
theorem d_A_hasFreeOut_26 : decode b_A_hasFreeOut 26 = .ok (.goto 4, 3) := by decide +kernel
theorem d_A_hasFreeOut_29 : decode b_A_hasFreeOut 29 = .ok (.iconst 0, 1) := by decide +kernel
theorem d_A_hasFreeOut_30 : decode b_A_hasFreeOut 30 = .ok (.ireturn, 1) := by decide +kernel
theorem d_A_joinIn_0 : decode b_A_joinIn 0 = .ok (.aload_n 0, 1) := by decide +kernel
theorem d_A_joinIn_1 : decode b_A_joinIn 1 = .ok (.getfield 23, 3) := by decide +kernel
theorem d_A_joinIn_4 : decode b_A_joinIn 4 = .ok (.iload_n 1, 1) := by decide +kernel
theorem d_A_joinIn_5 : decode b_A_joinIn 5 = .ok (.aload_n 2, 1) := by decide +kernel
theorem d_A_joinIn_6 : decode b_A_joinIn 6 = .ok (.aastore, 1) := by decide +kernel
theorem d_A_joinIn_7 : decode b_A_joinIn 7 = .ok (.return_, 1) := by decide +kernel
theorem d_A_joinOut_0 : decode b_A_joinOut 0 = .ok (.aload_n 0, 1) := by decide +kernel
theorem d_A_joinOut_1 : decode b_A_joinOut 1 = .ok (.getfield 27, 3) := by decide +kernel
theorem d_A_joinOut_4 : decode b_A_joinOut 4 = .ok (.iload_n 1, 1) := by decide +kernel
theorem d_A_joinOut_5 : decode b_A_joinOut 5 = .ok (.aload_n 2, 1) := by decide +kernel
theorem d_A_joinOut_6 : decode b_A_joinOut 6 = .ok (.aastore, 1) := by decide +kernel
theorem d_A_joinOut_7 : decode b_A_joinOut 7 = .ok (.return_, 1) := by decide +kernel
theorem d_A_isReady_0 : decode b_A_isReady 0 = .ok (.aload_n 0, 1) := by decide +kernel
theorem d_A_isReady_1 : decode b_A_isReady 1 = .ok (.getfield 40, 3) := by decide +kernel
theorem d_A_isReady_4 : decode b_A_isReady 4 = .ok (.bipush 100, 2) := by decide +kernel
theorem d_A_isReady_6 : decode b_A_isReady 6 = .ok (.if_icmp .lt 5, 3) := by decide +kernel
theorem d_A_isReady_9 : decode b_A_isReady 9 = .ok (.iconst 0, 1) := by decide +kernel
theorem d_A_isReady_10 : decode b_A_isReady 10 = .ok (.ireturn, 1) := by decide +kernel
theorem d_A_isReady_11 : decode b_A_isReady 11 = .ok (.aload_n 0, 1) := by decide +kernel
theorem d_A_isReady_12 : decode b_A_isReady 12 = .ok (.getfield 9, 3) := by decide +kernel
theorem d_A_isReady_15 : decode b_A_isReady 15 = .ok (.tableswitch 296 0 8 #[49, 74, 96, 121, 146, 176, 205, 228, 266], 49) := by decide +kernel
theorem d_A_isReady_64 : decode b_A_isReady 64 = .ok (.aload_n 0, 1) := by decide +kernel
theorem d_A_isReady_65 : decode b_A_isReady 65 = .ok (.getfield 40, 3) := by decide +kernel
theorem d_A_isReady_68 : decode b_A_isReady 68 = .ok (.aload_n 0, 1) := by decide +kernel
theorem d_A_isReady_69 : decode b_A_isReady 69 = .ok (.getfield 37, 3) := by decide +kernel
theorem d_A_isReady_72 : decode b_A_isReady 72 = .ok (.if_icmp .ge 15, 3) := by decide +kernel
theorem d_A_isReady_75 : decode b_A_isReady 75 = .ok (.aload_n 0, 1) := by decide +kernel
theorem d_A_isReady_76 : decode b_A_isReady 76 = .ok (.iconst 0, 1) := by decide +kernel
theorem d_A_isReady_77 : decode b_A_isReady 77 = .ok (.invokevirtual 49, 3) := by decide +kernel
theorem d_A_isReady_80 : decode b_A_isReady 80 = .ok (.ifCond .eq 7, 3) := by decide +kernel
theorem d_A_isReady_83 : decode b_A_isReady 83 = .ok (.iconst 1, 1) := by decide +kernel
theorem d_A_isReady_84 : decode b_A_isReady 84 = .ok (.goto 4, 3) := by decide +kernel
theorem d_A_isReady_87 : decode b_A_isReady 87 = .ok (.iconst 0, 1) := by decide +kernel
theorem d_A_isReady_88 : decode b_A_isReady 88 = .ok (.ireturn, 1) := by decide +kernel
theorem d_A_isReady_89 : decode b_A_isReady 89 = .ok (.aload_n 0, 1) := by decide +kernel
theorem d_A_isReady_90 : decode b_A_isReady 90 = .ok (.iconst 0, 1) := by decide +kernel
theorem d_A_isReady_91 : decode b_A_isReady 91 = .ok (.invokevirtual 53, 3) := by decide +kernel
theorem d_A_isReady_94 : decode b_A_isReady 94 = .ok (.ifCond .eq 15, 3) := by decide +kernel
theorem d_A_isReady_97 : decode b_A_isReady 97 = .ok (.aload_n 0, 1) := by decide +kernel
theorem d_A_isReady_98 : decode b_A_isReady 98 = .ok (.iconst 0, 1) := by decide +kernel
theorem d_A_isReady_99 : decode b_A_isReady 99 = .ok (.invokevirtual 49, 3) := by decide +kernel
theorem d_A_isReady_102 : decode b_A_isReady 102 = .ok (.ifCond .eq 7, 3) := by decide +kernel
theorem d_A_isReady_105 : decode b_A_isReady 105 = .ok (.iconst 1, 1) := by decide +kernel
theorem d_A_isReady_106 : decode b_A_isReady 106 = .ok (.goto 4, 3) := by decide +kernel
theorem d_A_isReady_109 : decode b_A_isReady 109 = .ok (.iconst 0, 1) := by decide +kernel
theorem d_A_isReady_110 : decode b_A_isReady 110 = .ok (.ireturn, 1) := by decide +kernel
theorem d_A_isReady_111 : decode b_A_isReady 111 = .ok (.aload_n 0, 1) := by decide +kernel
theorem d_A_isReady_112 : decode b_A_isReady 112 = .ok (.iconst 0, 1) := by decide +kernel
theorem d_A_isReady_113 : decode b_A_isReady 113 = .ok (.invokevirtual 53, 3) := by decide +kernel
theorem d_A_isReady_116 : decode b_A_isReady 116 = .ok (.ifCond .eq 18, 3) := by decide +kernel
theorem d_A_isReady_119 : decode b_A_isReady 119 = .ok (.aload_n 0, 1) := by decide +kernel
theorem d_A_isReady_120 : decode b_A_isReady 120 = .ok (.aload_n 0, 1) := by decide +kernel
theorem d_A_isReady_121 : decode b_A_isReady 121 = .ok (.invokevirtual 56, 3) := by decide +kernel
theorem d_A_isReady_124 : decode b_A_isReady 124 = .ok (.invokevirtual 49, 3) := by decide +kernel
theorem d_A_isReady_127 : decode b_A_isReady 127 = .ok (.ifCond .eq 7, 3) := by decide +kernel
theorem d_A_isReady_130 : decode b_A_isReady 130 = .ok (.iconst 1, 1) := by decide +kernel
theorem d_A_isReady_131 : decode b_A_isReady 131 = .ok (.goto 4, 3) := by decide +kernel
theorem d_A_isReady_134 : decode b_A_isReady 134 = .ok (.iconst 0, 1) := by decide +kernel
theorem d_A_isReady_135 : decode b_A_isReady 135 = .ok (.ireturn, 1) := by decide +kernel
theorem d_A_isReady_136 : decode b_A_isReady 136 = .ok (.aload_n 0, 1) := by decide +kernel
theorem d_A_isReady_137 : decode b_A_isReady 137 = .ok (.aload_n 0, 1) := by decide +kernel
theorem d_A_isReady_138 : decode b_A_isReady 138 = .ok (.invokevirtual 56, 3) := by decide +kernel
theorem d_A_isReady_141 : decode b_A_isReady 141 = .ok (.invokevirtual 53, 3) := by decide +kernel
theorem d_A_isReady_144 : decode b_A_isReady 144 = .ok (.ifCond .eq 15, 3) := by decide +kernel
theorem d_A_isReady_147 : decode b_A_isReady 147 = .ok (.aload_n 0, 1) := by decide +kernel
theorem d_A_isReady_148 : decode b_A_isReady 148 = .ok (.iconst 0, 1) := by decide +kernel
theorem d_A_isReady_149 : decode b_A_isReady 149 = .ok (.invokevirtual 49, 3) := by decide +kernel
theorem d_A_isReady_152 : decode b_A_isReady 152 = .ok (.ifCond .eq 7, 3) := by decide +kernel
theorem d_A_isReady_155 : decode b_A_isReady 155 = .ok (.iconst 1, 1) := by decide +kernel
theorem d_A_isReady_156 : decode b_A_isReady 156 = .ok (.goto 4, 3) := by decide +kernel
theorem d_A_isReady_159 : decode b_A_isReady 159 = .ok (.iconst 0, 1) := by decide +kernel
theorem d_A_isReady_160 : decode b_A_isReady 160 = .ok (.ireturn, 1) := by decide +kernel
theorem d_A_isReady_161 : decode b_A_isReady 161 = .ok (.aload_n 0, 1) := by decide +kernel
theorem d_A_isReady_162 : decode b_A_isReady 162 = .ok (.iconst 0, 1) := by decide +kernel
theorem d_A_isReady_163 : decode b_A_isReady 163 = .ok (.invokevirtual 53, 3) := by decide +kernel
theorem d_A_isReady_166 : decode b_A_isReady 166 = .ok (.ifCond .eq 23, 3) := by decide +kernel
theorem d_A_isReady_169 : decode b_A_isReady 169 = .ok (.aload_n 0, 1) := by decide +kernel
theorem d_A_isReady_170 : decode b_A_isReady 170 = .ok (.iconst 1, 1) := by decide +kernel
theorem d_A_isReady_171 : decode b_A_isReady 171 = .ok (.invokevirtual 53, 3) := by decide +kernel
theorem d_A_isReady_174 : decode b_A_isReady 174 = .ok (.ifCond .eq 15, 3) := by decide +kernel
theorem d_A_isReady_177 : decode b_A_isReady 177 = .ok (.aload_n 0, 1) := by decide +kernel
theorem d_A_isReady_178 : decode b_A_isReady 178 = .ok (.iconst 0, 1) := by decide +kernel
theorem d_A_isReady_179 : decode b_A_isReady 179 = .ok (.invokevirtual 49, 3) := by decide +kernel
theorem d_A_isReady_182 : decode b_A_isReady 182 = .ok (.ifCond .eq 7, 3) := by decide +kernel
theorem d_A_isReady_185 : decode b_A_isReady 185 = .ok (.iconst 1, 1) := by decide +kernel
theorem d_A_isReady_186 : decode b_A_isReady 186 = .ok (.goto 4, 3) := by decide +kernel
theorem d_A_isReady_189 : decode b_A_isReady 189 = .ok (.iconst 0, 1) := by decide +kernel
theorem d_A_isReady_190 : decode b_A_isReady 190 = .ok (.ireturn, 1) := by decide +kernel
theorem d_A_isReady_191 : decode b_A_isReady 191 = .ok (.aload_n 0, 1) := by decide +kernel
theorem d_A_isReady_192 : decode b_A_isReady 192 = .ok (.getfield 40, 3) := by decide +kernel
theorem d_A_isReady_195 : decode b_A_isReady 195 = .ok (.ifCond .eq 11, 3) := by decide +kernel
theorem d_A_isReady_198 : decode b_A_isReady 198 = .ok (.aload_n 0, 1) := by decide +kernel
theorem d_A_isReady_199 : decode b_A_isReady 199 = .ok (.iconst 0, 1) := by decide +kernel
theorem d_A_isReady_200 : decode b_A_isReady 200 = .ok (.invokevirtual 53, 3) := by decide +kernel
theorem d_A_isReady_203 : decode b_A_isReady 203 = .ok (.ifCond .eq 15, 3) := by decide +kernel
theorem d_A_isReady_206 : decode b_A_isReady 206 = .ok (.aload_n 0, 1) := by decide +kernel
theorem d_A_isReady_207 : decode b_A_isReady 207 = .ok (.iconst 0, 1) := by decide +kernel
theorem d_A_isReady_208 : decode b_A_isReady 208 = .ok (.invokevirtual 49, 3) := by decide +kernel
theorem d_A_isReady_211 : decode b_A_isReady 211 = .ok (.ifCond .eq 7, 3) := by decide +kernel
theorem d_A_isReady_214 : decode b_A_isReady 214 = .ok (.iconst 1, 1) := by decide +kernel
theorem d_A_isReady_215 : decode b_A_isReady 215 = .ok (.goto 4, 3) := by decide +kernel
theorem d_A_isReady_218 : decode b_A_isReady 218 = .ok (.iconst 0, 1) := by decide +kernel
theorem d_A_isReady_219 : decode b_A_isReady 219 = .ok (.ireturn, 1) := by decide +kernel
theorem d_A_isReady_220 : decode b_A_isReady 220 = .ok (.aload_n 0, 1) := by decide +kernel
theorem d_A_isReady_221 : decode b_A_isReady 221 = .ok (.iconst 0, 1) := by decide +kernel
theorem d_A_isReady_222 : decode b_A_isReady 222 = .ok (.invokevirtual 53, 3) := by decide +kernel
theorem d_A_isReady_225 : decode b_A_isReady 225 = .ok (.ifCond .eq 16, 3) := by decide +kernel
theorem d_A_isReady_228 : decode b_A_isReady 228 = .ok (.aload_n 0, 1) := by decide +kernel
theorem d_A_isReady_229 : decode b_A_isReady 229 = .ok (.getfield 40, 3) := by decide +kernel
theorem d_A_isReady_232 : decode b_A_isReady 232 = .ok (.bipush 60, 2) := by decide +kernel
theorem d_A_isReady_234 : decode b_A_isReady 234 = .ok (.if_icmp .ge 7, 3) := by decide +kernel
theorem d_A_isReady_237 : decode b_A_isReady 237 = .ok (.iconst 1, 1) := by decide +kernel
theorem d_A_isReady_238 : decode b_A_isReady 238 = .ok (.goto 4, 3) := by decide +kernel
theorem d_A_isReady_241 : decode b_A_isReady 241 = .ok (.iconst 0, 1) := by decide +kernel
theorem d_A_isReady_242 : decode b_A_isReady 242 = .ok (.ireturn, 1) := by decide +kernel
theorem d_A_isReady_243 : decode b_A_isReady 243 = .ok (.aload_n 0, 1) := by decide +kernel
theorem d_A_isReady_244 : decode b_A_isReady 244 = .ok (.iconst 0, 1) := by decide +kernel
theorem d_A_isReady_245 : decode b_A_isReady 245 = .ok (.invokevirtual 53, 3) := by decide +kernel
theorem d_A_isReady_248 : decode b_A_isReady 248 = .ok (.ifCond .eq 31, 3) := by decide +kernel
theorem d_A_isReady_251 : decode b_A_isReady 251 = .ok (.aload_n 0, 1) := by decide +kernel
theorem d_A_isReady_252 : decode b_A_isReady 252 = .ok (.iconst 1, 1) := by decide +kernel
theorem d_A_isReady_253 : decode b_A_isReady 253 = .ok (.invokevirtual 53, 3) := by decide +kernel
theorem d_A_isReady_256 : decode b_A_isReady 256 = .ok (.ifCond .eq 23, 3) := by decide +kernel
theorem d_A_isReady_259 : decode b_A_isReady 259 = .ok (.aload_n 0, 1) := by decide +kernel
theorem d_A_isReady_260 : decode b_A_isReady 260 = .ok (.iconst 0, 1) := by decide +kernel
theorem d_A_isReady_261 : decode b_A_isReady 261 = .ok (.invokevirtual 60, 3) := by decide +kernel
theorem d_A_isReady_264 : decode b_A_isReady 264 = .ok (.ifCond .ne 11, 3) := by decide +kernel
theorem d_A_isReady_267 : decode b_A_isReady 267 = .ok (.aload_n 0, 1) := by decide +kernel
theorem d_A_isReady_268 : decode b_A_isReady 268 = .ok (.iconst 0, 1) := by decide +kernel
theorem d_A_isReady_269 : decode b_A_isReady 269 = .ok (.invokevirtual 49, 3) := by decide +kernel
theorem d_A_isReady_272 : decode b_A_isReady 272 = .ok (.ifCond .eq 7, 3) := by decide +kernel
theorem d_A_isReady_275 : decode b_A_isReady 275 = .ok (.iconst 1, 1) := by decide +kernel
theorem d_A_isReady_276 : decode b_A_isReady 276 = .ok (.goto 4, 3) := by decide +kernel
theorem d_A_isReady_279 : decode b_A_isReady 279 = .ok (.iconst 0, 1) := by decide +kernel
theorem d_A_isReady_280 : decode b_A_isReady 280 = .ok (.ireturn, 1) := by decide +kernel
theorem d_A_isReady_281 : decode b_A_isReady 281 = .ok (.aload_n 0, 1) := by decide +kernel
theorem d_A_isReady_282 : decode b_A_isReady 282 = .ok (.iconst 0, 1) := by decide +kernel
theorem d_A_isReady_283 : decode b_A_isReady 283 = .ok (.invokevirtual 53, 3) := by decide +kernel
theorem d_A_isReady_286 : decode b_A_isReady 286 = .ok (.ifCond .eq 23, 3) := by decide +kernel
theorem d_A_isReady_289 : decode b_A_isReady 289 = .ok (.aload_n 0, 1) := by decide +kernel
theorem d_A_isReady_290 : decode b_A_isReady 290 = .ok (.iconst 0, 1) := by decide +kernel
theorem d_A_isReady_291 : decode b_A_isReady 291 = .ok (.invokevirtual 49, 3) := by decide +kernel
theorem d_A_isReady_294 : decode b_A_isReady 294 = .ok (.ifCond .eq 15, 3) := by decide +kernel
theorem d_A_isReady_297 : decode b_A_isReady 297 = .ok (.aload_n 0, 1) := by decide +kernel
theorem d_A_isReady_298 : decode b_A_isReady 298 = .ok (.iconst 1, 1) := by decide +kernel
theorem d_A_isReady_299 : decode b_A_isReady 299 = .ok (.invokevirtual 49, 3) := by decide +kernel
theorem d_A_isReady_302 : decode b_A_isReady 302 = .ok (.ifCond .eq 7, 3) := by decide +kernel
theorem d_A_isReady_305 : decode b_A_isReady 305 = .ok (.iconst 1, 1) := by decide +kernel
theorem d_A_isReady_306 : decode b_A_isReady 306 = .ok (.goto 4, 3) := by decide +kernel
theorem d_A_isReady_309 : decode b_A_isReady 309 = .ok (.iconst 0, 1) := by decide +kernel
theorem d_A_isReady_310 : decode b_A_isReady 310 = .ok (.ireturn, 1) := by decide +kernel
theorem d_A_isReady_311 : decode b_A_isReady 311 = .ok (.iconst 0, 1) := by decide +kernel
theorem d_A_isReady_312 : decode b_A_isReady 312 = .ok (.ireturn, 1) := by decide +kernel
theorem d_A_step_0 : decode b_A_step 0 = .ok (.aload_n 0, 1) := by decide +kernel
theorem d_A_step_1 : decode b_A_step 1 = .ok (.getfield 9, 3) := by decide +kernel
theorem d_A_step_4 : decode b_A_step 4 = .ok (.tableswitch 235 0 8 #[52, 68, 91, 107, 123, 142, 169, 181, 214], 52) := by decide +kernel
theorem d_A_step_56 : decode b_A_step 56 = .ok (.aload_n 0, 1) := by decide +kernel
theorem d_A_step_57 : decode b_A_step 57 = .ok (.iconst 0, 1) := by decide +kernel
theorem d_A_step_58 : decode b_A_step 58 = .ok (.aload_n 0, 1) := by decide +kernel
theorem d_A_step_59 : decode b_A_step 59 = .ok (.aload_n 0, 1) := by decide +kernel
theorem d_A_step_60 : decode b_A_step 60 = .ok (.getfield 40, 3) := by decide +kernel
theorem d_A_step_63 : decode b_A_step 63 = .ok (.invokevirtual 63, 3) := by decide +kernel
theorem d_A_step_66 : decode b_A_step 66 = .ok (.invokevirtual 67, 3) := by decide +kernel
theorem d_A_step_69 : decode b_A_step 69 = .ok (.goto 170, 3) := by decide +kernel
theorem d_A_step_72 : decode b_A_step 72 = .ok (.aload_n 0, 1) := by decide +kernel
theorem d_A_step_73 : decode b_A_step 73 = .ok (.iconst 0, 1) := by decide +kernel
theorem d_A_step_74 : decode b_A_step 74 = .ok (.aload_n 0, 1) := by decide +kernel
theorem d_A_step_75 : decode b_A_step 75 = .ok (.iconst 0, 1) := by decide +kernel
theorem d_A_step_76 : decode b_A_step 76 = .ok (.invokevirtual 71, 3) := by decide +kernel
theorem d_A_step_79 : decode b_A_step 79 = .ok (.aload_n 0, 1) := by decide +kernel
theorem d_A_step_80 : decode b_A_step 80 = .ok (.getfield 15, 3) := by decide +kernel
theorem d_A_step_83 : decode b_A_step 83 = .ok (.imul, 1) := by decide +kernel
theorem d_A_step_84 : decode b_A_step 84 = .ok (.aload_n 0, 1) := by decide +kernel
theorem d_A_step_85 : decode b_A_step 85 = .ok (.getfield 18, 3) := by decide +kernel
theorem d_A_step_88 : decode b_A_step 88 = .ok (.iadd, 1) := by decide +kernel
theorem d_A_step_89 : decode b_A_step 89 = .ok (.invokevirtual 67, 3) := by decide +kernel
theorem d_A_step_92 : decode b_A_step 92 = .ok (.goto 147, 3) := by decide +kernel
theorem d_A_step_95 : decode b_A_step 95 = .ok (.aload_n 0, 1) := by decide +kernel
theorem d_A_step_96 : decode b_A_step 96 = .ok (.aload_n 0, 1) := by decide +kernel
theorem d_A_step_97 : decode b_A_step 97 = .ok (.invokevirtual 56, 3) := by decide +kernel
theorem d_A_step_100 : decode b_A_step 100 = .ok (.aload_n 0, 1) := by decide +kernel
theorem d_A_step_101 : decode b_A_step 101 = .ok (.iconst 0, 1) := by decide +kernel
theorem d_A_step_102 : decode b_A_step 102 = .ok (.invokevirtual 71, 3) := by decide +kernel
theorem d_A_step_105 : decode b_A_step 105 = .ok (.invokevirtual 67, 3) := by decide +kernel
theorem d_A_step_108 : decode b_A_step 108 = .ok (.goto 131, 3) := by decide +kernel
theorem d_A_step_111 : decode b_A_step 111 = .ok (.aload_n 0, 1) := by decide +kernel
theorem d_A_step_112 : decode b_A_step 112 = .ok (.iconst 0, 1) := by decide +kernel
theorem d_A_step_113 : decode b_A_step 113 = .ok (.aload_n 0, 1) := by decide +kernel
theorem d_A_step_114 : decode b_A_step 114 = .ok (.aload_n 0, 1) := by decide +kernel
theorem d_A_step_115 : decode b_A_step 115 = .ok (.invokevirtual 56, 3) := by decide +kernel
theorem d_A_step_118 : decode b_A_step 118 = .ok (.invokevirtual 71, 3) := by decide +kernel
theorem d_A_step_121 : decode b_A_step 121 = .ok (.invokevirtual 67, 3) := by decide +kernel
theorem d_A_step_124 : decode b_A_step 124 = .ok (.goto 115, 3) := by decide +kernel
theorem d_A_step_127 : decode b_A_step 127 = .ok (.aload_n 0, 1) := by decide +kernel
theorem d_A_step_128 : decode b_A_step 128 = .ok (.iconst 0, 1) := by decide +kernel
theorem d_A_step_129 : decode b_A_step 129 = .ok (.aload_n 0, 1) := by decide +kernel
theorem d_A_step_130 : decode b_A_step 130 = .ok (.iconst 0, 1) := by decide +kernel
theorem d_A_step_131 : decode b_A_step 131 = .ok (.invokevirtual 71, 3) := by decide +kernel
theorem d_A_step_134 : decode b_A_step 134 = .ok (.aload_n 0, 1) := by decide +kernel
theorem d_A_step_135 : decode b_A_step 135 = .ok (.iconst 1, 1) := by decide +kernel
theorem d_A_step_136 : decode b_A_step 136 = .ok (.invokevirtual 71, 3) := by decide +kernel
theorem d_A_step_139 : decode b_A_step 139 = .ok (.iadd, 1) := by decide +kernel
theorem d_A_step_140 : decode b_A_step 140 = .ok (.invokevirtual 67, 3) := by decide +kernel
theorem d_A_step_143 : decode b_A_step 143 = .ok (.goto 96, 3) := by decide +kernel
theorem d_A_step_146 : decode b_A_step 146 = .ok (.aload_n 0, 1) := by decide +kernel
theorem d_A_step_147 : decode b_A_step 147 = .ok (.iconst 0, 1) := by decide +kernel
theorem d_A_step_148 : decode b_A_step 148 = .ok (.aload_n 0, 1) := by decide +kernel
theorem d_A_step_149 : decode b_A_step 149 = .ok (.getfield 40, 3) := by decide +kernel
theorem d_A_step_152 : decode b_A_step 152 = .ok (.ifCond .ne 10, 3) := by decide +kernel
theorem d_A_step_155 : decode b_A_step 155 = .ok (.aload_n 0, 1) := by decide +kernel
theorem d_A_step_156 : decode b_A_step 156 = .ok (.getfield 15, 3) := by decide +kernel
theorem d_A_step_159 : decode b_A_step 159 = .ok (.goto 8, 3) := by decide +kernel
theorem d_A_step_162 : decode b_A_step 162 = .ok (.aload_n 0, 1) := by decide +kernel
theorem d_A_step_163 : decode b_A_step 163 = .ok (.iconst 0, 1) := by decide +kernel
theorem d_A_step_164 : decode b_A_step 164 = .ok (.invokevirtual 71, 3) := by decide +kernel
theorem d_A_step_167 : decode b_A_step 167 = .ok (.invokevirtual 67, 3) := by decide +kernel
theorem d_A_step_170 : decode b_A_step 170 = .ok (.goto 69, 3) := by decide +kernel
theorem d_A_step_173 : decode b_A_step 173 = .ok (.aload_n 0, 1) := by decide +kernel
theorem d_A_step_174 : decode b_A_step 174 = .ok (.aload_n 0, 1) := by decide +kernel
theorem d_A_step_175 : decode b_A_step 175 = .ok (.iconst 0, 1) := by decide +kernel
theorem d_A_step_176 : decode b_A_step 176 = .ok (.invokevirtual 71, 3) := by decide +kernel
theorem d_A_step_179 : decode b_A_step 179 = .ok (.invokevirtual 74, 3) := by decide +kernel
theorem d_A_step_182 : decode b_A_step 182 = .ok (.goto 57, 3) := by decide +kernel
theorem d_A_step_185 : decode b_A_step 185 = .ok (.aload_n 0, 1) := by decide +kernel
theorem d_A_step_186 : decode b_A_step 186 = .ok (.iconst 0, 1) := by decide +kernel
theorem d_A_step_187 : decode b_A_step 187 = .ok (.invokevirtual 71, 3) := by decide +kernel
theorem d_A_step_190 : decode b_A_step 190 = .ok (.ifCond .eq 7, 3) := by decide +kernel
theorem d_A_step_193 : decode b_A_step 193 = .ok (.iconst 1, 1) := by decide +kernel
theorem d_A_step_194 : decode b_A_step 194 = .ok (.goto 4, 3) := by decide +kernel
theorem d_A_step_197 : decode b_A_step 197 = .ok (.iconst 0, 1) := by decide +kernel
theorem d_A_step_198 : decode b_A_step 198 = .ok (.istore_n 1, 1) := by decide +kernel
theorem d_A_step_199 : decode b_A_step 199 = .ok (.aload_n 0, 1) := by decide +kernel
theorem d_A_step_200 : decode b_A_step 200 = .ok (.iconst 1, 1) := by decide +kernel
theorem d_A_step_201 : decode b_A_step 201 = .ok (.invokevirtual 71, 3) := by decide +kernel
theorem d_A_step_204 : decode b_A_step 204 = .ok (.istore_n 2, 1) := by decide +kernel
theorem d_A_step_205 : decode b_A_step 205 = .ok (.iload_n 1, 1) := by decide +kernel
theorem d_A_step_206 : decode b_A_step 206 = .ok (.ifCond .eq 33, 3) := by decide +kernel
theorem d_A_step_209 : decode b_A_step 209 = .ok (.aload_n 0, 1) := by decide +kernel
theorem d_A_step_210 : decode b_A_step 210 = .ok (.iconst 0, 1) := by decide +kernel
theorem d_A_step_211 : decode b_A_step 211 = .ok (.iload_n 2, 1) := by decide +kernel
theorem d_A_step_212 : decode b_A_step 212 = .ok (.invokevirtual 67, 3) := by decide +kernel
theorem d_A_step_215 : decode b_A_step 215 = .ok (.goto 24, 3) := by decide +kernel
theorem d_A_step_218 : decode b_A_step 218 = .ok (.aload_n 0, 1) := by decide +kernel
theorem d_A_step_219 : decode b_A_step 219 = .ok (.iconst 0, 1) := by decide +kernel
theorem d_A_step_220 : decode b_A_step 220 = .ok (.invokevirtual 71, 3) := by decide +kernel
theorem d_A_step_223 : decode b_A_step 223 = .ok (.istore_n 3, 1) := by decide +kernel
theorem d_A_step_224 : decode b_A_step 224 = .ok (.aload_n 0, 1) := by decide +kernel
theorem d_A_step_225 : decode b_A_step 225 = .ok (.iconst 0, 1) := by decide +kernel
theorem d_A_step_226 : decode b_A_step 226 = .ok (.iload_n 3, 1) := by decide +kernel
theorem d_A_step_227 : decode b_A_step 227 = .ok (.invokevirtual 67, 3) := by decide +kernel
theorem d_A_step_230 : decode b_A_step 230 = .ok (.aload_n 0, 1) := by decide +kernel
theorem d_A_step_231 : decode b_A_step 231 = .ok (.iconst 1, 1) := by decide +kernel
theorem d_A_step_232 : decode b_A_step 232 = .ok (.iload_n 3, 1) := by decide +kernel
theorem d_A_step_233 : decode b_A_step 233 = .ok (.invokevirtual 67, 3) := by decide +kernel
theorem d_A_step_236 : decode b_A_step 236 = .ok (.goto 3, 3) := by decide +kernel
theorem d_A_step_239 : decode b_A_step 239 = .ok (.aload_n 0, 1) := by decide +kernel
theorem d_A_step_240 : decode b_A_step 240 = .ok (.dup, 1) := by decide +kernel
theorem d_A_step_241 : decode b_A_step 241 = .ok (.getfield 40, 3) := by decide +kernel
theorem d_A_step_244 : decode b_A_step 244 = .ok (.iconst 1, 1) := by decide +kernel
theorem d_A_step_245 : decode b_A_step 245 = .ok (.iadd, 1) := by decide +kernel
theorem d_A_step_246 : decode b_A_step 246 = .ok (.putfield 40, 3) := by decide +kernel
theorem d_A_step_249 : decode b_A_step 249 = .ok (.return_, 1) := by decide +kernel
theorem d_A_turn_0 : decode b_A_turn 0 = .ok (.aload_n 0, 1) := by decide +kernel
theorem d_A_turn_1 : decode b_A_turn 1 = .ok (.getfield 40, 3) := by decide +kernel
theorem d_A_turn_4 : decode b_A_turn 4 = .ok (.iconst 1, 1) := by decide +kernel
theorem d_A_turn_5 : decode b_A_turn 5 = .ok (.iand, 1) := by decide +kernel
theorem d_A_turn_6 : decode b_A_turn 6 = .ok (.ireturn, 1) := by decide +kernel
theorem d_A_hasValue_0 : decode b_A_hasValue 0 = .ok (.aload_n 0, 1) := by decide +kernel
theorem d_A_hasValue_1 : decode b_A_hasValue 1 = .ok (.getfield 23, 3) := by decide +kernel
theorem d_A_hasValue_4 : decode b_A_hasValue 4 = .ok (.iload_n 1, 1) := by decide +kernel
theorem d_A_hasValue_5 : decode b_A_hasValue 5 = .ok (.aaload, 1) := by decide +kernel
theorem d_A_hasValue_6 : decode b_A_hasValue 6 = .ok (.astore_n 2, 1) := by decide +kernel
theorem d_A_hasValue_7 : decode b_A_hasValue 7 = .ok (.aload_n 2, 1) := by decide +kernel
theorem d_A_hasValue_8 : decode b_A_hasValue 8 = .ok (.ifnull 14, 3) := by decide +kernel
theorem d_A_hasValue_11 : decode b_A_hasValue 11 = .ok (.aload_n 2, 1) := by decide +kernel
theorem d_A_hasValue_12 : decode b_A_hasValue 12 = .ok (.invokevirtual 78, 3) := by decide +kernel
theorem d_A_hasValue_15 : decode b_A_hasValue 15 = .ok (.ifCond .le 7, 3) := by decide +kernel
theorem d_A_hasValue_18 : decode b_A_hasValue 18 = .ok (.iconst 1, 1) := by decide +kernel
theorem d_A_hasValue_19 : decode b_A_hasValue 19 = .ok (.goto 4, 3) := by decide +kernel
theorem d_A_hasValue_22 : decode b_A_hasValue 22 = .ok (.iconst 0, 1) := by decide +kernel
theorem d_A_hasValue_23 : decode b_A_hasValue 23 = .ok (.ireturn, 1) := by decide +kernel
theorem d_A_isZero_0 : decode b_A_isZero 0 = .ok (.aload_n 0, 1) := by decide +kernel
theorem d_A_isZero_1 : decode b_A_isZero 1 = .ok (.getfield 23, 3) := by decide +kernel
theorem d_A_isZero_4 : decode b_A_isZero 4 = .ok (.iload_n 1, 1) := by decide +kernel
theorem d_A_isZero_5 : decode b_A_isZero 5 = .ok (.aaload, 1) := by decide +kernel
theorem d_A_isZero_6 : decode b_A_isZero 6 = .ok (.astore_n 2, 1) := by decide +kernel
theorem d_A_isZero_7 : decode b_A_isZero 7 = .ok (.aload_n 2, 1) := by decide +kernel
theorem d_A_isZero_8 : decode b_A_isZero 8 = .ok (.ifnull 15, 3) := by decide +kernel
theorem d_A_isZero_11 : decode b_A_isZero 11 = .ok (.aload_n 2, 1) := by decide +kernel
theorem d_A_isZero_12 : decode b_A_isZero 12 = .ok (.iconst 0, 1) := by decide +kernel
theorem d_A_isZero_13 : decode b_A_isZero 13 = .ok (.invokevirtual 81, 3) := by decide +kernel
theorem d_A_isZero_16 : decode b_A_isZero 16 = .ok (.ifCond .ne 7, 3) := by decide +kernel
theorem d_A_isZero_19 : decode b_A_isZero 19 = .ok (.iconst 1, 1) := by decide +kernel
theorem d_A_isZero_20 : decode b_A_isZero 20 = .ok (.goto 4, 3) := by decide +kernel
theorem d_A_isZero_23 : decode b_A_isZero 23 = .ok (.iconst 0, 1) := by decide +kernel
theorem d_A_isZero_24 : decode b_A_isZero 24 = .ok (.ireturn, 1) := by decide +kernel
theorem d_A_hasRoom_0 : decode b_A_hasRoom 0 = .ok (.aload_n 0, 1) := by decide +kernel
theorem d_A_hasRoom_1 : decode b_A_hasRoom 1 = .ok (.getfield 27, 3) := by decide +kernel
theorem d_A_hasRoom_4 : decode b_A_hasRoom 4 = .ok (.iload_n 1, 1) := by decide +kernel
theorem d_A_hasRoom_5 : decode b_A_hasRoom 5 = .ok (.aaload, 1) := by decide +kernel
theorem d_A_hasRoom_6 : decode b_A_hasRoom 6 = .ok (.astore_n 2, 1) := by decide +kernel
theorem d_A_hasRoom_7 : decode b_A_hasRoom 7 = .ok (.aload_n 2, 1) := by decide +kernel
theorem d_A_hasRoom_8 : decode b_A_hasRoom 8 = .ok (.ifnull 10, 3) := by decide +kernel
theorem d_A_hasRoom_11 : decode b_A_hasRoom 11 = .ok (.aload_n 2, 1) := by decide +kernel
theorem d_A_hasRoom_12 : decode b_A_hasRoom 12 = .ok (.invokevirtual 84, 3) := by decide +kernel
theorem d_A_hasRoom_15 : decode b_A_hasRoom 15 = .ok (.ifCond .ne 7, 3) := by decide +kernel
theorem d_A_hasRoom_18 : decode b_A_hasRoom 18 = .ok (.iconst 1, 1) := by decide +kernel
theorem d_A_hasRoom_19 : decode b_A_hasRoom 19 = .ok (.goto 4, 3) := by decide +kernel
theorem d_A_hasRoom_22 : decode b_A_hasRoom 22 = .ok (.iconst 0, 1) := by decide +kernel
theorem d_A_hasRoom_23 : decode b_A_hasRoom 23 = .ok (.ireturn, 1) := by decide +kernel
theorem d_A_take_0 : decode b_A_take 0 = .ok (.aload_n 0, 1) := by decide +kernel
theorem d_A_take_1 : decode b_A_take 1 = .ok (.getfield 23, 3) := by decide +kernel
theorem d_A_take_4 : decode b_A_take 4 = .ok (.iload_n 1, 1) := by decide +kernel
theorem d_A_take_5 : decode b_A_take 5 = .ok (.aaload, 1) := by decide +kernel
theorem d_A_take_6 : decode b_A_take 6 = .ok (.astore_n 2, 1) := by decide +kernel
theorem d_A_take_7 : decode b_A_take 7 = .ok (.aload_n 2, 1) := by decide +kernel
theorem d_A_take_8 : decode b_A_take 8 = .ok (.ifnonnull 7, 3) := by decide +kernel
theorem d_A_take_11 : decode b_A_take 11 = .ok (.iconst 0, 1) := by decide +kernel
theorem d_A_take_12 : decode b_A_take 12 = .ok (.goto 7, 3) := by decide +kernel
theorem d_A_take_15 : decode b_A_take 15 = .ok (.aload_n 2, 1) := by decide +kernel
theorem d_A_take_16 : decode b_A_take 16 = .ok (.invokevirtual 88, 3) := by decide +kernel
theorem d_A_take_19 : decode b_A_take 19 = .ok (.ireturn, 1) := by decide +kernel
theorem d_A_give_0 : decode b_A_give 0 = .ok (.aload_n 0, 1) := by decide +kernel
theorem d_A_give_1 : decode b_A_give 1 = .ok (.getfield 27, 3) := by decide +kernel
theorem d_A_give_4 : decode b_A_give 4 = .ok (.iload_n 1, 1) := by decide +kernel
theorem d_A_give_5 : decode b_A_give 5 = .ok (.aaload, 1) := by decide +kernel
theorem d_A_give_6 : decode b_A_give 6 = .ok (.astore_n 3, 1) := by decide +kernel
theorem d_A_give_7 : decode b_A_give 7 = .ok (.aload_n 3, 1) := by decide +kernel
theorem d_A_give_8 : decode b_A_give 8 = .ok (.ifnull 8, 3) := by decide +kernel
theorem d_A_give_11 : decode b_A_give 11 = .ok (.aload_n 3, 1) := by decide +kernel
theorem d_A_give_12 : decode b_A_give 12 = .ok (.iload_n 2, 1) := by decide +kernel
theorem d_A_give_13 : decode b_A_give 13 = .ok (.invokevirtual 90, 3) := by decide +kernel
theorem d_A_give_16 : decode b_A_give 16 = .ok (.return_, 1) := by decide +kernel
theorem d_A_keep_0 : decode b_A_keep 0 = .ok (.aload_n 0, 1) := by decide +kernel
theorem d_A_keep_1 : decode b_A_keep 1 = .ok (.getfield 40, 3) := by decide +kernel
theorem d_A_keep_4 : decode b_A_keep 4 = .ok (.aload_n 0, 1) := by decide +kernel
theorem d_A_keep_5 : decode b_A_keep 5 = .ok (.getfield 34, 3) := by decide +kernel
theorem d_A_keep_8 : decode b_A_keep 8 = .ok (.arraylength, 1) := by decide +kernel
theorem d_A_keep_9 : decode b_A_keep 9 = .ok (.if_icmp .ge 13, 3) := by decide +kernel
theorem d_A_keep_12 : decode b_A_keep 12 = .ok (.aload_n 0, 1) := by decide +kernel
theorem d_A_keep_13 : decode b_A_keep 13 = .ok (.getfield 34, 3) := by decide +kernel
theorem d_A_keep_16 : decode b_A_keep 16 = .ok (.aload_n 0, 1) := by decide +kernel
theorem d_A_keep_17 : decode b_A_keep 17 = .ok (.getfield 40, 3) := by decide +kernel
theorem d_A_keep_20 : decode b_A_keep 20 = .ok (.iload_n 1, 1) := by decide +kernel
theorem d_A_keep_21 : decode b_A_keep 21 = .ok (.iastore, 1) := by decide +kernel
theorem d_A_keep_22 : decode b_A_keep 22 = .ok (.return_, 1) := by decide +kernel
theorem d_A_copyFrom_0 : decode b_A_copyFrom 0 = .ok (.aload_n 1, 1) := by decide +kernel
theorem d_A_copyFrom_1 : decode b_A_copyFrom 1 = .ok (.getfield 34, 3) := by decide +kernel
theorem d_A_copyFrom_4 : decode b_A_copyFrom 4 = .ok (.iconst 0, 1) := by decide +kernel
theorem d_A_copyFrom_5 : decode b_A_copyFrom 5 = .ok (.aload_n 0, 1) := by decide +kernel
theorem d_A_copyFrom_6 : decode b_A_copyFrom 6 = .ok (.getfield 34, 3) := by decide +kernel
theorem d_A_copyFrom_9 : decode b_A_copyFrom 9 = .ok (.iconst 0, 1) := by decide +kernel
theorem d_A_copyFrom_10 : decode b_A_copyFrom 10 = .ok (.aload_n 1, 1) := by decide +kernel
theorem d_A_copyFrom_11 : decode b_A_copyFrom 11 = .ok (.getfield 34, 3) := by decide +kernel
theorem d_A_copyFrom_14 : decode b_A_copyFrom 14 = .ok (.arraylength, 1) := by decide +kernel
theorem d_A_copyFrom_15 : decode b_A_copyFrom 15 = .ok (.aload_n 0, 1) := by decide +kernel
theorem d_A_copyFrom_16 : decode b_A_copyFrom 16 = .ok (.getfield 34, 3) := by decide +kernel
theorem d_A_copyFrom_19 : decode b_A_copyFrom 19 = .ok (.arraylength, 1) := by decide +kernel
theorem d_A_copyFrom_20 : decode b_A_copyFrom 20 = .ok (.invokestatic 93, 3) := by decide +kernel
theorem d_A_copyFrom_23 : decode b_A_copyFrom 23 = .ok (.invokestatic 99, 3) := by decide +kernel
theorem d_A_copyFrom_26 : decode b_A_copyFrom 26 = .ok (.aload_n 0, 1) := by decide +kernel
theorem d_A_copyFrom_27 : decode b_A_copyFrom 27 = .ok (.aload_n 1, 1) := by decide +kernel
theorem d_A_copyFrom_28 : decode b_A_copyFrom 28 = .ok (.getfield 37, 3) := by decide +kernel
theorem d_A_copyFrom_31 : decode b_A_copyFrom 31 = .ok (.putfield 37, 3) := by decide +kernel
theorem d_A_copyFrom_34 : decode b_A_copyFrom 34 = .ok (.aload_n 0, 1) := by decide +kernel
theorem d_A_copyFrom_35 : decode b_A_copyFrom 35 = .ok (.aload_n 1, 1) := by decide +kernel
theorem d_A_copyFrom_36 : decode b_A_copyFrom 36 = .ok (.getfield 40, 3) := by decide +kernel
theorem d_A_copyFrom_39 : decode b_A_copyFrom 39 = .ok (.putfield 40, 3) := by decide +kernel
theorem d_A_copyFrom_42 : decode b_A_copyFrom 42 = .ok (.return_, 1) := by decide +kernel
theorem d_C_init_0 : decode b_C_init 0 = .ok (.aload_n 0, 1) := by decide +kernel
theorem d_C_init_1 : decode b_C_init 1 = .ok (.invokespecial 3, 3) := by decide +kernel
theorem d_C_init_4 : decode b_C_init 4 = .ok (.aload_n 0, 1) := by decide +kernel
theorem d_C_init_5 : decode b_C_init 5 = .ok (.iload_n 1, 1) := by decide +kernel
theorem d_C_init_6 : decode b_C_init 6 = .ok (.putfield 9, 3) := by decide +kernel
theorem d_C_init_9 : decode b_C_init 9 = .ok (.aload_n 0, 1) := by decide +kernel
theorem d_C_init_10 : decode b_C_init 10 = .ok (.bipush 8, 2) := by decide +kernel
theorem d_C_init_12 : decode b_C_init 12 = .ok (.newarray .int, 2) := by decide +kernel
theorem d_C_init_14 : decode b_C_init 14 = .ok (.putfield 15, 3) := by decide +kernel
theorem d_C_init_17 : decode b_C_init 17 = .ok (.aload_n 0, 1) := by decide +kernel
theorem d_C_init_18 : decode b_C_init 18 = .ok (.iconst 0, 1) := by decide +kernel
theorem d_C_init_19 : decode b_C_init 19 = .ok (.putfield 19, 3) := by decide +kernel
theorem d_C_init_22 : decode b_C_init 22 = .ok (.aload_n 0, 1) := by decide +kernel
theorem d_C_init_23 : decode b_C_init 23 = .ok (.iconst 0, 1) := by decide +kernel
theorem d_C_init_24 : decode b_C_init 24 = .ok (.putfield 22, 3) := by decide +kernel
theorem d_C_init_27 : decode b_C_init 27 = .ok (.return_, 1) := by decide +kernel
theorem d_C_size_0 : decode b_C_size 0 = .ok (.aload_n 0, 1) := by decide +kernel
theorem d_C_size_1 : decode b_C_size 1 = .ok (.getfield 22, 3) := by decide +kernel
theorem d_C_size_4 : decode b_C_size 4 = .ok (.ireturn, 1) := by decide +kernel
theorem d_C_isFull_0 : decode b_C_isFull 0 = .ok (.aload_n 0, 1) := by decide +kernel
theorem d_C_isFull_1 : decode b_C_isFull 1 = .ok (.getfield 22, 3) := by decide +kernel
theorem d_C_isFull_4 : decode b_C_isFull 4 = .ok (.aload_n 0, 1) := by decide +kernel
theorem d_C_isFull_5 : decode b_C_isFull 5 = .ok (.getfield 9, 3) := by decide +kernel
theorem d_C_isFull_8 : decode b_C_isFull 8 = .ok (.if_icmp .lt 7, 3) := by decide +kernel
theorem d_C_isFull_11 : decode b_C_isFull 11 = .ok (.iconst 1, 1) := by decide +kernel
theorem d_C_isFull_12 : decode b_C_isFull 12 = .ok (.goto 4, 3) := by decide +kernel
theorem d_C_isFull_15 : decode b_C_isFull 15 = .ok (.iconst 0, 1) := by decide +kernel
theorem d_C_isFull_16 : decode b_C_isFull 16 = .ok (.ireturn, 1) := by decide +kernel
theorem d_C_peek_0 : decode b_C_peek 0 = .ok (.aload_n 0, 1) := by decide +kernel
theorem d_C_peek_1 : decode b_C_peek 1 = .ok (.getfield 15, 3) := by decide +kernel
theorem d_C_peek_4 : decode b_C_peek 4 = .ok (.aload_n 0, 1) := by decide +kernel
theorem d_C_peek_5 : decode b_C_peek 5 = .ok (.getfield 19, 3) := by decide +kernel
theorem d_C_peek_8 : decode b_C_peek 8 = .ok (.iload_n 1, 1) := by decide +kernel
theorem d_C_peek_9 : decode b_C_peek 9 = .ok (.iadd, 1) := by decide +kernel
theorem d_C_peek_10 : decode b_C_peek 10 = .ok (.bipush 7, 2) := by decide +kernel
theorem d_C_peek_12 : decode b_C_peek 12 = .ok (.iand, 1) := by decide +kernel
theorem d_C_peek_13 : decode b_C_peek 13 = .ok (.iaload, 1) := by decide +kernel
theorem d_C_peek_14 : decode b_C_peek 14 = .ok (.ireturn, 1) := by decide +kernel
theorem d_C_put_0 : decode b_C_put 0 = .ok (.aload_n 0, 1) := by decide +kernel
theorem d_C_put_1 : decode b_C_put 1 = .ok (.getfield 15, 3) := by decide +kernel
theorem d_C_put_4 : decode b_C_put 4 = .ok (.aload_n 0, 1) := by decide +kernel
theorem d_C_put_5 : decode b_C_put 5 = .ok (.getfield 19, 3) := by decide +kernel
theorem d_C_put_8 : decode b_C_put 8 = .ok (.aload_n 0, 1) := by decide +kernel
theorem d_C_put_9 : decode b_C_put 9 = .ok (.getfield 22, 3) := by decide +kernel
theorem d_C_put_12 : decode b_C_put 12 = .ok (.iadd, 1) := by decide +kernel
theorem d_C_put_13 : decode b_C_put 13 = .ok (.bipush 7, 2) := by decide +kernel
theorem d_C_put_15 : decode b_C_put 15 = .ok (.iand, 1) := by decide +kernel
theorem d_C_put_16 : decode b_C_put 16 = .ok (.iload_n 1, 1) := by decide +kernel
theorem d_C_put_17 : decode b_C_put 17 = .ok (.iastore, 1) := by decide +kernel
theorem d_C_put_18 : decode b_C_put 18 = .ok (.aload_n 0, 1) := by decide +kernel
theorem d_C_put_19 : decode b_C_put 19 = .ok (.dup, 1) := by decide +kernel
theorem d_C_put_20 : decode b_C_put 20 = .ok (.getfield 22, 3) := by decide +kernel
theorem d_C_put_23 : decode b_C_put 23 = .ok (.iconst 1, 1) := by decide +kernel
theorem d_C_put_24 : decode b_C_put 24 = .ok (.iadd, 1) := by decide +kernel
theorem d_C_put_25 : decode b_C_put 25 = .ok (.putfield 22, 3) := by decide +kernel
theorem d_C_put_28 : decode b_C_put 28 = .ok (.return_, 1) := by decide +kernel
theorem d_C_take_0 : decode b_C_take 0 = .ok (.aload_n 0, 1) := by decide +kernel
theorem d_C_take_1 : decode b_C_take 1 = .ok (.getfield 15, 3) := by decide +kernel
theorem d_C_take_4 : decode b_C_take 4 = .ok (.aload_n 0, 1) := by decide +kernel
theorem d_C_take_5 : decode b_C_take 5 = .ok (.getfield 19, 3) := by decide +kernel
theorem d_C_take_8 : decode b_C_take 8 = .ok (.bipush 7, 2) := by decide +kernel
theorem d_C_take_10 : decode b_C_take 10 = .ok (.iand, 1) := by decide +kernel
theorem d_C_take_11 : decode b_C_take 11 = .ok (.iaload, 1) := by decide +kernel
theorem d_C_take_12 : decode b_C_take 12 = .ok (.istore_n 1, 1) := by decide +kernel
theorem d_C_take_13 : decode b_C_take 13 = .ok (.aload_n 0, 1) := by decide +kernel
theorem d_C_take_14 : decode b_C_take 14 = .ok (.aload_n 0, 1) := by decide +kernel
theorem d_C_take_15 : decode b_C_take 15 = .ok (.getfield 19, 3) := by decide +kernel
theorem d_C_take_18 : decode b_C_take 18 = .ok (.iconst 1, 1) := by decide +kernel
theorem d_C_take_19 : decode b_C_take 19 = .ok (.iadd, 1) := by decide +kernel
theorem d_C_take_20 : decode b_C_take 20 = .ok (.bipush 7, 2) := by decide +kernel
theorem d_C_take_22 : decode b_C_take 22 = .ok (.iand, 1) := by decide +kernel
theorem d_C_take_23 : decode b_C_take 23 = .ok (.putfield 19, 3) := by decide +kernel
theorem d_C_take_26 : decode b_C_take 26 = .ok (.aload_n 0, 1) := by decide +kernel
theorem d_C_take_27 : decode b_C_take 27 = .ok (.dup, 1) := by decide +kernel
theorem d_C_take_28 : decode b_C_take 28 = .ok (.getfield 22, 3) := by decide +kernel
theorem d_C_take_31 : decode b_C_take 31 = .ok (.iconst 1, 1) := by decide +kernel
theorem d_C_take_32 : decode b_C_take 32 = .ok (.isub, 1) := by decide +kernel
theorem d_C_take_33 : decode b_C_take 33 = .ok (.putfield 22, 3) := by decide +kernel
theorem d_C_take_36 : decode b_C_take 36 = .ok (.iload_n 1, 1) := by decide +kernel
theorem d_C_take_37 : decode b_C_take 37 = .ok (.ireturn, 1) := by decide +kernel
theorem d_C_copyFrom_0 : decode b_C_copyFrom 0 = .ok (.aload_n 1, 1) := by decide +kernel
theorem d_C_copyFrom_1 : decode b_C_copyFrom 1 = .ok (.getfield 15, 3) := by decide +kernel
theorem d_C_copyFrom_4 : decode b_C_copyFrom 4 = .ok (.iconst 0, 1) := by decide +kernel
theorem d_C_copyFrom_5 : decode b_C_copyFrom 5 = .ok (.aload_n 0, 1) := by decide +kernel
theorem d_C_copyFrom_6 : decode b_C_copyFrom 6 = .ok (.getfield 15, 3) := by decide +kernel
theorem d_C_copyFrom_9 : decode b_C_copyFrom 9 = .ok (.iconst 0, 1) := by decide +kernel
theorem d_C_copyFrom_10 : decode b_C_copyFrom 10 = .ok (.bipush 8, 2) := by decide +kernel
theorem d_C_copyFrom_12 : decode b_C_copyFrom 12 = .ok (.invokestatic 25, 3) := by decide +kernel
theorem d_C_copyFrom_15 : decode b_C_copyFrom 15 = .ok (.aload_n 0, 1) := by decide +kernel
theorem d_C_copyFrom_16 : decode b_C_copyFrom 16 = .ok (.aload_n 1, 1) := by decide +kernel
theorem d_C_copyFrom_17 : decode b_C_copyFrom 17 = .ok (.getfield 19, 3) := by decide +kernel
theorem d_C_copyFrom_20 : decode b_C_copyFrom 20 = .ok (.putfield 19, 3) := by decide +kernel
theorem d_C_copyFrom_23 : decode b_C_copyFrom 23 = .ok (.aload_n 0, 1) := by decide +kernel
theorem d_C_copyFrom_24 : decode b_C_copyFrom 24 = .ok (.aload_n 1, 1) := by decide +kernel
theorem d_C_copyFrom_25 : decode b_C_copyFrom 25 = .ok (.getfield 22, 3) := by decide +kernel
theorem d_C_copyFrom_28 : decode b_C_copyFrom 28 = .ok (.putfield 22, 3) := by decide +kernel
theorem d_C_copyFrom_31 : decode b_C_copyFrom 31 = .ok (.return_, 1) := by decide +kernel
theorem d_Y_init_0 : decode b_Y_init 0 = .ok (.aload_n 0, 1) := by decide +kernel
theorem d_Y_init_1 : decode b_Y_init 1 = .ok (.invokespecial 3, 3) := by decide +kernel
theorem d_Y_init_4 : decode b_Y_init 4 = .ok (.aload_n 0, 1) := by decide +kernel
theorem d_Y_init_5 : decode b_Y_init 5 = .ok (.bipush 10, 2) := by decide +kernel
theorem d_Y_init_7 : decode b_Y_init 7 = .ok (.anewarray 9, 3) := by decide +kernel
theorem d_Y_init_10 : decode b_Y_init 10 = .ok (.putfield 11, 3) := by decide +kernel
theorem d_Y_init_13 : decode b_Y_init 13 = .ok (.aload_n 0, 1) := by decide +kernel
theorem d_Y_init_14 : decode b_Y_init 14 = .ok (.bipush 16, 2) := by decide +kernel
theorem d_Y_init_16 : decode b_Y_init 16 = .ok (.anewarray 17, 3) := by decide +kernel
theorem d_Y_init_19 : decode b_Y_init 19 = .ok (.putfield 19, 3) := by decide +kernel
theorem d_Y_init_22 : decode b_Y_init 22 = .ok (.aload_n 0, 1) := by decide +kernel
theorem d_Y_init_23 : decode b_Y_init 23 = .ok (.bipush 10, 2) := by decide +kernel
theorem d_Y_init_25 : decode b_Y_init 25 = .ok (.newarray .int, 2) := by decide +kernel
theorem d_Y_init_27 : decode b_Y_init 27 = .ok (.putfield 23, 3) := by decide +kernel
theorem d_Y_init_30 : decode b_Y_init 30 = .ok (.aload_n 0, 1) := by decide +kernel
theorem d_Y_init_31 : decode b_Y_init 31 = .ok (.iconst 0, 1) := by decide +kernel
theorem d_Y_init_32 : decode b_Y_init 32 = .ok (.putfield 27, 3) := by decide +kernel
theorem d_Y_init_35 : decode b_Y_init 35 = .ok (.aload_n 0, 1) := by decide +kernel
theorem d_Y_init_36 : decode b_Y_init 36 = .ok (.iconst 0, 1) := by decide +kernel
theorem d_Y_init_37 : decode b_Y_init 37 = .ok (.putfield 31, 3) := by decide +kernel
theorem d_Y_init_40 : decode b_Y_init 40 = .ok (.return_, 1) := by decide +kernel
theorem d_Y_addActor_0 : decode b_Y_addActor 0 = .ok (.iload_n 1, 1) := by decide +kernel
theorem d_Y_addActor_1 : decode b_Y_addActor 1 = .ok (.ifCond .lt 18, 3) := by decide +kernel
theorem d_Y_addActor_4 : decode b_Y_addActor 4 = .ok (.iload_n 1, 1) := by decide +kernel
theorem d_Y_addActor_5 : decode b_Y_addActor 5 = .ok (.bipush 9, 2) := by decide +kernel
theorem d_Y_addActor_7 : decode b_Y_addActor 7 = .ok (.if_icmp .ge 12, 3) := by decide +kernel
theorem d_Y_addActor_10 : decode b_Y_addActor 10 = .ok (.aload_n 0, 1) := by decide +kernel
theorem d_Y_addActor_11 : decode b_Y_addActor 11 = .ok (.getfield 27, 3) := by decide +kernel
theorem d_Y_addActor_14 : decode b_Y_addActor 14 = .ok (.bipush 10, 2) := by decide +kernel
theorem d_Y_addActor_16 : decode b_Y_addActor 16 = .ok (.if_icmp .lt 5, 3) := by decide +kernel
theorem d_Y_addActor_19 : decode b_Y_addActor 19 = .ok (.iconst (-1), 1) := by decide +kernel
theorem d_Y_addActor_20 : decode b_Y_addActor 20 = .ok (.ireturn, 1) := by decide +kernel
theorem d_Y_addActor_21 : decode b_Y_addActor 21 = .ok (.aload_n 0, 1) := by decide +kernel
theorem d_Y_addActor_22 : decode b_Y_addActor 22 = .ok (.getfield 11, 3) := by decide +kernel
theorem d_Y_addActor_25 : decode b_Y_addActor 25 = .ok (.aload_n 0, 1) := by decide +kernel
theorem d_Y_addActor_26 : decode b_Y_addActor 26 = .ok (.getfield 27, 3) := by decide +kernel
theorem d_Y_addActor_29 : decode b_Y_addActor 29 = .ok (.new 9, 3) := by decide +kernel
theorem d_Y_addActor_32 : decode b_Y_addActor 32 = .ok (.dup, 1) := by decide +kernel
theorem d_Y_addActor_33 : decode b_Y_addActor 33 = .ok (.iload_n 1, 1) := by decide +kernel
theorem d_Y_addActor_34 : decode b_Y_addActor 34 = .ok (.iload_n 2, 1) := by decide +kernel
theorem d_Y_addActor_35 : decode b_Y_addActor 35 = .ok (.iload_n 3, 1) := by decide +kernel
theorem d_Y_addActor_36 : decode b_Y_addActor 36 = .ok (.invokespecial 34, 3) := by decide +kernel
theorem d_Y_addActor_39 : decode b_Y_addActor 39 = .ok (.aastore, 1) := by decide +kernel
theorem d_Y_addActor_40 : decode b_Y_addActor 40 = .ok (.aload_n 0, 1) := by decide +kernel
theorem d_Y_addActor_41 : decode b_Y_addActor 41 = .ok (.dup, 1) := by decide +kernel
theorem d_Y_addActor_42 : decode b_Y_addActor 42 = .ok (.getfield 27, 3) := by decide +kernel
theorem d_Y_addActor_45 : decode b_Y_addActor 45 = .ok (.iconst 1, 1) := by decide +kernel
theorem d_Y_addActor_46 : decode b_Y_addActor 46 = .ok (.iadd, 1) := by decide +kernel
theorem d_Y_addActor_47 : decode b_Y_addActor 47 = .ok (.putfield 27, 3) := by decide +kernel
theorem d_Y_addActor_50 : decode b_Y_addActor 50 = .ok (.aload_n 0, 1) := by decide +kernel
theorem d_Y_addActor_51 : decode b_Y_addActor 51 = .ok (.getfield 27, 3) := by decide +kernel
theorem d_Y_addActor_54 : decode b_Y_addActor 54 = .ok (.iconst 1, 1) := by decide +kernel
theorem d_Y_addActor_55 : decode b_Y_addActor 55 = .ok (.isub, 1) := by decide +kernel
theorem d_Y_addActor_56 : decode b_Y_addActor 56 = .ok (.ireturn, 1) := by decide +kernel
theorem d_Y_join_0 : decode b_Y_join 0 = .ok (.aload_n 0, 1) := by decide +kernel
theorem d_Y_join_1 : decode b_Y_join 1 = .ok (.iload_n 1, 1) := by decide +kernel
theorem d_Y_join_2 : decode b_Y_join 2 = .ok (.invokevirtual 37, 3) := by decide +kernel
theorem d_Y_join_5 : decode b_Y_join 5 = .ok (.astore 6, 2) := by decide +kernel
theorem d_Y_join_7 : decode b_Y_join 7 = .ok (.aload_n 0, 1) := by decide +kernel
theorem d_Y_join_8 : decode b_Y_join 8 = .ok (.iload_n 3, 1) := by decide +kernel
theorem d_Y_join_9 : decode b_Y_join 9 = .ok (.invokevirtual 37, 3) := by decide +kernel
theorem d_Y_join_12 : decode b_Y_join 12 = .ok (.astore 7, 2) := by decide +kernel
theorem d_Y_join_14 : decode b_Y_join 14 = .ok (.aload 6, 2) := by decide +kernel
theorem d_Y_join_16 : decode b_Y_join 16 = .ok (.ifnull 17, 3) := by decide +kernel
theorem d_Y_join_19 : decode b_Y_join 19 = .ok (.aload 7, 2) := by decide +kernel
theorem d_Y_join_21 : decode b_Y_join 21 = .ok (.ifnull 12, 3) := by decide +kernel
theorem d_Y_join_24 : decode b_Y_join 24 = .ok (.aload_n 0, 1) := by decide +kernel
theorem d_Y_join_25 : decode b_Y_join 25 = .ok (.getfield 31, 3) := by decide +kernel
theorem d_Y_join_28 : decode b_Y_join 28 = .ok (.bipush 16, 2) := by decide +kernel
theorem d_Y_join_30 : decode b_Y_join 30 = .ok (.if_icmp .lt 5, 3) := by decide +kernel
theorem d_Y_join_33 : decode b_Y_join 33 = .ok (.iconst (-1), 1) := by decide +kernel
theorem d_Y_join_34 : decode b_Y_join 34 = .ok (.ireturn, 1) := by decide +kernel
theorem d_Y_join_35 : decode b_Y_join 35 = .ok (.iload 5, 2) := by decide +kernel
theorem d_Y_join_37 : decode b_Y_join 37 = .ok (.iconst 1, 1) := by decide +kernel
theorem d_Y_join_38 : decode b_Y_join 38 = .ok (.if_icmp .lt 29, 3) := by decide +kernel
theorem d_Y_join_41 : decode b_Y_join 41 = .ok (.iload 5, 2) := by decide +kernel
theorem d_Y_join_43 : decode b_Y_join 43 = .ok (.bipush 8, 2) := by decide +kernel
theorem d_Y_join_45 : decode b_Y_join 45 = .ok (.if_icmp .gt 22, 3) := by decide +kernel
theorem d_Y_join_48 : decode b_Y_join 48 = .ok (.aload 6, 2) := by decide +kernel
theorem d_Y_join_50 : decode b_Y_join 50 = .ok (.iload_n 2, 1) := by decide +kernel
theorem d_Y_join_51 : decode b_Y_join 51 = .ok (.invokevirtual 41, 3) := by decide +kernel
theorem d_Y_join_54 : decode b_Y_join 54 = .ok (.ifCond .eq 13, 3) := by decide +kernel
theorem d_Y_join_57 : decode b_Y_join 57 = .ok (.aload 7, 2) := by decide +kernel
theorem d_Y_join_59 : decode b_Y_join 59 = .ok (.iload 4, 2) := by decide +kernel
theorem d_Y_join_61 : decode b_Y_join 61 = .ok (.invokevirtual 45, 3) := by decide +kernel
theorem d_Y_join_64 : decode b_Y_join 64 = .ok (.ifCond .ne 5, 3) := by decide +kernel
theorem d_Y_join_67 : decode b_Y_join 67 = .ok (.iconst (-1), 1) := by decide +kernel
theorem d_Y_join_68 : decode b_Y_join 68 = .ok (.ireturn, 1) := by decide +kernel
theorem d_Y_join_69 : decode b_Y_join 69 = .ok (.new 17, 3) := by decide +kernel
theorem d_Y_join_72 : decode b_Y_join 72 = .ok (.dup, 1) := by decide +kernel
theorem d_Y_join_73 : decode b_Y_join 73 = .ok (.iload 5, 2) := by decide +kernel
theorem d_Y_join_75 : decode b_Y_join 75 = .ok (.invokespecial 48, 3) := by decide +kernel
theorem d_Y_join_78 : decode b_Y_join 78 = .ok (.astore 8, 2) := by decide +kernel
theorem d_Y_join_80 : decode b_Y_join 80 = .ok (.aload 6, 2) := by decide +kernel
theorem d_Y_join_82 : decode b_Y_join 82 = .ok (.iload_n 2, 1) := by decide +kernel
theorem d_Y_join_83 : decode b_Y_join 83 = .ok (.aload 8, 2) := by decide +kernel
theorem d_Y_join_85 : decode b_Y_join 85 = .ok (.invokevirtual 51, 3) := by decide +kernel
theorem d_Y_join_88 : decode b_Y_join 88 = .ok (.aload 7, 2) := by decide +kernel
theorem d_Y_join_90 : decode b_Y_join 90 = .ok (.iload 4, 2) := by decide +kernel
theorem d_Y_join_92 : decode b_Y_join 92 = .ok (.aload 8, 2) := by decide +kernel
theorem d_Y_join_94 : decode b_Y_join 94 = .ok (.invokevirtual 55, 3) := by decide +kernel
theorem d_Y_join_97 : decode b_Y_join 97 = .ok (.aload_n 0, 1) := by decide +kernel
theorem d_Y_join_98 : decode b_Y_join 98 = .ok (.getfield 19, 3) := by decide +kernel
theorem d_Y_join_101 : decode b_Y_join 101 = .ok (.aload_n 0, 1) := by decide +kernel
theorem d_Y_join_102 : decode b_Y_join 102 = .ok (.getfield 31, 3) := by decide +kernel
theorem d_Y_join_105 : decode b_Y_join 105 = .ok (.aload 8, 2) := by decide +kernel
theorem d_Y_join_107 : decode b_Y_join 107 = .ok (.aastore, 1) := by decide +kernel
theorem d_Y_join_108 : decode b_Y_join 108 = .ok (.aload_n 0, 1) := by decide +kernel
theorem d_Y_join_109 : decode b_Y_join 109 = .ok (.dup, 1) := by decide +kernel
theorem d_Y_join_110 : decode b_Y_join 110 = .ok (.getfield 31, 3) := by decide +kernel
theorem d_Y_join_113 : decode b_Y_join 113 = .ok (.iconst 1, 1) := by decide +kernel
theorem d_Y_join_114 : decode b_Y_join 114 = .ok (.iadd, 1) := by decide +kernel
theorem d_Y_join_115 : decode b_Y_join 115 = .ok (.putfield 31, 3) := by decide +kernel
theorem d_Y_join_118 : decode b_Y_join 118 = .ok (.aload_n 0, 1) := by decide +kernel
theorem d_Y_join_119 : decode b_Y_join 119 = .ok (.getfield 31, 3) := by decide +kernel
theorem d_Y_join_122 : decode b_Y_join 122 = .ok (.iconst 1, 1) := by decide +kernel
theorem d_Y_join_123 : decode b_Y_join 123 = .ok (.isub, 1) := by decide +kernel
theorem d_Y_join_124 : decode b_Y_join 124 = .ok (.ireturn, 1) := by decide +kernel
theorem d_Y_findActor_0 : decode b_Y_findActor 0 = .ok (.iload_n 1, 1) := by decide +kernel
theorem d_Y_findActor_1 : decode b_Y_findActor 1 = .ok (.ifCond .lt 20, 3) := by decide +kernel
theorem d_Y_findActor_4 : decode b_Y_findActor 4 = .ok (.iload_n 1, 1) := by decide +kernel
theorem d_Y_findActor_5 : decode b_Y_findActor 5 = .ok (.aload_n 0, 1) := by decide +kernel
theorem d_Y_findActor_6 : decode b_Y_findActor 6 = .ok (.getfield 27, 3) := by decide +kernel
theorem d_Y_findActor_9 : decode b_Y_findActor 9 = .ok (.if_icmp .ge 12, 3) := by decide +kernel
theorem d_Y_findActor_12 : decode b_Y_findActor 12 = .ok (.aload_n 0, 1) := by decide +kernel
theorem d_Y_findActor_13 : decode b_Y_findActor 13 = .ok (.getfield 11, 3) := by decide +kernel
theorem d_Y_findActor_16 : decode b_Y_findActor 16 = .ok (.iload_n 1, 1) := by decide +kernel
theorem d_Y_findActor_17 : decode b_Y_findActor 17 = .ok (.aaload, 1) := by decide +kernel
theorem d_Y_findActor_18 : decode b_Y_findActor 18 = .ok (.goto 4, 3) := by decide +kernel
theorem d_Y_findActor_21 : decode b_Y_findActor 21 = .ok (.aconst_null, 1) := by decide +kernel
theorem d_Y_findActor_22 : decode b_Y_findActor 22 = .ok (.areturn, 1) := by decide +kernel
theorem d_Y_findKind_0 : decode b_Y_findKind 0 = .ok (.aload_n 0, 1) := by decide +kernel
theorem d_Y_findKind_1 : decode b_Y_findKind 1 = .ok (.iload_n 1, 1) := by decide +kernel
theorem d_Y_findKind_2 : decode b_Y_findKind 2 = .ok (.invokevirtual 37, 3) := by decide +kernel
theorem d_Y_findKind_5 : decode b_Y_findKind 5 = .ok (.astore_n 3, 1) := by decide +kernel
theorem d_Y_findKind_6 : decode b_Y_findKind 6 = .ok (.aload_n 3, 1) := by decide +kernel
theorem d_Y_findKind_7 : decode b_Y_findKind 7 = .ok (.ifnull 15, 3) := by decide +kernel
theorem d_Y_findKind_10 : decode b_Y_findKind 10 = .ok (.aload_n 3, 1) := by decide +kernel
theorem d_Y_findKind_11 : decode b_Y_findKind 11 = .ok (.iload_n 2, 1) := by decide +kernel
theorem d_Y_findKind_12 : decode b_Y_findKind 12 = .ok (.invokevirtual 58, 3) := by decide +kernel
theorem d_Y_findKind_15 : decode b_Y_findKind 15 = .ok (.ifCond .eq 7, 3) := by decide +kernel
theorem d_Y_findKind_18 : decode b_Y_findKind 18 = .ok (.aload_n 3, 1) := by decide +kernel
theorem d_Y_findKind_19 : decode b_Y_findKind 19 = .ok (.goto 4, 3) := by decide +kernel
theorem d_Y_findKind_22 : decode b_Y_findKind 22 = .ok (.aconst_null, 1) := by decide +kernel
theorem d_Y_findKind_23 : decode b_Y_findKind 23 = .ok (.areturn, 1) := by decide +kernel
theorem d_Y_findChannel_0 : decode b_Y_findChannel 0 = .ok (.iload_n 1, 1) := by decide +kernel
theorem d_Y_findChannel_1 : decode b_Y_findChannel 1 = .ok (.ifCond .lt 20, 3) := by decide +kernel
theorem d_Y_findChannel_4 : decode b_Y_findChannel 4 = .ok (.iload_n 1, 1) := by decide +kernel
theorem d_Y_findChannel_5 : decode b_Y_findChannel 5 = .ok (.aload_n 0, 1) := by decide +kernel
theorem d_Y_findChannel_6 : decode b_Y_findChannel 6 = .ok (.getfield 31, 3) := by decide +kernel
theorem d_Y_findChannel_9 : decode b_Y_findChannel 9 = .ok (.if_icmp .ge 12, 3) := by decide +kernel
theorem d_Y_findChannel_12 : decode b_Y_findChannel 12 = .ok (.aload_n 0, 1) := by decide +kernel
theorem d_Y_findChannel_13 : decode b_Y_findChannel 13 = .ok (.getfield 19, 3) := by decide +kernel
theorem d_Y_findChannel_16 : decode b_Y_findChannel 16 = .ok (.iload_n 1, 1) := by decide +kernel
theorem d_Y_findChannel_17 : decode b_Y_findChannel 17 = .ok (.aaload, 1) := by decide +kernel
theorem d_Y_findChannel_18 : decode b_Y_findChannel 18 = .ok (.goto 4, 3) := by decide +kernel
theorem d_Y_findChannel_21 : decode b_Y_findChannel 21 = .ok (.aconst_null, 1) := by decide +kernel
theorem d_Y_findChannel_22 : decode b_Y_findChannel 22 = .ok (.areturn, 1) := by decide +kernel
theorem d_Y_findFull_0 : decode b_Y_findFull 0 = .ok (.iconst 0, 1) := by decide +kernel
theorem d_Y_findFull_1 : decode b_Y_findFull 1 = .ok (.istore_n 2, 1) := by decide +kernel
theorem d_Y_findFull_2 : decode b_Y_findFull 2 = .ok (.iconst 0, 1) := by decide +kernel
theorem d_Y_findFull_3 : decode b_Y_findFull 3 = .ok (.istore_n 3, 1) := by decide +kernel
theorem d_Y_findFull_4 : decode b_Y_findFull 4 = .ok (.iload_n 3, 1) := by decide +kernel
theorem d_Y_findFull_5 : decode b_Y_findFull 5 = .ok (.aload_n 0, 1) := by decide +kernel
theorem d_Y_findFull_6 : decode b_Y_findFull 6 = .ok (.getfield 31, 3) := by decide +kernel
theorem d_Y_findFull_9 : decode b_Y_findFull 9 = .ok (.if_icmp .ge 39, 3) := by decide +kernel
theorem d_Y_findFull_12 : decode b_Y_findFull 12 = .ok (.aload_n 0, 1) := by decide +kernel
theorem d_Y_findFull_13 : decode b_Y_findFull 13 = .ok (.iload_n 3, 1) := by decide +kernel
theorem d_Y_findFull_14 : decode b_Y_findFull 14 = .ok (.invokevirtual 61, 3) := by decide +kernel
theorem d_Y_findFull_17 : decode b_Y_findFull 17 = .ok (.astore 4, 2) := by decide +kernel
theorem d_Y_findFull_19 : decode b_Y_findFull 19 = .ok (.aload 4, 2) := by decide +kernel
theorem d_Y_findFull_21 : decode b_Y_findFull 21 = .ok (.ifnull 21, 3) := by decide +kernel
theorem d_Y_findFull_24 : decode b_Y_findFull 24 = .ok (.aload 4, 2) := by decide +kernel
theorem d_Y_findFull_26 : decode b_Y_findFull 26 = .ok (.invokevirtual 65, 3) := by decide +kernel
theorem d_Y_findFull_29 : decode b_Y_findFull 29 = .ok (.ifCond .eq 13, 3) := by decide +kernel
theorem d_Y_findFull_32 : decode b_Y_findFull 32 = .ok (.iload_n 2, 1) := by decide +kernel
theorem d_Y_findFull_33 : decode b_Y_findFull 33 = .ok (.iload_n 1, 1) := by decide +kernel
theorem d_Y_findFull_34 : decode b_Y_findFull 34 = .ok (.if_icmp .ne 5, 3) := by decide +kernel
theorem d_Y_findFull_37 : decode b_Y_findFull 37 = .ok (.iload_n 3, 1) := by decide +kernel
theorem d_Y_findFull_38 : decode b_Y_findFull 38 = .ok (.ireturn, 1) := by decide +kernel
theorem d_Y_findFull_39 : decode b_Y_findFull 39 = .ok (.iinc 2 1, 3) := by decide +kernel
theorem d_Y_findFull_42 : decode b_Y_findFull 42 = .ok (.iinc 3 1, 3) := by decide +kernel
theorem d_Y_findFull_45 : decode b_Y_findFull 45 = .ok (.goto (-41), 3) := by decide +kernel
theorem d_Y_findFull_48 : decode b_Y_findFull 48 = .ok (.iconst (-1), 1) := by decide +kernel
theorem d_Y_findFull_49 : decode b_Y_findFull 49 = .ok (.ireturn, 1) := by decide +kernel
theorem d_Y_stepBySeed_0 : decode b_Y_stepBySeed 0 = .ok (.lload_n 1, 1) := by decide +kernel
theorem d_Y_stepBySeed_1 : decode b_Y_stepBySeed 1 = .ok (.lstore 4, 2) := by decide +kernel
theorem d_Y_stepBySeed_3 : decode b_Y_stepBySeed 3 = .ok (.iconst 0, 1) := by decide +kernel
theorem d_Y_stepBySeed_4 : decode b_Y_stepBySeed 4 = .ok (.istore 6, 2) := by decide +kernel
theorem d_Y_stepBySeed_6 : decode b_Y_stepBySeed 6 = .ok (.iconst 0, 1) := by decide +kernel
theorem d_Y_stepBySeed_7 : decode b_Y_stepBySeed 7 = .ok (.istore 7, 2) := by decide +kernel
theorem d_Y_stepBySeed_9 : decode b_Y_stepBySeed 9 = .ok (.iload 7, 2) := by decide +kernel
theorem d_Y_stepBySeed_11 : decode b_Y_stepBySeed 11 = .ok (.iload_n 3, 1) := by decide +kernel
theorem d_Y_stepBySeed_12 : decode b_Y_stepBySeed 12 = .ok (.if_icmp .ge 39, 3) := by decide +kernel
theorem d_Y_stepBySeed_15 : decode b_Y_stepBySeed 15 = .ok (.lload 4, 2) := by decide +kernel
theorem d_Y_stepBySeed_17 : decode b_Y_stepBySeed 17 = .ok (.ldc2_w 69, 3) := by decide +kernel
theorem d_Y_stepBySeed_20 : decode b_Y_stepBySeed 20 = .ok (.lmul, 1) := by decide +kernel
theorem d_Y_stepBySeed_21 : decode b_Y_stepBySeed 21 = .ok (.ldc2_w 71, 3) := by decide +kernel
theorem d_Y_stepBySeed_24 : decode b_Y_stepBySeed 24 = .ok (.ladd, 1) := by decide +kernel
theorem d_Y_stepBySeed_25 : decode b_Y_stepBySeed 25 = .ok (.lstore 4, 2) := by decide +kernel
theorem d_Y_stepBySeed_27 : decode b_Y_stepBySeed 27 = .ok (.aload_n 0, 1) := by decide +kernel
theorem d_Y_stepBySeed_28 : decode b_Y_stepBySeed 28 = .ok (.lload 4, 2) := by decide +kernel
theorem d_Y_stepBySeed_30 : decode b_Y_stepBySeed 30 = .ok (.bipush 33, 2) := by decide +kernel
theorem d_Y_stepBySeed_32 : decode b_Y_stepBySeed 32 = .ok (.lushr, 1) := by decide +kernel
theorem d_Y_stepBySeed_33 : decode b_Y_stepBySeed 33 = .ok (.invokevirtual 73, 3) := by decide +kernel
theorem d_Y_stepBySeed_36 : decode b_Y_stepBySeed 36 = .ok (.ifCond .ne 6, 3) := by decide +kernel
theorem d_Y_stepBySeed_39 : decode b_Y_stepBySeed 39 = .ok (.goto 12, 3) := by decide +kernel
theorem d_Y_stepBySeed_42 : decode b_Y_stepBySeed 42 = .ok (.iinc 6 1, 3) := by decide +kernel
theorem d_Y_stepBySeed_45 : decode b_Y_stepBySeed 45 = .ok (.iinc 7 1, 3) := by decide +kernel
theorem d_Y_stepBySeed_48 : decode b_Y_stepBySeed 48 = .ok (.goto (-39), 3) := by decide +kernel
theorem d_Y_stepBySeed_51 : decode b_Y_stepBySeed 51 = .ok (.iload 6, 2) := by decide +kernel
theorem d_Y_stepBySeed_53 : decode b_Y_stepBySeed 53 = .ok (.ireturn, 1) := by decide +kernel
theorem d_Y_stepDrawn_0 : decode b_Y_stepDrawn 0 = .ok (.aload_n 0, 1) := by decide +kernel
theorem d_Y_stepDrawn_1 : decode b_Y_stepDrawn 1 = .ok (.invokevirtual 77, 3) := by decide +kernel
theorem d_Y_stepDrawn_4 : decode b_Y_stepDrawn 4 = .ok (.istore_n 3, 1) := by decide +kernel
theorem d_Y_stepDrawn_5 : decode b_Y_stepDrawn 5 = .ok (.iload_n 3, 1) := by decide +kernel
theorem d_Y_stepDrawn_6 : decode b_Y_stepDrawn 6 = .ok (.ifCond .gt 5, 3) := by decide +kernel
theorem d_Y_stepDrawn_9 : decode b_Y_stepDrawn 9 = .ok (.iconst 0, 1) := by decide +kernel
theorem d_Y_stepDrawn_10 : decode b_Y_stepDrawn 10 = .ok (.ireturn, 1) := by decide +kernel
theorem d_Y_stepDrawn_11 : decode b_Y_stepDrawn 11 = .ok (.lload_n 1, 1) := by decide +kernel
theorem d_Y_stepDrawn_12 : decode b_Y_stepDrawn 12 = .ok (.iload_n 3, 1) := by decide +kernel
theorem d_Y_stepDrawn_13 : decode b_Y_stepDrawn 13 = .ok (.i2l, 1) := by decide +kernel
theorem d_Y_stepDrawn_14 : decode b_Y_stepDrawn 14 = .ok (.lrem, 1) := by decide +kernel
theorem d_Y_stepDrawn_15 : decode b_Y_stepDrawn 15 = .ok (.l2i, 1) := by decide +kernel
theorem d_Y_stepDrawn_16 : decode b_Y_stepDrawn 16 = .ok (.istore 4, 2) := by decide +kernel
theorem d_Y_stepDrawn_18 : decode b_Y_stepDrawn 18 = .ok (.iload 4, 2) := by decide +kernel
theorem d_Y_stepDrawn_20 : decode b_Y_stepDrawn 20 = .ok (.ifCond .lt 10, 3) := by decide +kernel
theorem d_Y_stepDrawn_23 : decode b_Y_stepDrawn 23 = .ok (.iload 4, 2) := by decide +kernel
theorem d_Y_stepDrawn_25 : decode b_Y_stepDrawn 25 = .ok (.bipush 10, 2) := by decide +kernel
theorem d_Y_stepDrawn_27 : decode b_Y_stepDrawn 27 = .ok (.if_icmp .lt 5, 3) := by decide +kernel
theorem d_Y_stepDrawn_30 : decode b_Y_stepDrawn 30 = .ok (.iconst 0, 1) := by decide +kernel
theorem d_Y_stepDrawn_31 : decode b_Y_stepDrawn 31 = .ok (.ireturn, 1) := by decide +kernel
theorem d_Y_stepDrawn_32 : decode b_Y_stepDrawn 32 = .ok (.aload_n 0, 1) := by decide +kernel
theorem d_Y_stepDrawn_33 : decode b_Y_stepDrawn 33 = .ok (.aload_n 0, 1) := by decide +kernel
theorem d_Y_stepDrawn_34 : decode b_Y_stepDrawn 34 = .ok (.getfield 23, 3) := by decide +kernel
theorem d_Y_stepDrawn_37 : decode b_Y_stepDrawn 37 = .ok (.iload 4, 2) := by decide +kernel
theorem d_Y_stepDrawn_39 : decode b_Y_stepDrawn 39 = .ok (.iaload, 1) := by decide +kernel
theorem d_Y_stepDrawn_40 : decode b_Y_stepDrawn 40 = .ok (.invokevirtual 37, 3) := by decide +kernel
theorem d_Y_stepDrawn_43 : decode b_Y_stepDrawn 43 = .ok (.astore 5, 2) := by decide +kernel
theorem d_Y_stepDrawn_45 : decode b_Y_stepDrawn 45 = .ok (.aload 5, 2) := by decide +kernel
theorem d_Y_stepDrawn_47 : decode b_Y_stepDrawn 47 = .ok (.ifnonnull 5, 3) := by decide +kernel
theorem d_Y_stepDrawn_50 : decode b_Y_stepDrawn 50 = .ok (.iconst 0, 1) := by decide +kernel
theorem d_Y_stepDrawn_51 : decode b_Y_stepDrawn 51 = .ok (.ireturn, 1) := by decide +kernel
theorem d_Y_stepDrawn_52 : decode b_Y_stepDrawn 52 = .ok (.aload 5, 2) := by decide +kernel
theorem d_Y_stepDrawn_54 : decode b_Y_stepDrawn 54 = .ok (.invokevirtual 81, 3) := by decide +kernel
theorem d_Y_stepDrawn_57 : decode b_Y_stepDrawn 57 = .ok (.iconst 1, 1) := by decide +kernel
theorem d_Y_stepDrawn_58 : decode b_Y_stepDrawn 58 = .ok (.ireturn, 1) := by decide +kernel
theorem d_Y_listReady_0 : decode b_Y_listReady 0 = .ok (.iconst 0, 1) := by decide +kernel
theorem d_Y_listReady_1 : decode b_Y_listReady 1 = .ok (.istore_n 1, 1) := by decide +kernel
theorem d_Y_listReady_2 : decode b_Y_listReady 2 = .ok (.iconst 0, 1) := by decide +kernel
theorem d_Y_listReady_3 : decode b_Y_listReady 3 = .ok (.istore_n 2, 1) := by decide +kernel
theorem d_Y_listReady_4 : decode b_Y_listReady 4 = .ok (.iload_n 2, 1) := by decide +kernel
theorem d_Y_listReady_5 : decode b_Y_listReady 5 = .ok (.aload_n 0, 1) := by decide +kernel
theorem d_Y_listReady_6 : decode b_Y_listReady 6 = .ok (.getfield 27, 3) := by decide +kernel
theorem d_Y_listReady_9 : decode b_Y_listReady 9 = .ok (.if_icmp .ge 36, 3) := by decide +kernel
theorem d_Y_listReady_12 : decode b_Y_listReady 12 = .ok (.aload_n 0, 1) := by decide +kernel
theorem d_Y_listReady_13 : decode b_Y_listReady 13 = .ok (.iload_n 2, 1) := by decide +kernel
theorem d_Y_listReady_14 : decode b_Y_listReady 14 = .ok (.invokevirtual 37, 3) := by decide +kernel
theorem d_Y_listReady_17 : decode b_Y_listReady 17 = .ok (.astore_n 3, 1) := by decide +kernel
theorem d_Y_listReady_18 : decode b_Y_listReady 18 = .ok (.aload_n 3, 1) := by decide +kernel
theorem d_Y_listReady_19 : decode b_Y_listReady 19 = .ok (.ifnull 20, 3) := by decide +kernel
theorem d_Y_listReady_22 : decode b_Y_listReady 22 = .ok (.aload_n 3, 1) := by decide +kernel
theorem d_Y_listReady_23 : decode b_Y_listReady 23 = .ok (.invokevirtual 84, 3) := by decide +kernel
theorem d_Y_listReady_26 : decode b_Y_listReady 26 = .ok (.ifCond .eq 13, 3) := by decide +kernel
theorem d_Y_listReady_29 : decode b_Y_listReady 29 = .ok (.aload_n 0, 1) := by decide +kernel
theorem d_Y_listReady_30 : decode b_Y_listReady 30 = .ok (.getfield 23, 3) := by decide +kernel
theorem d_Y_listReady_33 : decode b_Y_listReady 33 = .ok (.iload_n 1, 1) := by decide +kernel
theorem d_Y_listReady_34 : decode b_Y_listReady 34 = .ok (.iload_n 2, 1) := by decide +kernel
theorem d_Y_listReady_35 : decode b_Y_listReady 35 = .ok (.iastore, 1) := by decide +kernel
theorem d_Y_listReady_36 : decode b_Y_listReady 36 = .ok (.iinc 1 1, 3) := by decide +kernel
theorem d_Y_listReady_39 : decode b_Y_listReady 39 = .ok (.iinc 2 1, 3) := by decide +kernel
theorem d_Y_listReady_42 : decode b_Y_listReady 42 = .ok (.goto (-38), 3) := by decide +kernel
theorem d_Y_listReady_45 : decode b_Y_listReady 45 = .ok (.iload_n 1, 1) := by decide +kernel
theorem d_Y_listReady_46 : decode b_Y_listReady 46 = .ok (.ireturn, 1) := by decide +kernel
theorem d_Y_settle_0 : decode b_Y_settle 0 = .ok (.iconst 0, 1) := by decide +kernel
theorem d_Y_settle_1 : decode b_Y_settle 1 = .ok (.istore_n 1, 1) := by decide +kernel
theorem d_Y_settle_2 : decode b_Y_settle 2 = .ok (.iload_n 1, 1) := by decide +kernel
theorem d_Y_settle_3 : decode b_Y_settle 3 = .ok (.sipush 1000, 3) := by decide +kernel
theorem d_Y_settle_6 : decode b_Y_settle 6 = .ok (.if_icmp .gt 19, 3) := by decide +kernel
theorem d_Y_settle_9 : decode b_Y_settle 9 = .ok (.aload_n 0, 1) := by decide +kernel
theorem d_Y_settle_10 : decode b_Y_settle 10 = .ok (.invokevirtual 87, 3) := by decide +kernel
theorem d_Y_settle_13 : decode b_Y_settle 13 = .ok (.ifCond .ne 6, 3) := by decide +kernel
theorem d_Y_settle_16 : decode b_Y_settle 16 = .ok (.goto 9, 3) := by decide +kernel
theorem d_Y_settle_19 : decode b_Y_settle 19 = .ok (.iinc 1 1, 3) := by decide +kernel
theorem d_Y_settle_22 : decode b_Y_settle 22 = .ok (.goto (-20), 3) := by decide +kernel
theorem d_Y_settle_25 : decode b_Y_settle 25 = .ok (.return_, 1) := by decide +kernel
theorem d_Y_stepRound_0 : decode b_Y_stepRound 0 = .ok (.iconst 0, 1) := by decide +kernel
theorem d_Y_stepRound_1 : decode b_Y_stepRound 1 = .ok (.istore_n 1, 1) := by decide +kernel
theorem d_Y_stepRound_2 : decode b_Y_stepRound 2 = .ok (.iconst 0, 1) := by decide +kernel
theorem d_Y_stepRound_3 : decode b_Y_stepRound 3 = .ok (.istore_n 2, 1) := by decide +kernel
theorem d_Y_stepRound_4 : decode b_Y_stepRound 4 = .ok (.iload_n 2, 1) := by decide +kernel
theorem d_Y_stepRound_5 : decode b_Y_stepRound 5 = .ok (.aload_n 0, 1) := by decide +kernel
theorem d_Y_stepRound_6 : decode b_Y_stepRound 6 = .ok (.getfield 27, 3) := by decide +kernel
theorem d_Y_stepRound_9 : decode b_Y_stepRound 9 = .ok (.if_icmp .ge 51, 3) := by decide +kernel
theorem d_Y_stepRound_12 : decode b_Y_stepRound 12 = .ok (.aload_n 0, 1) := by decide +kernel
theorem d_Y_stepRound_13 : decode b_Y_stepRound 13 = .ok (.iload_n 2, 1) := by decide +kernel
theorem d_Y_stepRound_14 : decode b_Y_stepRound 14 = .ok (.invokevirtual 37, 3) := by decide +kernel
theorem d_Y_stepRound_17 : decode b_Y_stepRound 17 = .ok (.astore_n 3, 1) := by decide +kernel
theorem d_Y_stepRound_18 : decode b_Y_stepRound 18 = .ok (.iconst 0, 1) := by decide +kernel
theorem d_Y_stepRound_19 : decode b_Y_stepRound 19 = .ok (.istore 4, 2) := by decide +kernel
theorem d_Y_stepRound_21 : decode b_Y_stepRound 21 = .ok (.iload 4, 2) := by decide +kernel
theorem d_Y_stepRound_23 : decode b_Y_stepRound 23 = .ok (.bipush 100, 2) := by decide +kernel
theorem d_Y_stepRound_25 : decode b_Y_stepRound 25 = .ok (.if_icmp .ge 29, 3) := by decide +kernel
theorem d_Y_stepRound_28 : decode b_Y_stepRound 28 = .ok (.aload_n 3, 1) := by decide +kernel
theorem d_Y_stepRound_29 : decode b_Y_stepRound 29 = .ok (.ifnull 25, 3) := by decide +kernel
theorem d_Y_stepRound_32 : decode b_Y_stepRound 32 = .ok (.aload_n 3, 1) := by decide +kernel
theorem d_Y_stepRound_33 : decode b_Y_stepRound 33 = .ok (.invokevirtual 84, 3) := by decide +kernel
theorem d_Y_stepRound_36 : decode b_Y_stepRound 36 = .ok (.ifCond .ne 6, 3) := by decide +kernel
theorem d_Y_stepRound_39 : decode b_Y_stepRound 39 = .ok (.goto 15, 3) := by decide +kernel
theorem d_Y_stepRound_42 : decode b_Y_stepRound 42 = .ok (.aload_n 3, 1) := by decide +kernel
theorem d_Y_stepRound_43 : decode b_Y_stepRound 43 = .ok (.invokevirtual 81, 3) := by decide +kernel
theorem d_Y_stepRound_46 : decode b_Y_stepRound 46 = .ok (.iconst 1, 1) := by decide +kernel
theorem d_Y_stepRound_47 : decode b_Y_stepRound 47 = .ok (.istore_n 1, 1) := by decide +kernel
theorem d_Y_stepRound_48 : decode b_Y_stepRound 48 = .ok (.iinc 4 1, 3) := by decide +kernel
theorem d_Y_stepRound_51 : decode b_Y_stepRound 51 = .ok (.goto (-30), 3) := by decide +kernel
theorem d_Y_stepRound_54 : decode b_Y_stepRound 54 = .ok (.iinc 2 1, 3) := by decide +kernel
theorem d_Y_stepRound_57 : decode b_Y_stepRound 57 = .ok (.goto (-53), 3) := by decide +kernel
theorem d_Y_stepRound_60 : decode b_Y_stepRound 60 = .ok (.iload_n 1, 1) := by decide +kernel
theorem d_Y_stepRound_61 : decode b_Y_stepRound 61 = .ok (.ireturn, 1) := by decide +kernel
theorem d_Y_copyFrom_0 : decode b_Y_copyFrom 0 = .ok (.iconst 0, 1) := by decide +kernel
theorem d_Y_copyFrom_1 : decode b_Y_copyFrom 1 = .ok (.istore_n 2, 1) := by decide +kernel
theorem d_Y_copyFrom_2 : decode b_Y_copyFrom 2 = .ok (.iload_n 2, 1) := by decide +kernel
theorem d_Y_copyFrom_3 : decode b_Y_copyFrom 3 = .ok (.aload_n 0, 1) := by decide +kernel
theorem d_Y_copyFrom_4 : decode b_Y_copyFrom 4 = .ok (.getfield 27, 3) := by decide +kernel
theorem d_Y_copyFrom_7 : decode b_Y_copyFrom 7 = .ok (.if_icmp .ge 37, 3) := by decide +kernel
theorem d_Y_copyFrom_10 : decode b_Y_copyFrom 10 = .ok (.aload_n 0, 1) := by decide +kernel
theorem d_Y_copyFrom_11 : decode b_Y_copyFrom 11 = .ok (.iload_n 2, 1) := by decide +kernel
theorem d_Y_copyFrom_12 : decode b_Y_copyFrom 12 = .ok (.invokevirtual 37, 3) := by decide +kernel
theorem d_Y_copyFrom_15 : decode b_Y_copyFrom 15 = .ok (.astore_n 3, 1) := by decide +kernel
theorem d_Y_copyFrom_16 : decode b_Y_copyFrom 16 = .ok (.aload_n 1, 1) := by decide +kernel
theorem d_Y_copyFrom_17 : decode b_Y_copyFrom 17 = .ok (.iload_n 2, 1) := by decide +kernel
theorem d_Y_copyFrom_18 : decode b_Y_copyFrom 18 = .ok (.invokevirtual 37, 3) := by decide +kernel
theorem d_Y_copyFrom_21 : decode b_Y_copyFrom 21 = .ok (.astore 4, 2) := by decide +kernel
theorem d_Y_copyFrom_23 : decode b_Y_copyFrom 23 = .ok (.aload_n 3, 1) := by decide +kernel
theorem d_Y_copyFrom_24 : decode b_Y_copyFrom 24 = .ok (.ifnull 14, 3) := by decide +kernel
theorem d_Y_copyFrom_27 : decode b_Y_copyFrom 27 = .ok (.aload 4, 2) := by decide +kernel
theorem d_Y_copyFrom_29 : decode b_Y_copyFrom 29 = .ok (.ifnull 9, 3) := by decide +kernel
theorem d_Y_copyFrom_32 : decode b_Y_copyFrom 32 = .ok (.aload_n 3, 1) := by decide +kernel
theorem d_Y_copyFrom_33 : decode b_Y_copyFrom 33 = .ok (.aload 4, 2) := by decide +kernel
theorem d_Y_copyFrom_35 : decode b_Y_copyFrom 35 = .ok (.invokevirtual 90, 3) := by decide +kernel
theorem d_Y_copyFrom_38 : decode b_Y_copyFrom 38 = .ok (.iinc 2 1, 3) := by decide +kernel
theorem d_Y_copyFrom_41 : decode b_Y_copyFrom 41 = .ok (.goto (-39), 3) := by decide +kernel
theorem d_Y_copyFrom_44 : decode b_Y_copyFrom 44 = .ok (.iconst 0, 1) := by decide +kernel
theorem d_Y_copyFrom_45 : decode b_Y_copyFrom 45 = .ok (.istore_n 2, 1) := by decide +kernel
theorem d_Y_copyFrom_46 : decode b_Y_copyFrom 46 = .ok (.iload_n 2, 1) := by decide +kernel
theorem d_Y_copyFrom_47 : decode b_Y_copyFrom 47 = .ok (.aload_n 0, 1) := by decide +kernel
theorem d_Y_copyFrom_48 : decode b_Y_copyFrom 48 = .ok (.getfield 31, 3) := by decide +kernel
theorem d_Y_copyFrom_51 : decode b_Y_copyFrom 51 = .ok (.if_icmp .ge 37, 3) := by decide +kernel
theorem d_Y_copyFrom_54 : decode b_Y_copyFrom 54 = .ok (.aload_n 0, 1) := by decide +kernel
theorem d_Y_copyFrom_55 : decode b_Y_copyFrom 55 = .ok (.iload_n 2, 1) := by decide +kernel
theorem d_Y_copyFrom_56 : decode b_Y_copyFrom 56 = .ok (.invokevirtual 61, 3) := by decide +kernel
theorem d_Y_copyFrom_59 : decode b_Y_copyFrom 59 = .ok (.astore_n 3, 1) := by decide +kernel
theorem d_Y_copyFrom_60 : decode b_Y_copyFrom 60 = .ok (.aload_n 1, 1) := by decide +kernel
theorem d_Y_copyFrom_61 : decode b_Y_copyFrom 61 = .ok (.iload_n 2, 1) := by decide +kernel
theorem d_Y_copyFrom_62 : decode b_Y_copyFrom 62 = .ok (.invokevirtual 61, 3) := by decide +kernel
theorem d_Y_copyFrom_65 : decode b_Y_copyFrom 65 = .ok (.astore 4, 2) := by decide +kernel
theorem d_Y_copyFrom_67 : decode b_Y_copyFrom 67 = .ok (.aload_n 3, 1) := by decide +kernel
theorem d_Y_copyFrom_68 : decode b_Y_copyFrom 68 = .ok (.ifnull 14, 3) := by decide +kernel
theorem d_Y_copyFrom_71 : decode b_Y_copyFrom 71 = .ok (.aload 4, 2) := by decide +kernel
theorem d_Y_copyFrom_73 : decode b_Y_copyFrom 73 = .ok (.ifnull 9, 3) := by decide +kernel
theorem d_Y_copyFrom_76 : decode b_Y_copyFrom 76 = .ok (.aload_n 3, 1) := by decide +kernel
theorem d_Y_copyFrom_77 : decode b_Y_copyFrom 77 = .ok (.aload 4, 2) := by decide +kernel
theorem d_Y_copyFrom_79 : decode b_Y_copyFrom 79 = .ok (.invokevirtual 94, 3) := by decide +kernel
theorem d_Y_copyFrom_82 : decode b_Y_copyFrom 82 = .ok (.iinc 2 1, 3) := by decide +kernel
theorem d_Y_copyFrom_85 : decode b_Y_copyFrom 85 = .ok (.goto (-39), 3) := by decide +kernel
theorem d_Y_copyFrom_88 : decode b_Y_copyFrom 88 = .ok (.return_, 1) := by decide +kernel
