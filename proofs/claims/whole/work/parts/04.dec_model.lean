/-! each instruction, by program: M -/
theorem d_M_init_0 : decode b_M_init 0 = .ok (.aload_n 0, 1) := by decide +kernel
theorem d_M_init_1 : decode b_M_init 1 = .ok (.invokespecial 1, 3) := by decide +kernel
theorem d_M_init_4 : decode b_M_init 4 = .ok (.aload_n 0, 1) := by decide +kernel
theorem d_M_init_5 : decode b_M_init 5 = .ok (.bipush 10, 2) := by decide +kernel
theorem d_M_init_7 : decode b_M_init 7 = .ok (.newarray .int, 2) := by decide +kernel
theorem d_M_init_9 : decode b_M_init 9 = .ok (.putfield 7, 3) := by decide +kernel
theorem d_M_init_12 : decode b_M_init 12 = .ok (.aload_n 0, 1) := by decide +kernel
theorem d_M_init_13 : decode b_M_init 13 = .ok (.bipush 10, 2) := by decide +kernel
theorem d_M_init_15 : decode b_M_init 15 = .ok (.newarray .int, 2) := by decide +kernel
theorem d_M_init_17 : decode b_M_init 17 = .ok (.putfield 13, 3) := by decide +kernel
theorem d_M_init_20 : decode b_M_init 20 = .ok (.aload_n 0, 1) := by decide +kernel
theorem d_M_init_21 : decode b_M_init 21 = .ok (.bipush 10, 2) := by decide +kernel
theorem d_M_init_23 : decode b_M_init 23 = .ok (.newarray .int, 2) := by decide +kernel
theorem d_M_init_25 : decode b_M_init 25 = .ok (.putfield 16, 3) := by decide +kernel
theorem d_M_init_28 : decode b_M_init 28 = .ok (.aload_n 0, 1) := by decide +kernel
theorem d_M_init_29 : decode b_M_init 29 = .ok (.bipush 10, 2) := by decide +kernel
theorem d_M_init_31 : decode b_M_init 31 = .ok (.newarray .int, 2) := by decide +kernel
theorem d_M_init_33 : decode b_M_init 33 = .ok (.putfield 19, 3) := by decide +kernel
theorem d_M_init_36 : decode b_M_init 36 = .ok (.aload_n 0, 1) := by decide +kernel
theorem d_M_init_37 : decode b_M_init 37 = .ok (.sipush 200, 3) := by decide +kernel
theorem d_M_init_40 : decode b_M_init 40 = .ok (.newarray .int, 2) := by decide +kernel
theorem d_M_init_42 : decode b_M_init 42 = .ok (.putfield 22, 3) := by decide +kernel
theorem d_M_init_45 : decode b_M_init 45 = .ok (.aload_n 0, 1) := by decide +kernel
theorem d_M_init_46 : decode b_M_init 46 = .ok (.bipush 16, 2) := by decide +kernel
theorem d_M_init_48 : decode b_M_init 48 = .ok (.newarray .int, 2) := by decide +kernel
theorem d_M_init_50 : decode b_M_init 50 = .ok (.putfield 25, 3) := by decide +kernel
theorem d_M_init_53 : decode b_M_init 53 = .ok (.aload_n 0, 1) := by decide +kernel
theorem d_M_init_54 : decode b_M_init 54 = .ok (.bipush 20, 2) := by decide +kernel
theorem d_M_init_56 : decode b_M_init 56 = .ok (.newarray .int, 2) := by decide +kernel
theorem d_M_init_58 : decode b_M_init 58 = .ok (.putfield 28, 3) := by decide +kernel
theorem d_M_init_61 : decode b_M_init 61 = .ok (.aload_n 0, 1) := by decide +kernel
theorem d_M_init_62 : decode b_M_init 62 = .ok (.bipush 20, 2) := by decide +kernel
theorem d_M_init_64 : decode b_M_init 64 = .ok (.newarray .int, 2) := by decide +kernel
theorem d_M_init_66 : decode b_M_init 66 = .ok (.putfield 31, 3) := by decide +kernel
theorem d_M_init_69 : decode b_M_init 69 = .ok (.aload_n 0, 1) := by decide +kernel
theorem d_M_init_70 : decode b_M_init 70 = .ok (.bipush 20, 2) := by decide +kernel
theorem d_M_init_72 : decode b_M_init 72 = .ok (.newarray .int, 2) := by decide +kernel
theorem d_M_init_74 : decode b_M_init 74 = .ok (.putfield 34, 3) := by decide +kernel
theorem d_M_init_77 : decode b_M_init 77 = .ok (.aload_n 0, 1) := by decide +kernel
theorem d_M_init_78 : decode b_M_init 78 = .ok (.bipush 20, 2) := by decide +kernel
theorem d_M_init_80 : decode b_M_init 80 = .ok (.newarray .int, 2) := by decide +kernel
theorem d_M_init_82 : decode b_M_init 82 = .ok (.putfield 37, 3) := by decide +kernel
theorem d_M_init_85 : decode b_M_init 85 = .ok (.aload_n 0, 1) := by decide +kernel
theorem d_M_init_86 : decode b_M_init 86 = .ok (.bipush 20, 2) := by decide +kernel
theorem d_M_init_88 : decode b_M_init 88 = .ok (.newarray .int, 2) := by decide +kernel
theorem d_M_init_90 : decode b_M_init 90 = .ok (.putfield 40, 3) := by decide +kernel
theorem d_M_init_93 : decode b_M_init 93 = .ok (.aload_n 0, 1) := by decide +kernel
theorem d_M_init_94 : decode b_M_init 94 = .ok (.sipush 1200, 3) := by decide +kernel
theorem d_M_init_97 : decode b_M_init 97 = .ok (.newarray .int, 2) := by decide +kernel
theorem d_M_init_99 : decode b_M_init 99 = .ok (.putfield 43, 3) := by decide +kernel
theorem d_M_init_102 : decode b_M_init 102 = .ok (.aload_n 0, 1) := by decide +kernel
theorem d_M_init_103 : decode b_M_init 103 = .ok (.bipush 32, 2) := by decide +kernel
theorem d_M_init_105 : decode b_M_init 105 = .ok (.newarray .int, 2) := by decide +kernel
theorem d_M_init_107 : decode b_M_init 107 = .ok (.putfield 46, 3) := by decide +kernel
theorem d_M_init_110 : decode b_M_init 110 = .ok (.aload_n 0, 1) := by decide +kernel
theorem d_M_init_111 : decode b_M_init 111 = .ok (.sipush 256, 3) := by decide +kernel
theorem d_M_init_114 : decode b_M_init 114 = .ok (.newarray .int, 2) := by decide +kernel
theorem d_M_init_116 : decode b_M_init 116 = .ok (.putfield 49, 3) := by decide +kernel
theorem d_M_init_119 : decode b_M_init 119 = .ok (.iconst 0, 1) := by decide +kernel
theorem d_M_init_120 : decode b_M_init 120 = .ok (.istore_n 1, 1) := by decide +kernel
theorem d_M_init_121 : decode b_M_init 121 = .ok (.iload_n 1, 1) := by decide +kernel
theorem d_M_init_122 : decode b_M_init 122 = .ok (.bipush 20, 2) := by decide +kernel
theorem d_M_init_124 : decode b_M_init 124 = .ok (.if_icmp .ge 23, 3) := by decide +kernel
theorem d_M_init_127 : decode b_M_init 127 = .ok (.aload_n 0, 1) := by decide +kernel
theorem d_M_init_128 : decode b_M_init 128 = .ok (.getfield 28, 3) := by decide +kernel
theorem d_M_init_131 : decode b_M_init 131 = .ok (.iload_n 1, 1) := by decide +kernel
theorem d_M_init_132 : decode b_M_init 132 = .ok (.iconst (-1), 1) := by decide +kernel
theorem d_M_init_133 : decode b_M_init 133 = .ok (.iastore, 1) := by decide +kernel
theorem d_M_init_134 : decode b_M_init 134 = .ok (.aload_n 0, 1) := by decide +kernel
theorem d_M_init_135 : decode b_M_init 135 = .ok (.getfield 31, 3) := by decide +kernel
theorem d_M_init_138 : decode b_M_init 138 = .ok (.iload_n 1, 1) := by decide +kernel
theorem d_M_init_139 : decode b_M_init 139 = .ok (.iconst (-1), 1) := by decide +kernel
theorem d_M_init_140 : decode b_M_init 140 = .ok (.iastore, 1) := by decide +kernel
theorem d_M_init_141 : decode b_M_init 141 = .ok (.iinc 1 1, 3) := by decide +kernel
theorem d_M_init_144 : decode b_M_init 144 = .ok (.goto (-23), 3) := by decide +kernel
theorem d_M_init_147 : decode b_M_init 147 = .ok (.return_, 1) := by decide +kernel
theorem d_M_isActor_0 : decode b_M_isActor 0 = .ok (.iload_n 1, 1) := by decide +kernel
theorem d_M_isActor_1 : decode b_M_isActor 1 = .ok (.ifCond .lt 15, 3) := by decide +kernel
theorem d_M_isActor_4 : decode b_M_isActor 4 = .ok (.iload_n 1, 1) := by decide +kernel
theorem d_M_isActor_5 : decode b_M_isActor 5 = .ok (.aload_n 0, 1) := by decide +kernel
theorem d_M_isActor_6 : decode b_M_isActor 6 = .ok (.getfield 52, 3) := by decide +kernel
theorem d_M_isActor_9 : decode b_M_isActor 9 = .ok (.if_icmp .ge 7, 3) := by decide +kernel
theorem d_M_isActor_12 : decode b_M_isActor 12 = .ok (.iconst 1, 1) := by decide +kernel
theorem d_M_isActor_13 : decode b_M_isActor 13 = .ok (.goto 4, 3) := by decide +kernel
theorem d_M_isActor_16 : decode b_M_isActor 16 = .ok (.iconst 0, 1) := by decide +kernel
theorem d_M_isActor_17 : decode b_M_isActor 17 = .ok (.ireturn, 1) := by decide +kernel
theorem d_M_isSink_0 : decode b_M_isSink 0 = .ok (.aload_n 0, 1) := by decide +kernel
theorem d_M_isSink_1 : decode b_M_isSink 1 = .ok (.iload_n 1, 1) := by decide +kernel
theorem d_M_isSink_2 : decode b_M_isSink 2 = .ok (.invokevirtual 56, 3) := by decide +kernel
theorem d_M_isSink_5 : decode b_M_isSink 5 = .ok (.ifCond .eq 18, 3) := by decide +kernel
theorem d_M_isSink_8 : decode b_M_isSink 8 = .ok (.aload_n 0, 1) := by decide +kernel
theorem d_M_isSink_9 : decode b_M_isSink 9 = .ok (.getfield 7, 3) := by decide +kernel
theorem d_M_isSink_12 : decode b_M_isSink 12 = .ok (.iload_n 1, 1) := by decide +kernel
theorem d_M_isSink_13 : decode b_M_isSink 13 = .ok (.iaload, 1) := by decide +kernel
theorem d_M_isSink_14 : decode b_M_isSink 14 = .ok (.bipush 6, 2) := by decide +kernel
theorem d_M_isSink_16 : decode b_M_isSink 16 = .ok (.if_icmp .ne 7, 3) := by decide +kernel
theorem d_M_isSink_19 : decode b_M_isSink 19 = .ok (.iconst 1, 1) := by decide +kernel
theorem d_M_isSink_20 : decode b_M_isSink 20 = .ok (.goto 4, 3) := by decide +kernel
theorem d_M_isSink_23 : decode b_M_isSink 23 = .ok (.iconst 0, 1) := by decide +kernel
theorem d_M_isSink_24 : decode b_M_isSink 24 = .ok (.ireturn, 1) := by decide +kernel
theorem d_M_isChannel_0 : decode b_M_isChannel 0 = .ok (.iload_n 1, 1) := by decide +kernel
theorem d_M_isChannel_1 : decode b_M_isChannel 1 = .ok (.ifCond .lt 15, 3) := by decide +kernel
theorem d_M_isChannel_4 : decode b_M_isChannel 4 = .ok (.iload_n 1, 1) := by decide +kernel
theorem d_M_isChannel_5 : decode b_M_isChannel 5 = .ok (.aload_n 0, 1) := by decide +kernel
theorem d_M_isChannel_6 : decode b_M_isChannel 6 = .ok (.getfield 60, 3) := by decide +kernel
theorem d_M_isChannel_9 : decode b_M_isChannel 9 = .ok (.if_icmp .ge 7, 3) := by decide +kernel
theorem d_M_isChannel_12 : decode b_M_isChannel 12 = .ok (.iconst 1, 1) := by decide +kernel
theorem d_M_isChannel_13 : decode b_M_isChannel 13 = .ok (.goto 4, 3) := by decide +kernel
theorem d_M_isChannel_16 : decode b_M_isChannel 16 = .ok (.iconst 0, 1) := by decide +kernel
theorem d_M_isChannel_17 : decode b_M_isChannel 17 = .ok (.ireturn, 1) := by decide +kernel
theorem d_M_insOf_0 : decode b_M_insOf 0 = .ok (.iload_n 0, 1) := by decide +kernel
theorem d_M_insOf_1 : decode b_M_insOf 1 = .ok (.ifCond .ne 7, 3) := by decide +kernel
theorem d_M_insOf_4 : decode b_M_insOf 4 = .ok (.iconst 0, 1) := by decide +kernel
theorem d_M_insOf_5 : decode b_M_insOf 5 = .ok (.goto 24, 3) := by decide +kernel
theorem d_M_insOf_8 : decode b_M_insOf 8 = .ok (.iload_n 0, 1) := by decide +kernel
theorem d_M_insOf_9 : decode b_M_insOf 9 = .ok (.iconst 3, 1) := by decide +kernel
theorem d_M_insOf_10 : decode b_M_insOf 10 = .ok (.if_icmp .eq 14, 3) := by decide +kernel
theorem d_M_insOf_13 : decode b_M_insOf 13 = .ok (.iload_n 0, 1) := by decide +kernel
theorem d_M_insOf_14 : decode b_M_insOf 14 = .ok (.iconst 4, 1) := by decide +kernel
theorem d_M_insOf_15 : decode b_M_insOf 15 = .ok (.if_icmp .eq 9, 3) := by decide +kernel
theorem d_M_insOf_18 : decode b_M_insOf 18 = .ok (.iload_n 0, 1) := by decide +kernel
theorem d_M_insOf_19 : decode b_M_insOf 19 = .ok (.bipush 7, 2) := by decide +kernel
theorem d_M_insOf_21 : decode b_M_insOf 21 = .ok (.if_icmp .ne 7, 3) := by decide +kernel
theorem d_M_insOf_24 : decode b_M_insOf 24 = .ok (.iconst 2, 1) := by decide +kernel
theorem d_M_insOf_25 : decode b_M_insOf 25 = .ok (.goto 4, 3) := by decide +kernel
theorem d_M_insOf_28 : decode b_M_insOf 28 = .ok (.iconst 1, 1) := by decide +kernel
theorem d_M_insOf_29 : decode b_M_insOf 29 = .ok (.ireturn, 1) := by decide +kernel
theorem d_M_outsOf_0 : decode b_M_outsOf 0 = .ok (.iload_n 0, 1) := by decide +kernel
theorem d_M_outsOf_1 : decode b_M_outsOf 1 = .ok (.bipush 6, 2) := by decide +kernel
theorem d_M_outsOf_3 : decode b_M_outsOf 3 = .ok (.if_icmp .ne 7, 3) := by decide +kernel
theorem d_M_outsOf_6 : decode b_M_outsOf 6 = .ok (.iconst 0, 1) := by decide +kernel
theorem d_M_outsOf_7 : decode b_M_outsOf 7 = .ok (.goto 19, 3) := by decide +kernel
theorem d_M_outsOf_10 : decode b_M_outsOf 10 = .ok (.iload_n 0, 1) := by decide +kernel
theorem d_M_outsOf_11 : decode b_M_outsOf 11 = .ok (.iconst 2, 1) := by decide +kernel
theorem d_M_outsOf_12 : decode b_M_outsOf 12 = .ok (.if_icmp .eq 9, 3) := by decide +kernel
theorem d_M_outsOf_15 : decode b_M_outsOf 15 = .ok (.iload_n 0, 1) := by decide +kernel
theorem d_M_outsOf_16 : decode b_M_outsOf 16 = .ok (.bipush 8, 2) := by decide +kernel
theorem d_M_outsOf_18 : decode b_M_outsOf 18 = .ok (.if_icmp .ne 7, 3) := by decide +kernel
theorem d_M_outsOf_21 : decode b_M_outsOf 21 = .ok (.iconst 2, 1) := by decide +kernel
theorem d_M_outsOf_22 : decode b_M_outsOf 22 = .ok (.goto 4, 3) := by decide +kernel
theorem d_M_outsOf_25 : decode b_M_outsOf 25 = .ok (.iconst 1, 1) := by decide +kernel
theorem d_M_outsOf_26 : decode b_M_outsOf 26 = .ok (.ireturn, 1) := by decide +kernel
theorem d_M_actor_0 : decode b_M_actor 0 = .ok (.aload_n 0, 1) := by decide +kernel
theorem d_M_actor_1 : decode b_M_actor 1 = .ok (.getfield 52, 3) := by decide +kernel
theorem d_M_actor_4 : decode b_M_actor 4 = .ok (.bipush 10, 2) := by decide +kernel
theorem d_M_actor_6 : decode b_M_actor 6 = .ok (.if_icmp .eq 13, 3) := by decide +kernel
theorem d_M_actor_9 : decode b_M_actor 9 = .ok (.iload_n 1, 1) := by decide +kernel
theorem d_M_actor_10 : decode b_M_actor 10 = .ok (.ifCond .lt 9, 3) := by decide +kernel
theorem d_M_actor_13 : decode b_M_actor 13 = .ok (.iload_n 1, 1) := by decide +kernel
theorem d_M_actor_14 : decode b_M_actor 14 = .ok (.bipush 8, 2) := by decide +kernel
theorem d_M_actor_16 : decode b_M_actor 16 = .ok (.if_icmp .le 5, 3) := by decide +kernel
theorem d_M_actor_19 : decode b_M_actor 19 = .ok (.iconst (-1), 1) := by decide +kernel
theorem d_M_actor_20 : decode b_M_actor 20 = .ok (.ireturn, 1) := by decide +kernel
theorem d_M_actor_21 : decode b_M_actor 21 = .ok (.aload_n 0, 1) := by decide +kernel
theorem d_M_actor_22 : decode b_M_actor 22 = .ok (.getfield 7, 3) := by decide +kernel
theorem d_M_actor_25 : decode b_M_actor 25 = .ok (.aload_n 0, 1) := by decide +kernel
theorem d_M_actor_26 : decode b_M_actor 26 = .ok (.getfield 52, 3) := by decide +kernel
theorem d_M_actor_29 : decode b_M_actor 29 = .ok (.iload_n 1, 1) := by decide +kernel
theorem d_M_actor_30 : decode b_M_actor 30 = .ok (.iastore, 1) := by decide +kernel
theorem d_M_actor_31 : decode b_M_actor 31 = .ok (.aload_n 0, 1) := by decide +kernel
theorem d_M_actor_32 : decode b_M_actor 32 = .ok (.getfield 13, 3) := by decide +kernel
theorem d_M_actor_35 : decode b_M_actor 35 = .ok (.aload_n 0, 1) := by decide +kernel
theorem d_M_actor_36 : decode b_M_actor 36 = .ok (.getfield 52, 3) := by decide +kernel
theorem d_M_actor_39 : decode b_M_actor 39 = .ok (.iload_n 2, 1) := by decide +kernel
theorem d_M_actor_40 : decode b_M_actor 40 = .ok (.iastore, 1) := by decide +kernel
theorem d_M_actor_41 : decode b_M_actor 41 = .ok (.aload_n 0, 1) := by decide +kernel
theorem d_M_actor_42 : decode b_M_actor 42 = .ok (.getfield 16, 3) := by decide +kernel
theorem d_M_actor_45 : decode b_M_actor 45 = .ok (.aload_n 0, 1) := by decide +kernel
theorem d_M_actor_46 : decode b_M_actor 46 = .ok (.getfield 52, 3) := by decide +kernel
theorem d_M_actor_49 : decode b_M_actor 49 = .ok (.iload_n 3, 1) := by decide +kernel
theorem d_M_actor_50 : decode b_M_actor 50 = .ok (.iastore, 1) := by decide +kernel
theorem d_M_actor_51 : decode b_M_actor 51 = .ok (.aload_n 0, 1) := by decide +kernel
theorem d_M_actor_52 : decode b_M_actor 52 = .ok (.dup, 1) := by decide +kernel
theorem d_M_actor_53 : decode b_M_actor 53 = .ok (.getfield 52, 3) := by decide +kernel
theorem d_M_actor_56 : decode b_M_actor 56 = .ok (.iconst 1, 1) := by decide +kernel
theorem d_M_actor_57 : decode b_M_actor 57 = .ok (.iadd, 1) := by decide +kernel
theorem d_M_actor_58 : decode b_M_actor 58 = .ok (.putfield 52, 3) := by decide +kernel
theorem d_M_actor_61 : decode b_M_actor 61 = .ok (.aload_n 0, 1) := by decide +kernel
theorem d_M_actor_62 : decode b_M_actor 62 = .ok (.getfield 52, 3) := by decide +kernel
theorem d_M_actor_65 : decode b_M_actor 65 = .ok (.iconst 1, 1) := by decide +kernel
theorem d_M_actor_66 : decode b_M_actor 66 = .ok (.isub, 1) := by decide +kernel
theorem d_M_actor_67 : decode b_M_actor 67 = .ok (.ireturn, 1) := by decide +kernel
theorem d_M_value_0 : decode b_M_value 0 = .ok (.aload_n 0, 1) := by decide +kernel
theorem d_M_value_1 : decode b_M_value 1 = .ok (.iload_n 1, 1) := by decide +kernel
theorem d_M_value_2 : decode b_M_value 2 = .ok (.invokevirtual 56, 3) := by decide +kernel
theorem d_M_value_5 : decode b_M_value 5 = .ok (.ifCond .eq 23, 3) := by decide +kernel
theorem d_M_value_8 : decode b_M_value 8 = .ok (.aload_n 0, 1) := by decide +kernel
theorem d_M_value_9 : decode b_M_value 9 = .ok (.getfield 7, 3) := by decide +kernel
theorem d_M_value_12 : decode b_M_value 12 = .ok (.iload_n 1, 1) := by decide +kernel
theorem d_M_value_13 : decode b_M_value 13 = .ok (.iaload, 1) := by decide +kernel
theorem d_M_value_14 : decode b_M_value 14 = .ok (.ifCond .ne 14, 3) := by decide +kernel
theorem d_M_value_17 : decode b_M_value 17 = .ok (.aload_n 0, 1) := by decide +kernel
theorem d_M_value_18 : decode b_M_value 18 = .ok (.getfield 19, 3) := by decide +kernel
theorem d_M_value_21 : decode b_M_value 21 = .ok (.iload_n 1, 1) := by decide +kernel
theorem d_M_value_22 : decode b_M_value 22 = .ok (.iaload, 1) := by decide +kernel
theorem d_M_value_23 : decode b_M_value 23 = .ok (.bipush 20, 2) := by decide +kernel
theorem d_M_value_25 : decode b_M_value 25 = .ok (.if_icmp .ne 5, 3) := by decide +kernel
theorem d_M_value_28 : decode b_M_value 28 = .ok (.iconst 0, 1) := by decide +kernel
theorem d_M_value_29 : decode b_M_value 29 = .ok (.ireturn, 1) := by decide +kernel
theorem d_M_value_30 : decode b_M_value 30 = .ok (.aload_n 0, 1) := by decide +kernel
theorem d_M_value_31 : decode b_M_value 31 = .ok (.getfield 22, 3) := by decide +kernel
theorem d_M_value_34 : decode b_M_value 34 = .ok (.bipush 20, 2) := by decide +kernel
theorem d_M_value_36 : decode b_M_value 36 = .ok (.iload_n 1, 1) := by decide +kernel
theorem d_M_value_37 : decode b_M_value 37 = .ok (.imul, 1) := by decide +kernel
theorem d_M_value_38 : decode b_M_value 38 = .ok (.aload_n 0, 1) := by decide +kernel
theorem d_M_value_39 : decode b_M_value 39 = .ok (.getfield 19, 3) := by decide +kernel
theorem d_M_value_42 : decode b_M_value 42 = .ok (.iload_n 1, 1) := by decide +kernel
theorem d_M_value_43 : decode b_M_value 43 = .ok (.iaload, 1) := by decide +kernel
theorem d_M_value_44 : decode b_M_value 44 = .ok (.iadd, 1) := by decide +kernel
theorem d_M_value_45 : decode b_M_value 45 = .ok (.iload_n 2, 1) := by decide +kernel
theorem d_M_value_46 : decode b_M_value 46 = .ok (.iastore, 1) := by decide +kernel
theorem d_M_value_47 : decode b_M_value 47 = .ok (.aload_n 0, 1) := by decide +kernel
theorem d_M_value_48 : decode b_M_value 48 = .ok (.getfield 19, 3) := by decide +kernel
theorem d_M_value_51 : decode b_M_value 51 = .ok (.iload_n 1, 1) := by decide +kernel
theorem d_M_value_52 : decode b_M_value 52 = .ok (.dup2, 1) := by decide +kernel
theorem d_M_value_53 : decode b_M_value 53 = .ok (.iaload, 1) := by decide +kernel
theorem d_M_value_54 : decode b_M_value 54 = .ok (.iconst 1, 1) := by decide +kernel
theorem d_M_value_55 : decode b_M_value 55 = .ok (.iadd, 1) := by decide +kernel
theorem d_M_value_56 : decode b_M_value 56 = .ok (.iastore, 1) := by decide +kernel
theorem d_M_value_57 : decode b_M_value 57 = .ok (.iconst 1, 1) := by decide +kernel
theorem d_M_value_58 : decode b_M_value 58 = .ok (.ireturn, 1) := by decide +kernel
theorem d_M_channel_0 : decode b_M_channel 0 = .ok (.aload_n 0, 1) := by decide +kernel
theorem d_M_channel_1 : decode b_M_channel 1 = .ok (.iload_n 1, 1) := by decide +kernel
theorem d_M_channel_2 : decode b_M_channel 2 = .ok (.invokevirtual 56, 3) := by decide +kernel
theorem d_M_channel_5 : decode b_M_channel 5 = .ok (.ifCond .eq 46, 3) := by decide +kernel
theorem d_M_channel_8 : decode b_M_channel 8 = .ok (.aload_n 0, 1) := by decide +kernel
theorem d_M_channel_9 : decode b_M_channel 9 = .ok (.iload_n 3, 1) := by decide +kernel
theorem d_M_channel_10 : decode b_M_channel 10 = .ok (.invokevirtual 56, 3) := by decide +kernel
theorem d_M_channel_13 : decode b_M_channel 13 = .ok (.ifCond .eq 38, 3) := by decide +kernel
theorem d_M_channel_16 : decode b_M_channel 16 = .ok (.iload_n 2, 1) := by decide +kernel
theorem d_M_channel_17 : decode b_M_channel 17 = .ok (.ifCond .lt 34, 3) := by decide +kernel
theorem d_M_channel_20 : decode b_M_channel 20 = .ok (.iload 4, 2) := by decide +kernel
theorem d_M_channel_22 : decode b_M_channel 22 = .ok (.ifCond .lt 29, 3) := by decide +kernel
theorem d_M_channel_25 : decode b_M_channel 25 = .ok (.iload 5, 2) := by decide +kernel
theorem d_M_channel_27 : decode b_M_channel 27 = .ok (.iconst 1, 1) := by decide +kernel
theorem d_M_channel_28 : decode b_M_channel 28 = .ok (.if_icmp .lt 23, 3) := by decide +kernel
theorem d_M_channel_31 : decode b_M_channel 31 = .ok (.iload 5, 2) := by decide +kernel
theorem d_M_channel_33 : decode b_M_channel 33 = .ok (.bipush 8, 2) := by decide +kernel
theorem d_M_channel_35 : decode b_M_channel 35 = .ok (.if_icmp .gt 16, 3) := by decide +kernel
theorem d_M_channel_38 : decode b_M_channel 38 = .ok (.aload_n 0, 1) := by decide +kernel
theorem d_M_channel_39 : decode b_M_channel 39 = .ok (.getfield 60, 3) := by decide +kernel
theorem d_M_channel_42 : decode b_M_channel 42 = .ok (.bipush 16, 2) := by decide +kernel
theorem d_M_channel_44 : decode b_M_channel 44 = .ok (.if_icmp .ge 7, 3) := by decide +kernel
theorem d_M_channel_47 : decode b_M_channel 47 = .ok (.iconst 1, 1) := by decide +kernel
theorem d_M_channel_48 : decode b_M_channel 48 = .ok (.goto 4, 3) := by decide +kernel
theorem d_M_channel_51 : decode b_M_channel 51 = .ok (.iconst 0, 1) := by decide +kernel
theorem d_M_channel_52 : decode b_M_channel 52 = .ok (.istore 6, 2) := by decide +kernel
theorem d_M_channel_54 : decode b_M_channel 54 = .ok (.iload 6, 2) := by decide +kernel
theorem d_M_channel_56 : decode b_M_channel 56 = .ok (.ifCond .eq 57, 3) := by decide +kernel
theorem d_M_channel_59 : decode b_M_channel 59 = .ok (.iload_n 2, 1) := by decide +kernel
theorem d_M_channel_60 : decode b_M_channel 60 = .ok (.aload_n 0, 1) := by decide +kernel
theorem d_M_channel_61 : decode b_M_channel 61 = .ok (.getfield 7, 3) := by decide +kernel
theorem d_M_channel_64 : decode b_M_channel 64 = .ok (.iload_n 1, 1) := by decide +kernel
theorem d_M_channel_65 : decode b_M_channel 65 = .ok (.iaload, 1) := by decide +kernel
theorem d_M_channel_66 : decode b_M_channel 66 = .ok (.invokestatic 63, 3) := by decide +kernel
theorem d_M_channel_69 : decode b_M_channel 69 = .ok (.if_icmp .ge 44, 3) := by decide +kernel
theorem d_M_channel_72 : decode b_M_channel 72 = .ok (.iload 4, 2) := by decide +kernel
theorem d_M_channel_74 : decode b_M_channel 74 = .ok (.aload_n 0, 1) := by decide +kernel
theorem d_M_channel_75 : decode b_M_channel 75 = .ok (.getfield 7, 3) := by decide +kernel
theorem d_M_channel_78 : decode b_M_channel 78 = .ok (.iload_n 3, 1) := by decide +kernel
theorem d_M_channel_79 : decode b_M_channel 79 = .ok (.iaload, 1) := by decide +kernel
theorem d_M_channel_80 : decode b_M_channel 80 = .ok (.invokestatic 67, 3) := by decide +kernel
theorem d_M_channel_83 : decode b_M_channel 83 = .ok (.if_icmp .ge 30, 3) := by decide +kernel
theorem d_M_channel_86 : decode b_M_channel 86 = .ok (.aload_n 0, 1) := by decide +kernel
theorem d_M_channel_87 : decode b_M_channel 87 = .ok (.getfield 31, 3) := by decide +kernel
theorem d_M_channel_90 : decode b_M_channel 90 = .ok (.iconst 2, 1) := by decide +kernel
theorem d_M_channel_91 : decode b_M_channel 91 = .ok (.iload_n 1, 1) := by decide +kernel
theorem d_M_channel_92 : decode b_M_channel 92 = .ok (.imul, 1) := by decide +kernel
theorem d_M_channel_93 : decode b_M_channel 93 = .ok (.iload_n 2, 1) := by decide +kernel
theorem d_M_channel_94 : decode b_M_channel 94 = .ok (.iadd, 1) := by decide +kernel
theorem d_M_channel_95 : decode b_M_channel 95 = .ok (.iaload, 1) := by decide +kernel
theorem d_M_channel_96 : decode b_M_channel 96 = .ok (.ifCond .ge 17, 3) := by decide +kernel
theorem d_M_channel_99 : decode b_M_channel 99 = .ok (.aload_n 0, 1) := by decide +kernel
theorem d_M_channel_100 : decode b_M_channel 100 = .ok (.getfield 28, 3) := by decide +kernel
theorem d_M_channel_103 : decode b_M_channel 103 = .ok (.iconst 2, 1) := by decide +kernel
theorem d_M_channel_104 : decode b_M_channel 104 = .ok (.iload_n 3, 1) := by decide +kernel
theorem d_M_channel_105 : decode b_M_channel 105 = .ok (.imul, 1) := by decide +kernel
theorem d_M_channel_106 : decode b_M_channel 106 = .ok (.iload 4, 2) := by decide +kernel
theorem d_M_channel_108 : decode b_M_channel 108 = .ok (.iadd, 1) := by decide +kernel
theorem d_M_channel_109 : decode b_M_channel 109 = .ok (.iaload, 1) := by decide +kernel
theorem d_M_channel_110 : decode b_M_channel 110 = .ok (.ifCond .lt 5, 3) := by decide +kernel
theorem d_M_channel_113 : decode b_M_channel 113 = .ok (.iconst (-1), 1) := by decide +kernel
theorem d_M_channel_114 : decode b_M_channel 114 = .ok (.ireturn, 1) := by decide +kernel
theorem d_M_channel_115 : decode b_M_channel 115 = .ok (.aload_n 0, 1) := by decide +kernel
theorem d_M_channel_116 : decode b_M_channel 116 = .ok (.getfield 31, 3) := by decide +kernel
theorem d_M_channel_119 : decode b_M_channel 119 = .ok (.iconst 2, 1) := by decide +kernel
theorem d_M_channel_120 : decode b_M_channel 120 = .ok (.iload_n 1, 1) := by decide +kernel
theorem d_M_channel_121 : decode b_M_channel 121 = .ok (.imul, 1) := by decide +kernel
theorem d_M_channel_122 : decode b_M_channel 122 = .ok (.iload_n 2, 1) := by decide +kernel
theorem d_M_channel_123 : decode b_M_channel 123 = .ok (.iadd, 1) := by decide +kernel
theorem d_M_channel_124 : decode b_M_channel 124 = .ok (.aload_n 0, 1) := by decide +kernel
theorem d_M_channel_125 : decode b_M_channel 125 = .ok (.getfield 60, 3) := by decide +kernel
theorem d_M_channel_128 : decode b_M_channel 128 = .ok (.iastore, 1) := by decide +kernel
theorem d_M_channel_129 : decode b_M_channel 129 = .ok (.aload_n 0, 1) := by decide +kernel
theorem d_M_channel_130 : decode b_M_channel 130 = .ok (.getfield 28, 3) := by decide +kernel
theorem d_M_channel_133 : decode b_M_channel 133 = .ok (.iconst 2, 1) := by decide +kernel
theorem d_M_channel_134 : decode b_M_channel 134 = .ok (.iload_n 3, 1) := by decide +kernel
theorem d_M_channel_135 : decode b_M_channel 135 = .ok (.imul, 1) := by decide +kernel
theorem d_M_channel_136 : decode b_M_channel 136 = .ok (.iload 4, 2) := by decide +kernel
theorem d_M_channel_138 : decode b_M_channel 138 = .ok (.iadd, 1) := by decide +kernel
theorem d_M_channel_139 : decode b_M_channel 139 = .ok (.aload_n 0, 1) := by decide +kernel
theorem d_M_channel_140 : decode b_M_channel 140 = .ok (.getfield 60, 3) := by decide +kernel
theorem d_M_channel_143 : decode b_M_channel 143 = .ok (.iastore, 1) := by decide +kernel
theorem d_M_channel_144 : decode b_M_channel 144 = .ok (.aload_n 0, 1) := by decide +kernel
theorem d_M_channel_145 : decode b_M_channel 145 = .ok (.getfield 25, 3) := by decide +kernel
theorem d_M_channel_148 : decode b_M_channel 148 = .ok (.aload_n 0, 1) := by decide +kernel
theorem d_M_channel_149 : decode b_M_channel 149 = .ok (.getfield 60, 3) := by decide +kernel
theorem d_M_channel_152 : decode b_M_channel 152 = .ok (.iload 5, 2) := by decide +kernel
theorem d_M_channel_154 : decode b_M_channel 154 = .ok (.iastore, 1) := by decide +kernel
theorem d_M_channel_155 : decode b_M_channel 155 = .ok (.aload_n 0, 1) := by decide +kernel
theorem d_M_channel_156 : decode b_M_channel 156 = .ok (.dup, 1) := by decide +kernel
theorem d_M_channel_157 : decode b_M_channel 157 = .ok (.getfield 60, 3) := by decide +kernel
theorem d_M_channel_160 : decode b_M_channel 160 = .ok (.iconst 1, 1) := by decide +kernel
theorem d_M_channel_161 : decode b_M_channel 161 = .ok (.iadd, 1) := by decide +kernel
theorem d_M_channel_162 : decode b_M_channel 162 = .ok (.putfield 60, 3) := by decide +kernel
theorem d_M_channel_165 : decode b_M_channel 165 = .ok (.aload_n 0, 1) := by decide +kernel
theorem d_M_channel_166 : decode b_M_channel 166 = .ok (.getfield 60, 3) := by decide +kernel
theorem d_M_channel_169 : decode b_M_channel 169 = .ok (.iconst 1, 1) := by decide +kernel
theorem d_M_channel_170 : decode b_M_channel 170 = .ok (.isub, 1) := by decide +kernel
theorem d_M_channel_171 : decode b_M_channel 171 = .ok (.ireturn, 1) := by decide +kernel
theorem d_M_hasValue_0 : decode b_M_hasValue 0 = .ok (.aload_n 0, 1) := by decide +kernel
theorem d_M_hasValue_1 : decode b_M_hasValue 1 = .ok (.getfield 28, 3) := by decide +kernel
theorem d_M_hasValue_4 : decode b_M_hasValue 4 = .ok (.iconst 2, 1) := by decide +kernel
theorem d_M_hasValue_5 : decode b_M_hasValue 5 = .ok (.iload_n 2, 1) := by decide +kernel
theorem d_M_hasValue_6 : decode b_M_hasValue 6 = .ok (.imul, 1) := by decide +kernel
theorem d_M_hasValue_7 : decode b_M_hasValue 7 = .ok (.iload_n 3, 1) := by decide +kernel
theorem d_M_hasValue_8 : decode b_M_hasValue 8 = .ok (.iadd, 1) := by decide +kernel
theorem d_M_hasValue_9 : decode b_M_hasValue 9 = .ok (.iaload, 1) := by decide +kernel
theorem d_M_hasValue_10 : decode b_M_hasValue 10 = .ok (.istore 4, 2) := by decide +kernel
theorem d_M_hasValue_12 : decode b_M_hasValue 12 = .ok (.iload 4, 2) := by decide +kernel
theorem d_M_hasValue_14 : decode b_M_hasValue 14 = .ok (.ifCond .lt 22, 3) := by decide +kernel
theorem d_M_hasValue_17 : decode b_M_hasValue 17 = .ok (.aload_n 0, 1) := by decide +kernel
theorem d_M_hasValue_18 : decode b_M_hasValue 18 = .ok (.getfield 46, 3) := by decide +kernel
theorem d_M_hasValue_21 : decode b_M_hasValue 21 = .ok (.bipush 16, 2) := by decide +kernel
theorem d_M_hasValue_23 : decode b_M_hasValue 23 = .ok (.iload_n 1, 1) := by decide +kernel
theorem d_M_hasValue_24 : decode b_M_hasValue 24 = .ok (.imul, 1) := by decide +kernel
theorem d_M_hasValue_25 : decode b_M_hasValue 25 = .ok (.iload 4, 2) := by decide +kernel
theorem d_M_hasValue_27 : decode b_M_hasValue 27 = .ok (.iadd, 1) := by decide +kernel
theorem d_M_hasValue_28 : decode b_M_hasValue 28 = .ok (.iaload, 1) := by decide +kernel
theorem d_M_hasValue_29 : decode b_M_hasValue 29 = .ok (.ifCond .le 7, 3) := by decide +kernel
theorem d_M_hasValue_32 : decode b_M_hasValue 32 = .ok (.iconst 1, 1) := by decide +kernel
theorem d_M_hasValue_33 : decode b_M_hasValue 33 = .ok (.goto 4, 3) := by decide +kernel
theorem d_M_hasValue_36 : decode b_M_hasValue 36 = .ok (.iconst 0, 1) := by decide +kernel
theorem d_M_hasValue_37 : decode b_M_hasValue 37 = .ok (.ireturn, 1) := by decide +kernel
theorem d_M_hasRoom_0 : decode b_M_hasRoom 0 = .ok (.aload_n 0, 1) := by decide +kernel
theorem d_M_hasRoom_1 : decode b_M_hasRoom 1 = .ok (.getfield 31, 3) := by decide +kernel
theorem d_M_hasRoom_4 : decode b_M_hasRoom 4 = .ok (.iconst 2, 1) := by decide +kernel
theorem d_M_hasRoom_5 : decode b_M_hasRoom 5 = .ok (.iload_n 2, 1) := by decide +kernel
theorem d_M_hasRoom_6 : decode b_M_hasRoom 6 = .ok (.imul, 1) := by decide +kernel
theorem d_M_hasRoom_7 : decode b_M_hasRoom 7 = .ok (.iload_n 3, 1) := by decide +kernel
theorem d_M_hasRoom_8 : decode b_M_hasRoom 8 = .ok (.iadd, 1) := by decide +kernel
theorem d_M_hasRoom_9 : decode b_M_hasRoom 9 = .ok (.iaload, 1) := by decide +kernel
theorem d_M_hasRoom_10 : decode b_M_hasRoom 10 = .ok (.istore 4, 2) := by decide +kernel
theorem d_M_hasRoom_12 : decode b_M_hasRoom 12 = .ok (.iload 4, 2) := by decide +kernel
theorem d_M_hasRoom_14 : decode b_M_hasRoom 14 = .ok (.ifCond .lt 25, 3) := by decide +kernel
theorem d_M_hasRoom_17 : decode b_M_hasRoom 17 = .ok (.aload_n 0, 1) := by decide +kernel
theorem d_M_hasRoom_18 : decode b_M_hasRoom 18 = .ok (.getfield 46, 3) := by decide +kernel
theorem d_M_hasRoom_21 : decode b_M_hasRoom 21 = .ok (.bipush 16, 2) := by decide +kernel
theorem d_M_hasRoom_23 : decode b_M_hasRoom 23 = .ok (.iload_n 1, 1) := by decide +kernel
theorem d_M_hasRoom_24 : decode b_M_hasRoom 24 = .ok (.imul, 1) := by decide +kernel
theorem d_M_hasRoom_25 : decode b_M_hasRoom 25 = .ok (.iload 4, 2) := by decide +kernel
theorem d_M_hasRoom_27 : decode b_M_hasRoom 27 = .ok (.iadd, 1) := by decide +kernel
theorem d_M_hasRoom_28 : decode b_M_hasRoom 28 = .ok (.iaload, 1) := by decide +kernel
theorem d_M_hasRoom_29 : decode b_M_hasRoom 29 = .ok (.aload_n 0, 1) := by decide +kernel
theorem d_M_hasRoom_30 : decode b_M_hasRoom 30 = .ok (.getfield 25, 3) := by decide +kernel
theorem d_M_hasRoom_33 : decode b_M_hasRoom 33 = .ok (.iload 4, 2) := by decide +kernel
theorem d_M_hasRoom_35 : decode b_M_hasRoom 35 = .ok (.iaload, 1) := by decide +kernel
theorem d_M_hasRoom_36 : decode b_M_hasRoom 36 = .ok (.if_icmp .ge 7, 3) := by decide +kernel
theorem d_M_hasRoom_39 : decode b_M_hasRoom 39 = .ok (.iconst 1, 1) := by decide +kernel
theorem d_M_hasRoom_40 : decode b_M_hasRoom 40 = .ok (.goto 4, 3) := by decide +kernel
theorem d_M_hasRoom_43 : decode b_M_hasRoom 43 = .ok (.iconst 0, 1) := by decide +kernel
theorem d_M_hasRoom_44 : decode b_M_hasRoom 44 = .ok (.ireturn, 1) := by decide +kernel
theorem d_M_look_0 : decode b_M_look 0 = .ok (.aload_n 0, 1) := by decide +kernel
theorem d_M_look_1 : decode b_M_look 1 = .ok (.getfield 49, 3) := by decide +kernel
theorem d_M_look_4 : decode b_M_look 4 = .ok (.sipush 128, 3) := by decide +kernel
theorem d_M_look_7 : decode b_M_look 7 = .ok (.iload_n 1, 1) := by decide +kernel
theorem d_M_look_8 : decode b_M_look 8 = .ok (.imul, 1) := by decide +kernel
theorem d_M_look_9 : decode b_M_look 9 = .ok (.bipush 8, 2) := by decide +kernel
theorem d_M_look_11 : decode b_M_look 11 = .ok (.aload_n 0, 1) := by decide +kernel
theorem d_M_look_12 : decode b_M_look 12 = .ok (.getfield 28, 3) := by decide +kernel
theorem d_M_look_15 : decode b_M_look 15 = .ok (.iconst 2, 1) := by decide +kernel
theorem d_M_look_16 : decode b_M_look 16 = .ok (.iload_n 2, 1) := by decide +kernel
theorem d_M_look_17 : decode b_M_look 17 = .ok (.imul, 1) := by decide +kernel
theorem d_M_look_18 : decode b_M_look 18 = .ok (.iload_n 3, 1) := by decide +kernel
theorem d_M_look_19 : decode b_M_look 19 = .ok (.iadd, 1) := by decide +kernel
theorem d_M_look_20 : decode b_M_look 20 = .ok (.iaload, 1) := by decide +kernel
theorem d_M_look_21 : decode b_M_look 21 = .ok (.imul, 1) := by decide +kernel
theorem d_M_look_22 : decode b_M_look 22 = .ok (.iadd, 1) := by decide +kernel
theorem d_M_look_23 : decode b_M_look 23 = .ok (.iaload, 1) := by decide +kernel
theorem d_M_look_24 : decode b_M_look 24 = .ok (.ireturn, 1) := by decide +kernel
theorem d_M_take_0 : decode b_M_take 0 = .ok (.aload_n 0, 1) := by decide +kernel
theorem d_M_take_1 : decode b_M_take 1 = .ok (.getfield 28, 3) := by decide +kernel
theorem d_M_take_4 : decode b_M_take 4 = .ok (.iconst 2, 1) := by decide +kernel
theorem d_M_take_5 : decode b_M_take 5 = .ok (.iload_n 2, 1) := by decide +kernel
theorem d_M_take_6 : decode b_M_take 6 = .ok (.imul, 1) := by decide +kernel
theorem d_M_take_7 : decode b_M_take 7 = .ok (.iload_n 3, 1) := by decide +kernel
theorem d_M_take_8 : decode b_M_take 8 = .ok (.iadd, 1) := by decide +kernel
theorem d_M_take_9 : decode b_M_take 9 = .ok (.iaload, 1) := by decide +kernel
theorem d_M_take_10 : decode b_M_take 10 = .ok (.istore 4, 2) := by decide +kernel
theorem d_M_take_12 : decode b_M_take 12 = .ok (.sipush 128, 3) := by decide +kernel
theorem d_M_take_15 : decode b_M_take 15 = .ok (.iload_n 1, 1) := by decide +kernel
theorem d_M_take_16 : decode b_M_take 16 = .ok (.imul, 1) := by decide +kernel
theorem d_M_take_17 : decode b_M_take 17 = .ok (.bipush 8, 2) := by decide +kernel
theorem d_M_take_19 : decode b_M_take 19 = .ok (.iload 4, 2) := by decide +kernel
theorem d_M_take_21 : decode b_M_take 21 = .ok (.imul, 1) := by decide +kernel
theorem d_M_take_22 : decode b_M_take 22 = .ok (.iadd, 1) := by decide +kernel
theorem d_M_take_23 : decode b_M_take 23 = .ok (.istore 5, 2) := by decide +kernel
theorem d_M_take_25 : decode b_M_take 25 = .ok (.aload_n 0, 1) := by decide +kernel
theorem d_M_take_26 : decode b_M_take 26 = .ok (.getfield 49, 3) := by decide +kernel
theorem d_M_take_29 : decode b_M_take 29 = .ok (.iload 5, 2) := by decide +kernel
theorem d_M_take_31 : decode b_M_take 31 = .ok (.iaload, 1) := by decide +kernel
theorem d_M_take_32 : decode b_M_take 32 = .ok (.istore 6, 2) := by decide +kernel
theorem d_M_take_34 : decode b_M_take 34 = .ok (.aload_n 0, 1) := by decide +kernel
theorem d_M_take_35 : decode b_M_take 35 = .ok (.getfield 46, 3) := by decide +kernel
theorem d_M_take_38 : decode b_M_take 38 = .ok (.bipush 16, 2) := by decide +kernel
theorem d_M_take_40 : decode b_M_take 40 = .ok (.iload_n 1, 1) := by decide +kernel
theorem d_M_take_41 : decode b_M_take 41 = .ok (.imul, 1) := by decide +kernel
theorem d_M_take_42 : decode b_M_take 42 = .ok (.iload 4, 2) := by decide +kernel
theorem d_M_take_44 : decode b_M_take 44 = .ok (.iadd, 1) := by decide +kernel
theorem d_M_take_45 : decode b_M_take 45 = .ok (.dup2, 1) := by decide +kernel
theorem d_M_take_46 : decode b_M_take 46 = .ok (.iaload, 1) := by decide +kernel
theorem d_M_take_47 : decode b_M_take 47 = .ok (.iconst 1, 1) := by decide +kernel
theorem d_M_take_48 : decode b_M_take 48 = .ok (.isub, 1) := by decide +kernel
theorem d_M_take_49 : decode b_M_take 49 = .ok (.iastore, 1) := by decide +kernel
theorem d_M_take_50 : decode b_M_take 50 = .ok (.iconst 0, 1) := by decide +kernel
theorem d_M_take_51 : decode b_M_take 51 = .ok (.istore 7, 2) := by decide +kernel
theorem d_M_take_53 : decode b_M_take 53 = .ok (.iload 7, 2) := by decide +kernel
theorem d_M_take_55 : decode b_M_take 55 = .ok (.aload_n 0, 1) := by decide +kernel
theorem d_M_take_56 : decode b_M_take 56 = .ok (.getfield 46, 3) := by decide +kernel
theorem d_M_take_59 : decode b_M_take 59 = .ok (.bipush 16, 2) := by decide +kernel
theorem d_M_take_61 : decode b_M_take 61 = .ok (.iload_n 1, 1) := by decide +kernel
theorem d_M_take_62 : decode b_M_take 62 = .ok (.imul, 1) := by decide +kernel
theorem d_M_take_63 : decode b_M_take 63 = .ok (.iload 4, 2) := by decide +kernel
theorem d_M_take_65 : decode b_M_take 65 = .ok (.iadd, 1) := by decide +kernel
theorem d_M_take_66 : decode b_M_take 66 = .ok (.iaload, 1) := by decide +kernel
theorem d_M_take_67 : decode b_M_take 67 = .ok (.if_icmp .ge 31, 3) := by decide +kernel
theorem d_M_take_70 : decode b_M_take 70 = .ok (.aload_n 0, 1) := by decide +kernel
theorem d_M_take_71 : decode b_M_take 71 = .ok (.getfield 49, 3) := by decide +kernel
theorem d_M_take_74 : decode b_M_take 74 = .ok (.iload 5, 2) := by decide +kernel
theorem d_M_take_76 : decode b_M_take 76 = .ok (.iload 7, 2) := by decide +kernel
theorem d_M_take_78 : decode b_M_take 78 = .ok (.iadd, 1) := by decide +kernel
theorem d_M_take_79 : decode b_M_take 79 = .ok (.aload_n 0, 1) := by decide +kernel
theorem d_M_take_80 : decode b_M_take 80 = .ok (.getfield 49, 3) := by decide +kernel
theorem d_M_take_83 : decode b_M_take 83 = .ok (.iload 5, 2) := by decide +kernel
theorem d_M_take_85 : decode b_M_take 85 = .ok (.iload 7, 2) := by decide +kernel
theorem d_M_take_87 : decode b_M_take 87 = .ok (.iadd, 1) := by decide +kernel
theorem d_M_take_88 : decode b_M_take 88 = .ok (.iconst 1, 1) := by decide +kernel
theorem d_M_take_89 : decode b_M_take 89 = .ok (.iadd, 1) := by decide +kernel
theorem d_M_take_90 : decode b_M_take 90 = .ok (.iaload, 1) := by decide +kernel
theorem d_M_take_91 : decode b_M_take 91 = .ok (.iastore, 1) := by decide +kernel
theorem d_M_take_92 : decode b_M_take 92 = .ok (.iinc 7 1, 3) := by decide +kernel
theorem d_M_take_95 : decode b_M_take 95 = .ok (.goto (-42), 3) := by decide +kernel
theorem d_M_take_98 : decode b_M_take 98 = .ok (.iload 6, 2) := by decide +kernel
theorem d_M_take_100 : decode b_M_take 100 = .ok (.ireturn, 1) := by decide +kernel
theorem d_M_give_0 : decode b_M_give 0 = .ok (.aload_n 0, 1) := by decide +kernel
theorem d_M_give_1 : decode b_M_give 1 = .ok (.getfield 31, 3) := by decide +kernel
theorem d_M_give_4 : decode b_M_give 4 = .ok (.iconst 2, 1) := by decide +kernel
theorem d_M_give_5 : decode b_M_give 5 = .ok (.iload_n 2, 1) := by decide +kernel
theorem d_M_give_6 : decode b_M_give 6 = .ok (.imul, 1) := by decide +kernel
theorem d_M_give_7 : decode b_M_give 7 = .ok (.iload_n 3, 1) := by decide +kernel
theorem d_M_give_8 : decode b_M_give 8 = .ok (.iadd, 1) := by decide +kernel
theorem d_M_give_9 : decode b_M_give 9 = .ok (.iaload, 1) := by decide +kernel
theorem d_M_give_10 : decode b_M_give 10 = .ok (.istore 5, 2) := by decide +kernel
theorem d_M_give_12 : decode b_M_give 12 = .ok (.iload 5, 2) := by decide +kernel
theorem d_M_give_14 : decode b_M_give 14 = .ok (.ifCond .lt 50, 3) := by decide +kernel
theorem d_M_give_17 : decode b_M_give 17 = .ok (.aload_n 0, 1) := by decide +kernel
theorem d_M_give_18 : decode b_M_give 18 = .ok (.getfield 49, 3) := by decide +kernel
theorem d_M_give_21 : decode b_M_give 21 = .ok (.sipush 128, 3) := by decide +kernel
theorem d_M_give_24 : decode b_M_give 24 = .ok (.iload_n 1, 1) := by decide +kernel
theorem d_M_give_25 : decode b_M_give 25 = .ok (.imul, 1) := by decide +kernel
theorem d_M_give_26 : decode b_M_give 26 = .ok (.bipush 8, 2) := by decide +kernel
theorem d_M_give_28 : decode b_M_give 28 = .ok (.iload 5, 2) := by decide +kernel
theorem d_M_give_30 : decode b_M_give 30 = .ok (.imul, 1) := by decide +kernel
theorem d_M_give_31 : decode b_M_give 31 = .ok (.iadd, 1) := by decide +kernel
theorem d_M_give_32 : decode b_M_give 32 = .ok (.aload_n 0, 1) := by decide +kernel
theorem d_M_give_33 : decode b_M_give 33 = .ok (.getfield 46, 3) := by decide +kernel
theorem d_M_give_36 : decode b_M_give 36 = .ok (.bipush 16, 2) := by decide +kernel
theorem d_M_give_38 : decode b_M_give 38 = .ok (.iload_n 1, 1) := by decide +kernel
theorem d_M_give_39 : decode b_M_give 39 = .ok (.imul, 1) := by decide +kernel
theorem d_M_give_40 : decode b_M_give 40 = .ok (.iload 5, 2) := by decide +kernel
theorem d_M_give_42 : decode b_M_give 42 = .ok (.iadd, 1) := by decide +kernel
theorem d_M_give_43 : decode b_M_give 43 = .ok (.iaload, 1) := by decide +kernel
theorem d_M_give_44 : decode b_M_give 44 = .ok (.iadd, 1) := by decide +kernel
theorem d_M_give_45 : decode b_M_give 45 = .ok (.iload 4, 2) := by decide +kernel
theorem d_M_give_47 : decode b_M_give 47 = .ok (.iastore, 1) := by decide +kernel
theorem d_M_give_48 : decode b_M_give 48 = .ok (.aload_n 0, 1) := by decide +kernel
theorem d_M_give_49 : decode b_M_give 49 = .ok (.getfield 46, 3) := by decide +kernel
theorem d_M_give_52 : decode b_M_give 52 = .ok (.bipush 16, 2) := by decide +kernel
theorem d_M_give_54 : decode b_M_give 54 = .ok (.iload_n 1, 1) := by decide +kernel
theorem d_M_give_55 : decode b_M_give 55 = .ok (.imul, 1) := by decide +kernel
theorem d_M_give_56 : decode b_M_give 56 = .ok (.iload 5, 2) := by decide +kernel
theorem d_M_give_58 : decode b_M_give 58 = .ok (.iadd, 1) := by decide +kernel
theorem d_M_give_59 : decode b_M_give 59 = .ok (.dup2, 1) := by decide +kernel
theorem d_M_give_60 : decode b_M_give 60 = .ok (.iaload, 1) := by decide +kernel
theorem d_M_give_61 : decode b_M_give 61 = .ok (.iconst 1, 1) := by decide +kernel
theorem d_M_give_62 : decode b_M_give 62 = .ok (.iadd, 1) := by decide +kernel
theorem d_M_give_63 : decode b_M_give 63 = .ok (.iastore, 1) := by decide +kernel
theorem d_M_give_64 : decode b_M_give 64 = .ok (.return_, 1) := by decide +kernel
theorem d_M_canAct_0 : decode b_M_canAct 0 = .ok (.bipush 10, 2) := by decide +kernel
theorem d_M_canAct_2 : decode b_M_canAct 2 = .ok (.iload_n 1, 1) := by decide +kernel
theorem d_M_canAct_3 : decode b_M_canAct 3 = .ok (.imul, 1) := by decide +kernel
theorem d_M_canAct_4 : decode b_M_canAct 4 = .ok (.iload_n 2, 1) := by decide +kernel
theorem d_M_canAct_5 : decode b_M_canAct 5 = .ok (.iadd, 1) := by decide +kernel
theorem d_M_canAct_6 : decode b_M_canAct 6 = .ok (.istore_n 3, 1) := by decide +kernel
theorem d_M_canAct_7 : decode b_M_canAct 7 = .ok (.aload_n 0, 1) := by decide +kernel
theorem d_M_canAct_8 : decode b_M_canAct 8 = .ok (.getfield 34, 3) := by decide +kernel
theorem d_M_canAct_11 : decode b_M_canAct 11 = .ok (.iload_n 3, 1) := by decide +kernel
theorem d_M_canAct_12 : decode b_M_canAct 12 = .ok (.iaload, 1) := by decide +kernel
theorem d_M_canAct_13 : decode b_M_canAct 13 = .ok (.bipush 100, 2) := by decide +kernel
theorem d_M_canAct_15 : decode b_M_canAct 15 = .ok (.if_icmp .ne 5, 3) := by decide +kernel
theorem d_M_canAct_18 : decode b_M_canAct 18 = .ok (.iconst 0, 1) := by decide +kernel
theorem d_M_canAct_19 : decode b_M_canAct 19 = .ok (.ireturn, 1) := by decide +kernel
theorem d_M_canAct_20 : decode b_M_canAct 20 = .ok (.aload_n 0, 1) := by decide +kernel
theorem d_M_canAct_21 : decode b_M_canAct 21 = .ok (.getfield 7, 3) := by decide +kernel
theorem d_M_canAct_24 : decode b_M_canAct 24 = .ok (.iload_n 2, 1) := by decide +kernel
theorem d_M_canAct_25 : decode b_M_canAct 25 = .ok (.iaload, 1) := by decide +kernel
theorem d_M_canAct_26 : decode b_M_canAct 26 = .ok (.tableswitch 309 0 7 #[46, 77, 103, 134, 165, 201, 236, 263], 46) := by decide +kernel
theorem d_M_canAct_72 : decode b_M_canAct 72 = .ok (.aload_n 0, 1) := by decide +kernel
theorem d_M_canAct_73 : decode b_M_canAct 73 = .ok (.getfield 34, 3) := by decide +kernel
theorem d_M_canAct_76 : decode b_M_canAct 76 = .ok (.iload_n 3, 1) := by decide +kernel
theorem d_M_canAct_77 : decode b_M_canAct 77 = .ok (.iaload, 1) := by decide +kernel
theorem d_M_canAct_78 : decode b_M_canAct 78 = .ok (.aload_n 0, 1) := by decide +kernel
theorem d_M_canAct_79 : decode b_M_canAct 79 = .ok (.getfield 19, 3) := by decide +kernel
theorem d_M_canAct_82 : decode b_M_canAct 82 = .ok (.iload_n 2, 1) := by decide +kernel
theorem d_M_canAct_83 : decode b_M_canAct 83 = .ok (.iaload, 1) := by decide +kernel
theorem d_M_canAct_84 : decode b_M_canAct 84 = .ok (.if_icmp .ge 17, 3) := by decide +kernel
theorem d_M_canAct_87 : decode b_M_canAct 87 = .ok (.aload_n 0, 1) := by decide +kernel
theorem d_M_canAct_88 : decode b_M_canAct 88 = .ok (.iload_n 1, 1) := by decide +kernel
theorem d_M_canAct_89 : decode b_M_canAct 89 = .ok (.iload_n 2, 1) := by decide +kernel
theorem d_M_canAct_90 : decode b_M_canAct 90 = .ok (.iconst 0, 1) := by decide +kernel
theorem d_M_canAct_91 : decode b_M_canAct 91 = .ok (.invokevirtual 70, 3) := by decide +kernel
theorem d_M_canAct_94 : decode b_M_canAct 94 = .ok (.ifCond .eq 7, 3) := by decide +kernel
theorem d_M_canAct_97 : decode b_M_canAct 97 = .ok (.iconst 1, 1) := by decide +kernel
theorem d_M_canAct_98 : decode b_M_canAct 98 = .ok (.goto 4, 3) := by decide +kernel
theorem d_M_canAct_101 : decode b_M_canAct 101 = .ok (.iconst 0, 1) := by decide +kernel
theorem d_M_canAct_102 : decode b_M_canAct 102 = .ok (.ireturn, 1) := by decide +kernel
theorem d_M_canAct_103 : decode b_M_canAct 103 = .ok (.aload_n 0, 1) := by decide +kernel
theorem d_M_canAct_104 : decode b_M_canAct 104 = .ok (.iload_n 1, 1) := by decide +kernel
theorem d_M_canAct_105 : decode b_M_canAct 105 = .ok (.iload_n 2, 1) := by decide +kernel
theorem d_M_canAct_106 : decode b_M_canAct 106 = .ok (.iconst 0, 1) := by decide +kernel
theorem d_M_canAct_107 : decode b_M_canAct 107 = .ok (.invokevirtual 74, 3) := by decide +kernel
theorem d_M_canAct_110 : decode b_M_canAct 110 = .ok (.ifCond .eq 17, 3) := by decide +kernel
theorem d_M_canAct_113 : decode b_M_canAct 113 = .ok (.aload_n 0, 1) := by decide +kernel
theorem d_M_canAct_114 : decode b_M_canAct 114 = .ok (.iload_n 1, 1) := by decide +kernel
theorem d_M_canAct_115 : decode b_M_canAct 115 = .ok (.iload_n 2, 1) := by decide +kernel
theorem d_M_canAct_116 : decode b_M_canAct 116 = .ok (.iconst 0, 1) := by decide +kernel
theorem d_M_canAct_117 : decode b_M_canAct 117 = .ok (.invokevirtual 70, 3) := by decide +kernel
theorem d_M_canAct_120 : decode b_M_canAct 120 = .ok (.ifCond .eq 7, 3) := by decide +kernel
theorem d_M_canAct_123 : decode b_M_canAct 123 = .ok (.iconst 1, 1) := by decide +kernel
theorem d_M_canAct_124 : decode b_M_canAct 124 = .ok (.goto 4, 3) := by decide +kernel
theorem d_M_canAct_127 : decode b_M_canAct 127 = .ok (.iconst 0, 1) := by decide +kernel
theorem d_M_canAct_128 : decode b_M_canAct 128 = .ok (.ireturn, 1) := by decide +kernel
theorem d_M_canAct_129 : decode b_M_canAct 129 = .ok (.aload_n 0, 1) := by decide +kernel
theorem d_M_canAct_130 : decode b_M_canAct 130 = .ok (.iload_n 1, 1) := by decide +kernel
theorem d_M_canAct_131 : decode b_M_canAct 131 = .ok (.iload_n 2, 1) := by decide +kernel
theorem d_M_canAct_132 : decode b_M_canAct 132 = .ok (.iconst 0, 1) := by decide +kernel
theorem d_M_canAct_133 : decode b_M_canAct 133 = .ok (.invokevirtual 74, 3) := by decide +kernel
theorem d_M_canAct_136 : decode b_M_canAct 136 = .ok (.ifCond .eq 22, 3) := by decide +kernel
theorem d_M_canAct_139 : decode b_M_canAct 139 = .ok (.aload_n 0, 1) := by decide +kernel
theorem d_M_canAct_140 : decode b_M_canAct 140 = .ok (.iload_n 1, 1) := by decide +kernel
theorem d_M_canAct_141 : decode b_M_canAct 141 = .ok (.iload_n 2, 1) := by decide +kernel
theorem d_M_canAct_142 : decode b_M_canAct 142 = .ok (.aload_n 0, 1) := by decide +kernel
theorem d_M_canAct_143 : decode b_M_canAct 143 = .ok (.getfield 37, 3) := by decide +kernel
theorem d_M_canAct_146 : decode b_M_canAct 146 = .ok (.iload_n 3, 1) := by decide +kernel
theorem d_M_canAct_147 : decode b_M_canAct 147 = .ok (.iaload, 1) := by decide +kernel
theorem d_M_canAct_148 : decode b_M_canAct 148 = .ok (.invokevirtual 70, 3) := by decide +kernel
theorem d_M_canAct_151 : decode b_M_canAct 151 = .ok (.ifCond .eq 7, 3) := by decide +kernel
theorem d_M_canAct_154 : decode b_M_canAct 154 = .ok (.iconst 1, 1) := by decide +kernel
theorem d_M_canAct_155 : decode b_M_canAct 155 = .ok (.goto 4, 3) := by decide +kernel
theorem d_M_canAct_158 : decode b_M_canAct 158 = .ok (.iconst 0, 1) := by decide +kernel
theorem d_M_canAct_159 : decode b_M_canAct 159 = .ok (.ireturn, 1) := by decide +kernel
theorem d_M_canAct_160 : decode b_M_canAct 160 = .ok (.aload_n 0, 1) := by decide +kernel
theorem d_M_canAct_161 : decode b_M_canAct 161 = .ok (.iload_n 1, 1) := by decide +kernel
theorem d_M_canAct_162 : decode b_M_canAct 162 = .ok (.iload_n 2, 1) := by decide +kernel
theorem d_M_canAct_163 : decode b_M_canAct 163 = .ok (.aload_n 0, 1) := by decide +kernel
theorem d_M_canAct_164 : decode b_M_canAct 164 = .ok (.getfield 37, 3) := by decide +kernel
theorem d_M_canAct_167 : decode b_M_canAct 167 = .ok (.iload_n 3, 1) := by decide +kernel
theorem d_M_canAct_168 : decode b_M_canAct 168 = .ok (.iaload, 1) := by decide +kernel
theorem d_M_canAct_169 : decode b_M_canAct 169 = .ok (.invokevirtual 74, 3) := by decide +kernel
theorem d_M_canAct_172 : decode b_M_canAct 172 = .ok (.ifCond .eq 17, 3) := by decide +kernel
theorem d_M_canAct_175 : decode b_M_canAct 175 = .ok (.aload_n 0, 1) := by decide +kernel
theorem d_M_canAct_176 : decode b_M_canAct 176 = .ok (.iload_n 1, 1) := by decide +kernel
theorem d_M_canAct_177 : decode b_M_canAct 177 = .ok (.iload_n 2, 1) := by decide +kernel
theorem d_M_canAct_178 : decode b_M_canAct 178 = .ok (.iconst 0, 1) := by decide +kernel
theorem d_M_canAct_179 : decode b_M_canAct 179 = .ok (.invokevirtual 70, 3) := by decide +kernel
theorem d_M_canAct_182 : decode b_M_canAct 182 = .ok (.ifCond .eq 7, 3) := by decide +kernel
theorem d_M_canAct_185 : decode b_M_canAct 185 = .ok (.iconst 1, 1) := by decide +kernel
theorem d_M_canAct_186 : decode b_M_canAct 186 = .ok (.goto 4, 3) := by decide +kernel
theorem d_M_canAct_189 : decode b_M_canAct 189 = .ok (.iconst 0, 1) := by decide +kernel
theorem d_M_canAct_190 : decode b_M_canAct 190 = .ok (.ireturn, 1) := by decide +kernel
theorem d_M_canAct_191 : decode b_M_canAct 191 = .ok (.aload_n 0, 1) := by decide +kernel
theorem d_M_canAct_192 : decode b_M_canAct 192 = .ok (.iload_n 1, 1) := by decide +kernel
theorem d_M_canAct_193 : decode b_M_canAct 193 = .ok (.iload_n 2, 1) := by decide +kernel
theorem d_M_canAct_194 : decode b_M_canAct 194 = .ok (.iconst 0, 1) := by decide +kernel
theorem d_M_canAct_195 : decode b_M_canAct 195 = .ok (.invokevirtual 74, 3) := by decide +kernel
theorem d_M_canAct_198 : decode b_M_canAct 198 = .ok (.ifCond .eq 27, 3) := by decide +kernel
theorem d_M_canAct_201 : decode b_M_canAct 201 = .ok (.aload_n 0, 1) := by decide +kernel
theorem d_M_canAct_202 : decode b_M_canAct 202 = .ok (.iload_n 1, 1) := by decide +kernel
theorem d_M_canAct_203 : decode b_M_canAct 203 = .ok (.iload_n 2, 1) := by decide +kernel
theorem d_M_canAct_204 : decode b_M_canAct 204 = .ok (.iconst 1, 1) := by decide +kernel
theorem d_M_canAct_205 : decode b_M_canAct 205 = .ok (.invokevirtual 74, 3) := by decide +kernel
theorem d_M_canAct_208 : decode b_M_canAct 208 = .ok (.ifCond .eq 17, 3) := by decide +kernel
theorem d_M_canAct_211 : decode b_M_canAct 211 = .ok (.aload_n 0, 1) := by decide +kernel
theorem d_M_canAct_212 : decode b_M_canAct 212 = .ok (.iload_n 1, 1) := by decide +kernel
theorem d_M_canAct_213 : decode b_M_canAct 213 = .ok (.iload_n 2, 1) := by decide +kernel
theorem d_M_canAct_214 : decode b_M_canAct 214 = .ok (.iconst 0, 1) := by decide +kernel
theorem d_M_canAct_215 : decode b_M_canAct 215 = .ok (.invokevirtual 70, 3) := by decide +kernel
theorem d_M_canAct_218 : decode b_M_canAct 218 = .ok (.ifCond .eq 7, 3) := by decide +kernel
theorem d_M_canAct_221 : decode b_M_canAct 221 = .ok (.iconst 1, 1) := by decide +kernel
theorem d_M_canAct_222 : decode b_M_canAct 222 = .ok (.goto 4, 3) := by decide +kernel
theorem d_M_canAct_225 : decode b_M_canAct 225 = .ok (.iconst 0, 1) := by decide +kernel
theorem d_M_canAct_226 : decode b_M_canAct 226 = .ok (.ireturn, 1) := by decide +kernel
theorem d_M_canAct_227 : decode b_M_canAct 227 = .ok (.aload_n 0, 1) := by decide +kernel
theorem d_M_canAct_228 : decode b_M_canAct 228 = .ok (.getfield 34, 3) := by decide +kernel
theorem d_M_canAct_231 : decode b_M_canAct 231 = .ok (.iload_n 3, 1) := by decide +kernel
theorem d_M_canAct_232 : decode b_M_canAct 232 = .ok (.iaload, 1) := by decide +kernel
theorem d_M_canAct_233 : decode b_M_canAct 233 = .ok (.ifCond .eq 13, 3) := by decide +kernel
theorem d_M_canAct_236 : decode b_M_canAct 236 = .ok (.aload_n 0, 1) := by decide +kernel
theorem d_M_canAct_237 : decode b_M_canAct 237 = .ok (.iload_n 1, 1) := by decide +kernel
theorem d_M_canAct_238 : decode b_M_canAct 238 = .ok (.iload_n 2, 1) := by decide +kernel
theorem d_M_canAct_239 : decode b_M_canAct 239 = .ok (.iconst 0, 1) := by decide +kernel
theorem d_M_canAct_240 : decode b_M_canAct 240 = .ok (.invokevirtual 74, 3) := by decide +kernel
theorem d_M_canAct_243 : decode b_M_canAct 243 = .ok (.ifCond .eq 17, 3) := by decide +kernel
theorem d_M_canAct_246 : decode b_M_canAct 246 = .ok (.aload_n 0, 1) := by decide +kernel
theorem d_M_canAct_247 : decode b_M_canAct 247 = .ok (.iload_n 1, 1) := by decide +kernel
theorem d_M_canAct_248 : decode b_M_canAct 248 = .ok (.iload_n 2, 1) := by decide +kernel
theorem d_M_canAct_249 : decode b_M_canAct 249 = .ok (.iconst 0, 1) := by decide +kernel
theorem d_M_canAct_250 : decode b_M_canAct 250 = .ok (.invokevirtual 70, 3) := by decide +kernel
theorem d_M_canAct_253 : decode b_M_canAct 253 = .ok (.ifCond .eq 7, 3) := by decide +kernel
theorem d_M_canAct_256 : decode b_M_canAct 256 = .ok (.iconst 1, 1) := by decide +kernel
theorem d_M_canAct_257 : decode b_M_canAct 257 = .ok (.goto 4, 3) := by decide +kernel
theorem d_M_canAct_260 : decode b_M_canAct 260 = .ok (.iconst 0, 1) := by decide +kernel
theorem d_M_canAct_261 : decode b_M_canAct 261 = .ok (.ireturn, 1) := by decide +kernel
theorem d_M_canAct_262 : decode b_M_canAct 262 = .ok (.aload_n 0, 1) := by decide +kernel
theorem d_M_canAct_263 : decode b_M_canAct 263 = .ok (.iload_n 1, 1) := by decide +kernel
theorem d_M_canAct_264 : decode b_M_canAct 264 = .ok (.iload_n 2, 1) := by decide +kernel
theorem d_M_canAct_265 : decode b_M_canAct 265 = .ok (.iconst 0, 1) := by decide +kernel
theorem d_M_canAct_266 : decode b_M_canAct 266 = .ok (.invokevirtual 74, 3) := by decide +kernel
theorem d_M_canAct_269 : decode b_M_canAct 269 = .ok (.ifCond .eq 18, 3) := by decide +kernel
theorem d_M_canAct_272 : decode b_M_canAct 272 = .ok (.aload_n 0, 1) := by decide +kernel
theorem d_M_canAct_273 : decode b_M_canAct 273 = .ok (.getfield 40, 3) := by decide +kernel
theorem d_M_canAct_276 : decode b_M_canAct 276 = .ok (.iload_n 3, 1) := by decide +kernel
theorem d_M_canAct_277 : decode b_M_canAct 277 = .ok (.iaload, 1) := by decide +kernel
theorem d_M_canAct_278 : decode b_M_canAct 278 = .ok (.bipush 60, 2) := by decide +kernel
theorem d_M_canAct_280 : decode b_M_canAct 280 = .ok (.if_icmp .ge 7, 3) := by decide +kernel
theorem d_M_canAct_283 : decode b_M_canAct 283 = .ok (.iconst 1, 1) := by decide +kernel
theorem d_M_canAct_284 : decode b_M_canAct 284 = .ok (.goto 4, 3) := by decide +kernel
theorem d_M_canAct_287 : decode b_M_canAct 287 = .ok (.iconst 0, 1) := by decide +kernel
theorem d_M_canAct_288 : decode b_M_canAct 288 = .ok (.ireturn, 1) := by decide +kernel
theorem d_M_canAct_289 : decode b_M_canAct 289 = .ok (.aload_n 0, 1) := by decide +kernel
theorem d_M_canAct_290 : decode b_M_canAct 290 = .ok (.iload_n 1, 1) := by decide +kernel
theorem d_M_canAct_291 : decode b_M_canAct 291 = .ok (.iload_n 2, 1) := by decide +kernel
theorem d_M_canAct_292 : decode b_M_canAct 292 = .ok (.iconst 0, 1) := by decide +kernel
theorem d_M_canAct_293 : decode b_M_canAct 293 = .ok (.invokevirtual 74, 3) := by decide +kernel
theorem d_M_canAct_296 : decode b_M_canAct 296 = .ok (.ifCond .eq 37, 3) := by decide +kernel
theorem d_M_canAct_299 : decode b_M_canAct 299 = .ok (.aload_n 0, 1) := by decide +kernel
theorem d_M_canAct_300 : decode b_M_canAct 300 = .ok (.iload_n 1, 1) := by decide +kernel
theorem d_M_canAct_301 : decode b_M_canAct 301 = .ok (.iload_n 2, 1) := by decide +kernel
theorem d_M_canAct_302 : decode b_M_canAct 302 = .ok (.iconst 1, 1) := by decide +kernel
theorem d_M_canAct_303 : decode b_M_canAct 303 = .ok (.invokevirtual 74, 3) := by decide +kernel
theorem d_M_canAct_306 : decode b_M_canAct 306 = .ok (.ifCond .eq 27, 3) := by decide +kernel
theorem d_M_canAct_309 : decode b_M_canAct 309 = .ok (.aload_n 0, 1) := by decide +kernel
theorem d_M_canAct_310 : decode b_M_canAct 310 = .ok (.iload_n 1, 1) := by decide +kernel
theorem d_M_canAct_311 : decode b_M_canAct 311 = .ok (.iload_n 2, 1) := by decide +kernel
theorem d_M_canAct_312 : decode b_M_canAct 312 = .ok (.iconst 0, 1) := by decide +kernel
theorem d_M_canAct_313 : decode b_M_canAct 313 = .ok (.invokevirtual 77, 3) := by decide +kernel
theorem d_M_canAct_316 : decode b_M_canAct 316 = .ok (.ifCond .eq 13, 3) := by decide +kernel
theorem d_M_canAct_319 : decode b_M_canAct 319 = .ok (.aload_n 0, 1) := by decide +kernel
theorem d_M_canAct_320 : decode b_M_canAct 320 = .ok (.iload_n 1, 1) := by decide +kernel
theorem d_M_canAct_321 : decode b_M_canAct 321 = .ok (.iload_n 2, 1) := by decide +kernel
theorem d_M_canAct_322 : decode b_M_canAct 322 = .ok (.iconst 0, 1) := by decide +kernel
theorem d_M_canAct_323 : decode b_M_canAct 323 = .ok (.invokevirtual 70, 3) := by decide +kernel
theorem d_M_canAct_326 : decode b_M_canAct 326 = .ok (.ifCond .eq 7, 3) := by decide +kernel
theorem d_M_canAct_329 : decode b_M_canAct 329 = .ok (.iconst 1, 1) := by decide +kernel
theorem d_M_canAct_330 : decode b_M_canAct 330 = .ok (.goto 4, 3) := by decide +kernel
theorem d_M_canAct_333 : decode b_M_canAct 333 = .ok (.iconst 0, 1) := by decide +kernel
theorem d_M_canAct_334 : decode b_M_canAct 334 = .ok (.ireturn, 1) := by decide +kernel
theorem d_M_canAct_335 : decode b_M_canAct 335 = .ok (.aload_n 0, 1) := by decide +kernel
theorem d_M_canAct_336 : decode b_M_canAct 336 = .ok (.iload_n 1, 1) := by decide +kernel
theorem d_M_canAct_337 : decode b_M_canAct 337 = .ok (.iload_n 2, 1) := by decide +kernel
theorem d_M_canAct_338 : decode b_M_canAct 338 = .ok (.iconst 0, 1) := by decide +kernel
theorem d_M_canAct_339 : decode b_M_canAct 339 = .ok (.invokevirtual 74, 3) := by decide +kernel
theorem d_M_canAct_342 : decode b_M_canAct 342 = .ok (.ifCond .eq 27, 3) := by decide +kernel
theorem d_M_canAct_345 : decode b_M_canAct 345 = .ok (.aload_n 0, 1) := by decide +kernel
theorem d_M_canAct_346 : decode b_M_canAct 346 = .ok (.iload_n 1, 1) := by decide +kernel
theorem d_M_canAct_347 : decode b_M_canAct 347 = .ok (.iload_n 2, 1) := by decide +kernel
theorem d_M_canAct_348 : decode b_M_canAct 348 = .ok (.iconst 0, 1) := by decide +kernel
theorem d_M_canAct_349 : decode b_M_canAct 349 = .ok (.invokevirtual 70, 3) := by decide +kernel
theorem d_M_canAct_352 : decode b_M_canAct 352 = .ok (.ifCond .eq 17, 3) := by decide +kernel
theorem d_M_canAct_355 : decode b_M_canAct 355 = .ok (.aload_n 0, 1) := by decide +kernel
theorem d_M_canAct_356 : decode b_M_canAct 356 = .ok (.iload_n 1, 1) := by decide +kernel
theorem d_M_canAct_357 : decode b_M_canAct 357 = .ok (.iload_n 2, 1) := by decide +kernel
theorem d_M_canAct_358 : decode b_M_canAct 358 = .ok (.iconst 1, 1) := by decide +kernel
theorem d_M_canAct_359 : decode b_M_canAct 359 = .ok (.invokevirtual 70, 3) := by decide +kernel
theorem d_M_canAct_362 : decode b_M_canAct 362 = .ok (.ifCond .eq 7, 3) := by decide +kernel
theorem d_M_canAct_365 : decode b_M_canAct 365 = .ok (.iconst 1, 1) := by decide +kernel
theorem d_M_canAct_366 : decode b_M_canAct 366 = .ok (.goto 4, 3) := by decide +kernel
theorem d_M_canAct_369 : decode b_M_canAct 369 = .ok (.iconst 0, 1) := by decide +kernel
theorem d_M_canAct_370 : decode b_M_canAct 370 = .ok (.ireturn, 1) := by decide +kernel
theorem d_M_doAct_0 : decode b_M_doAct 0 = .ok (.bipush 10, 2) := by decide +kernel
theorem d_M_doAct_2 : decode b_M_doAct 2 = .ok (.iload_n 1, 1) := by decide +kernel
theorem d_M_doAct_3 : decode b_M_doAct 3 = .ok (.imul, 1) := by decide +kernel
theorem d_M_doAct_4 : decode b_M_doAct 4 = .ok (.iload_n 2, 1) := by decide +kernel
theorem d_M_doAct_5 : decode b_M_doAct 5 = .ok (.iadd, 1) := by decide +kernel
theorem d_M_doAct_6 : decode b_M_doAct 6 = .ok (.istore_n 3, 1) := by decide +kernel
theorem d_M_doAct_7 : decode b_M_doAct 7 = .ok (.aload_n 0, 1) := by decide +kernel
theorem d_M_doAct_8 : decode b_M_doAct 8 = .ok (.getfield 7, 3) := by decide +kernel
theorem d_M_doAct_11 : decode b_M_doAct 11 = .ok (.iload_n 2, 1) := by decide +kernel
theorem d_M_doAct_12 : decode b_M_doAct 12 = .ok (.iaload, 1) := by decide +kernel
theorem d_M_doAct_13 : decode b_M_doAct 13 = .ok (.tableswitch 313 0 7 #[47, 73, 104, 140, 176, 201, 236, 278], 47) := by decide +kernel
theorem d_M_doAct_60 : decode b_M_doAct 60 = .ok (.aload_n 0, 1) := by decide +kernel
theorem d_M_doAct_61 : decode b_M_doAct 61 = .ok (.iload_n 1, 1) := by decide +kernel
theorem d_M_doAct_62 : decode b_M_doAct 62 = .ok (.iload_n 2, 1) := by decide +kernel
theorem d_M_doAct_63 : decode b_M_doAct 63 = .ok (.iconst 0, 1) := by decide +kernel
theorem d_M_doAct_64 : decode b_M_doAct 64 = .ok (.aload_n 0, 1) := by decide +kernel
theorem d_M_doAct_65 : decode b_M_doAct 65 = .ok (.getfield 22, 3) := by decide +kernel
theorem d_M_doAct_68 : decode b_M_doAct 68 = .ok (.bipush 20, 2) := by decide +kernel
theorem d_M_doAct_70 : decode b_M_doAct 70 = .ok (.iload_n 2, 1) := by decide +kernel
theorem d_M_doAct_71 : decode b_M_doAct 71 = .ok (.imul, 1) := by decide +kernel
theorem d_M_doAct_72 : decode b_M_doAct 72 = .ok (.aload_n 0, 1) := by decide +kernel
theorem d_M_doAct_73 : decode b_M_doAct 73 = .ok (.getfield 34, 3) := by decide +kernel
theorem d_M_doAct_76 : decode b_M_doAct 76 = .ok (.iload_n 3, 1) := by decide +kernel
theorem d_M_doAct_77 : decode b_M_doAct 77 = .ok (.iaload, 1) := by decide +kernel
theorem d_M_doAct_78 : decode b_M_doAct 78 = .ok (.iadd, 1) := by decide +kernel
theorem d_M_doAct_79 : decode b_M_doAct 79 = .ok (.iaload, 1) := by decide +kernel
theorem d_M_doAct_80 : decode b_M_doAct 80 = .ok (.invokevirtual 81, 3) := by decide +kernel
theorem d_M_doAct_83 : decode b_M_doAct 83 = .ok (.goto 270, 3) := by decide +kernel
theorem d_M_doAct_86 : decode b_M_doAct 86 = .ok (.aload_n 0, 1) := by decide +kernel
theorem d_M_doAct_87 : decode b_M_doAct 87 = .ok (.iload_n 1, 1) := by decide +kernel
theorem d_M_doAct_88 : decode b_M_doAct 88 = .ok (.iload_n 2, 1) := by decide +kernel
theorem d_M_doAct_89 : decode b_M_doAct 89 = .ok (.iconst 0, 1) := by decide +kernel
theorem d_M_doAct_90 : decode b_M_doAct 90 = .ok (.aload_n 0, 1) := by decide +kernel
theorem d_M_doAct_91 : decode b_M_doAct 91 = .ok (.iload_n 1, 1) := by decide +kernel
theorem d_M_doAct_92 : decode b_M_doAct 92 = .ok (.iload_n 2, 1) := by decide +kernel
theorem d_M_doAct_93 : decode b_M_doAct 93 = .ok (.iconst 0, 1) := by decide +kernel
theorem d_M_doAct_94 : decode b_M_doAct 94 = .ok (.invokevirtual 85, 3) := by decide +kernel
theorem d_M_doAct_97 : decode b_M_doAct 97 = .ok (.aload_n 0, 1) := by decide +kernel
theorem d_M_doAct_98 : decode b_M_doAct 98 = .ok (.getfield 13, 3) := by decide +kernel
theorem d_M_doAct_101 : decode b_M_doAct 101 = .ok (.iload_n 2, 1) := by decide +kernel
theorem d_M_doAct_102 : decode b_M_doAct 102 = .ok (.iaload, 1) := by decide +kernel
theorem d_M_doAct_103 : decode b_M_doAct 103 = .ok (.imul, 1) := by decide +kernel
theorem d_M_doAct_104 : decode b_M_doAct 104 = .ok (.aload_n 0, 1) := by decide +kernel
theorem d_M_doAct_105 : decode b_M_doAct 105 = .ok (.getfield 16, 3) := by decide +kernel
theorem d_M_doAct_108 : decode b_M_doAct 108 = .ok (.iload_n 2, 1) := by decide +kernel
theorem d_M_doAct_109 : decode b_M_doAct 109 = .ok (.iaload, 1) := by decide +kernel
theorem d_M_doAct_110 : decode b_M_doAct 110 = .ok (.iadd, 1) := by decide +kernel
theorem d_M_doAct_111 : decode b_M_doAct 111 = .ok (.invokevirtual 81, 3) := by decide +kernel
theorem d_M_doAct_114 : decode b_M_doAct 114 = .ok (.goto 239, 3) := by decide +kernel
theorem d_M_doAct_117 : decode b_M_doAct 117 = .ok (.aload_n 0, 1) := by decide +kernel
theorem d_M_doAct_118 : decode b_M_doAct 118 = .ok (.iload_n 1, 1) := by decide +kernel
theorem d_M_doAct_119 : decode b_M_doAct 119 = .ok (.iload_n 2, 1) := by decide +kernel
theorem d_M_doAct_120 : decode b_M_doAct 120 = .ok (.aload_n 0, 1) := by decide +kernel
theorem d_M_doAct_121 : decode b_M_doAct 121 = .ok (.getfield 37, 3) := by decide +kernel
theorem d_M_doAct_124 : decode b_M_doAct 124 = .ok (.iload_n 3, 1) := by decide +kernel
theorem d_M_doAct_125 : decode b_M_doAct 125 = .ok (.iaload, 1) := by decide +kernel
theorem d_M_doAct_126 : decode b_M_doAct 126 = .ok (.aload_n 0, 1) := by decide +kernel
theorem d_M_doAct_127 : decode b_M_doAct 127 = .ok (.iload_n 1, 1) := by decide +kernel
theorem d_M_doAct_128 : decode b_M_doAct 128 = .ok (.iload_n 2, 1) := by decide +kernel
theorem d_M_doAct_129 : decode b_M_doAct 129 = .ok (.iconst 0, 1) := by decide +kernel
theorem d_M_doAct_130 : decode b_M_doAct 130 = .ok (.invokevirtual 85, 3) := by decide +kernel
theorem d_M_doAct_133 : decode b_M_doAct 133 = .ok (.invokevirtual 81, 3) := by decide +kernel
theorem d_M_doAct_136 : decode b_M_doAct 136 = .ok (.aload_n 0, 1) := by decide +kernel
theorem d_M_doAct_137 : decode b_M_doAct 137 = .ok (.getfield 37, 3) := by decide +kernel
theorem d_M_doAct_140 : decode b_M_doAct 140 = .ok (.iload_n 3, 1) := by decide +kernel
theorem d_M_doAct_141 : decode b_M_doAct 141 = .ok (.iconst 1, 1) := by decide +kernel
theorem d_M_doAct_142 : decode b_M_doAct 142 = .ok (.aload_n 0, 1) := by decide +kernel
theorem d_M_doAct_143 : decode b_M_doAct 143 = .ok (.getfield 37, 3) := by decide +kernel
theorem d_M_doAct_146 : decode b_M_doAct 146 = .ok (.iload_n 3, 1) := by decide +kernel
theorem d_M_doAct_147 : decode b_M_doAct 147 = .ok (.iaload, 1) := by decide +kernel
theorem d_M_doAct_148 : decode b_M_doAct 148 = .ok (.isub, 1) := by decide +kernel
theorem d_M_doAct_149 : decode b_M_doAct 149 = .ok (.iastore, 1) := by decide +kernel
theorem d_M_doAct_150 : decode b_M_doAct 150 = .ok (.goto 203, 3) := by decide +kernel
theorem d_M_doAct_153 : decode b_M_doAct 153 = .ok (.aload_n 0, 1) := by decide +kernel
theorem d_M_doAct_154 : decode b_M_doAct 154 = .ok (.iload_n 1, 1) := by decide +kernel
theorem d_M_doAct_155 : decode b_M_doAct 155 = .ok (.iload_n 2, 1) := by decide +kernel
theorem d_M_doAct_156 : decode b_M_doAct 156 = .ok (.iconst 0, 1) := by decide +kernel
theorem d_M_doAct_157 : decode b_M_doAct 157 = .ok (.aload_n 0, 1) := by decide +kernel
theorem d_M_doAct_158 : decode b_M_doAct 158 = .ok (.iload_n 1, 1) := by decide +kernel
theorem d_M_doAct_159 : decode b_M_doAct 159 = .ok (.iload_n 2, 1) := by decide +kernel
theorem d_M_doAct_160 : decode b_M_doAct 160 = .ok (.aload_n 0, 1) := by decide +kernel
theorem d_M_doAct_161 : decode b_M_doAct 161 = .ok (.getfield 37, 3) := by decide +kernel
theorem d_M_doAct_164 : decode b_M_doAct 164 = .ok (.iload_n 3, 1) := by decide +kernel
theorem d_M_doAct_165 : decode b_M_doAct 165 = .ok (.iaload, 1) := by decide +kernel
theorem d_M_doAct_166 : decode b_M_doAct 166 = .ok (.invokevirtual 85, 3) := by decide +kernel
theorem d_M_doAct_169 : decode b_M_doAct 169 = .ok (.invokevirtual 81, 3) := by decide +kernel
theorem d_M_doAct_172 : decode b_M_doAct 172 = .ok (.aload_n 0, 1) := by decide +kernel
theorem d_M_doAct_173 : decode b_M_doAct 173 = .ok (.getfield 37, 3) := by decide +kernel
theorem d_M_doAct_176 : decode b_M_doAct 176 = .ok (.iload_n 3, 1) := by decide +kernel
theorem d_M_doAct_177 : decode b_M_doAct 177 = .ok (.iconst 1, 1) := by decide +kernel
theorem d_M_doAct_178 : decode b_M_doAct 178 = .ok (.aload_n 0, 1) := by decide +kernel
theorem d_M_doAct_179 : decode b_M_doAct 179 = .ok (.getfield 37, 3) := by decide +kernel
theorem d_M_doAct_182 : decode b_M_doAct 182 = .ok (.iload_n 3, 1) := by decide +kernel
theorem d_M_doAct_183 : decode b_M_doAct 183 = .ok (.iaload, 1) := by decide +kernel
theorem d_M_doAct_184 : decode b_M_doAct 184 = .ok (.isub, 1) := by decide +kernel
theorem d_M_doAct_185 : decode b_M_doAct 185 = .ok (.iastore, 1) := by decide +kernel
theorem d_M_doAct_186 : decode b_M_doAct 186 = .ok (.goto 167, 3) := by decide +kernel
theorem d_M_doAct_189 : decode b_M_doAct 189 = .ok (.aload_n 0, 1) := by decide +kernel
theorem d_M_doAct_190 : decode b_M_doAct 190 = .ok (.iload_n 1, 1) := by decide +kernel
theorem d_M_doAct_191 : decode b_M_doAct 191 = .ok (.iload_n 2, 1) := by decide +kernel
theorem d_M_doAct_192 : decode b_M_doAct 192 = .ok (.iconst 0, 1) := by decide +kernel
theorem d_M_doAct_193 : decode b_M_doAct 193 = .ok (.aload_n 0, 1) := by decide +kernel
theorem d_M_doAct_194 : decode b_M_doAct 194 = .ok (.iload_n 1, 1) := by decide +kernel
theorem d_M_doAct_195 : decode b_M_doAct 195 = .ok (.iload_n 2, 1) := by decide +kernel
theorem d_M_doAct_196 : decode b_M_doAct 196 = .ok (.iconst 0, 1) := by decide +kernel
theorem d_M_doAct_197 : decode b_M_doAct 197 = .ok (.invokevirtual 85, 3) := by decide +kernel
theorem d_M_doAct_200 : decode b_M_doAct 200 = .ok (.aload_n 0, 1) := by decide +kernel
theorem d_M_doAct_201 : decode b_M_doAct 201 = .ok (.iload_n 1, 1) := by decide +kernel
theorem d_M_doAct_202 : decode b_M_doAct 202 = .ok (.iload_n 2, 1) := by decide +kernel
theorem d_M_doAct_203 : decode b_M_doAct 203 = .ok (.iconst 1, 1) := by decide +kernel
theorem d_M_doAct_204 : decode b_M_doAct 204 = .ok (.invokevirtual 85, 3) := by decide +kernel
theorem d_M_doAct_207 : decode b_M_doAct 207 = .ok (.iadd, 1) := by decide +kernel
theorem d_M_doAct_208 : decode b_M_doAct 208 = .ok (.invokevirtual 81, 3) := by decide +kernel
theorem d_M_doAct_211 : decode b_M_doAct 211 = .ok (.goto 142, 3) := by decide +kernel
theorem d_M_doAct_214 : decode b_M_doAct 214 = .ok (.aload_n 0, 1) := by decide +kernel
theorem d_M_doAct_215 : decode b_M_doAct 215 = .ok (.iload_n 1, 1) := by decide +kernel
theorem d_M_doAct_216 : decode b_M_doAct 216 = .ok (.iload_n 2, 1) := by decide +kernel
theorem d_M_doAct_217 : decode b_M_doAct 217 = .ok (.iconst 0, 1) := by decide +kernel
theorem d_M_doAct_218 : decode b_M_doAct 218 = .ok (.aload_n 0, 1) := by decide +kernel
theorem d_M_doAct_219 : decode b_M_doAct 219 = .ok (.getfield 34, 3) := by decide +kernel
theorem d_M_doAct_222 : decode b_M_doAct 222 = .ok (.iload_n 3, 1) := by decide +kernel
theorem d_M_doAct_223 : decode b_M_doAct 223 = .ok (.iaload, 1) := by decide +kernel
theorem d_M_doAct_224 : decode b_M_doAct 224 = .ok (.ifCond .ne 12, 3) := by decide +kernel
theorem d_M_doAct_227 : decode b_M_doAct 227 = .ok (.aload_n 0, 1) := by decide +kernel
theorem d_M_doAct_228 : decode b_M_doAct 228 = .ok (.getfield 13, 3) := by decide +kernel
theorem d_M_doAct_231 : decode b_M_doAct 231 = .ok (.iload_n 2, 1) := by decide +kernel
theorem d_M_doAct_232 : decode b_M_doAct 232 = .ok (.iaload, 1) := by decide +kernel
theorem d_M_doAct_233 : decode b_M_doAct 233 = .ok (.goto 10, 3) := by decide +kernel
theorem d_M_doAct_236 : decode b_M_doAct 236 = .ok (.aload_n 0, 1) := by decide +kernel
theorem d_M_doAct_237 : decode b_M_doAct 237 = .ok (.iload_n 1, 1) := by decide +kernel
theorem d_M_doAct_238 : decode b_M_doAct 238 = .ok (.iload_n 2, 1) := by decide +kernel
theorem d_M_doAct_239 : decode b_M_doAct 239 = .ok (.iconst 0, 1) := by decide +kernel
theorem d_M_doAct_240 : decode b_M_doAct 240 = .ok (.invokevirtual 85, 3) := by decide +kernel
theorem d_M_doAct_243 : decode b_M_doAct 243 = .ok (.invokevirtual 81, 3) := by decide +kernel
theorem d_M_doAct_246 : decode b_M_doAct 246 = .ok (.goto 107, 3) := by decide +kernel
theorem d_M_doAct_249 : decode b_M_doAct 249 = .ok (.aload_n 0, 1) := by decide +kernel
theorem d_M_doAct_250 : decode b_M_doAct 250 = .ok (.getfield 43, 3) := by decide +kernel
theorem d_M_doAct_253 : decode b_M_doAct 253 = .ok (.sipush 600, 3) := by decide +kernel
theorem d_M_doAct_256 : decode b_M_doAct 256 = .ok (.iload_n 1, 1) := by decide +kernel
theorem d_M_doAct_257 : decode b_M_doAct 257 = .ok (.imul, 1) := by decide +kernel
theorem d_M_doAct_258 : decode b_M_doAct 258 = .ok (.bipush 60, 2) := by decide +kernel
theorem d_M_doAct_260 : decode b_M_doAct 260 = .ok (.iload_n 2, 1) := by decide +kernel
theorem d_M_doAct_261 : decode b_M_doAct 261 = .ok (.imul, 1) := by decide +kernel
theorem d_M_doAct_262 : decode b_M_doAct 262 = .ok (.iadd, 1) := by decide +kernel
theorem d_M_doAct_263 : decode b_M_doAct 263 = .ok (.aload_n 0, 1) := by decide +kernel
theorem d_M_doAct_264 : decode b_M_doAct 264 = .ok (.getfield 40, 3) := by decide +kernel
theorem d_M_doAct_267 : decode b_M_doAct 267 = .ok (.iload_n 3, 1) := by decide +kernel
theorem d_M_doAct_268 : decode b_M_doAct 268 = .ok (.iaload, 1) := by decide +kernel
theorem d_M_doAct_269 : decode b_M_doAct 269 = .ok (.iadd, 1) := by decide +kernel
theorem d_M_doAct_270 : decode b_M_doAct 270 = .ok (.aload_n 0, 1) := by decide +kernel
theorem d_M_doAct_271 : decode b_M_doAct 271 = .ok (.iload_n 1, 1) := by decide +kernel
theorem d_M_doAct_272 : decode b_M_doAct 272 = .ok (.iload_n 2, 1) := by decide +kernel
theorem d_M_doAct_273 : decode b_M_doAct 273 = .ok (.iconst 0, 1) := by decide +kernel
theorem d_M_doAct_274 : decode b_M_doAct 274 = .ok (.invokevirtual 85, 3) := by decide +kernel
theorem d_M_doAct_277 : decode b_M_doAct 277 = .ok (.iastore, 1) := by decide +kernel
theorem d_M_doAct_278 : decode b_M_doAct 278 = .ok (.aload_n 0, 1) := by decide +kernel
theorem d_M_doAct_279 : decode b_M_doAct 279 = .ok (.getfield 40, 3) := by decide +kernel
theorem d_M_doAct_282 : decode b_M_doAct 282 = .ok (.iload_n 3, 1) := by decide +kernel
theorem d_M_doAct_283 : decode b_M_doAct 283 = .ok (.dup2, 1) := by decide +kernel
theorem d_M_doAct_284 : decode b_M_doAct 284 = .ok (.iaload, 1) := by decide +kernel
theorem d_M_doAct_285 : decode b_M_doAct 285 = .ok (.iconst 1, 1) := by decide +kernel
theorem d_M_doAct_286 : decode b_M_doAct 286 = .ok (.iadd, 1) := by decide +kernel
theorem d_M_doAct_287 : decode b_M_doAct 287 = .ok (.iastore, 1) := by decide +kernel
theorem d_M_doAct_288 : decode b_M_doAct 288 = .ok (.goto 65, 3) := by decide +kernel
theorem d_M_doAct_291 : decode b_M_doAct 291 = .ok (.aload_n 0, 1) := by decide +kernel
theorem d_M_doAct_292 : decode b_M_doAct 292 = .ok (.iload_n 1, 1) := by decide +kernel
theorem d_M_doAct_293 : decode b_M_doAct 293 = .ok (.iload_n 2, 1) := by decide +kernel
theorem d_M_doAct_294 : decode b_M_doAct 294 = .ok (.iconst 0, 1) := by decide +kernel
theorem d_M_doAct_295 : decode b_M_doAct 295 = .ok (.invokevirtual 85, 3) := by decide +kernel
theorem d_M_doAct_298 : decode b_M_doAct 298 = .ok (.istore 4, 2) := by decide +kernel
theorem d_M_doAct_300 : decode b_M_doAct 300 = .ok (.aload_n 0, 1) := by decide +kernel
theorem d_M_doAct_301 : decode b_M_doAct 301 = .ok (.iload_n 1, 1) := by decide +kernel
theorem d_M_doAct_302 : decode b_M_doAct 302 = .ok (.iload_n 2, 1) := by decide +kernel
theorem d_M_doAct_303 : decode b_M_doAct 303 = .ok (.iconst 1, 1) := by decide +kernel
theorem d_M_doAct_304 : decode b_M_doAct 304 = .ok (.invokevirtual 85, 3) := by decide +kernel
theorem d_M_doAct_307 : decode b_M_doAct 307 = .ok (.istore 5, 2) := by decide +kernel
theorem d_M_doAct_309 : decode b_M_doAct 309 = .ok (.iload 4, 2) := by decide +kernel
theorem d_M_doAct_311 : decode b_M_doAct 311 = .ok (.ifCond .eq 42, 3) := by decide +kernel
theorem d_M_doAct_314 : decode b_M_doAct 314 = .ok (.aload_n 0, 1) := by decide +kernel
theorem d_M_doAct_315 : decode b_M_doAct 315 = .ok (.iload_n 1, 1) := by decide +kernel
theorem d_M_doAct_316 : decode b_M_doAct 316 = .ok (.iload_n 2, 1) := by decide +kernel
theorem d_M_doAct_317 : decode b_M_doAct 317 = .ok (.iconst 0, 1) := by decide +kernel
theorem d_M_doAct_318 : decode b_M_doAct 318 = .ok (.iload 5, 2) := by decide +kernel
theorem d_M_doAct_320 : decode b_M_doAct 320 = .ok (.invokevirtual 81, 3) := by decide +kernel
theorem d_M_doAct_323 : decode b_M_doAct 323 = .ok (.goto 30, 3) := by decide +kernel
theorem d_M_doAct_326 : decode b_M_doAct 326 = .ok (.aload_n 0, 1) := by decide +kernel
theorem d_M_doAct_327 : decode b_M_doAct 327 = .ok (.iload_n 1, 1) := by decide +kernel
theorem d_M_doAct_328 : decode b_M_doAct 328 = .ok (.iload_n 2, 1) := by decide +kernel
theorem d_M_doAct_329 : decode b_M_doAct 329 = .ok (.iconst 0, 1) := by decide +kernel
theorem d_M_doAct_330 : decode b_M_doAct 330 = .ok (.invokevirtual 85, 3) := by decide +kernel
theorem d_M_doAct_333 : decode b_M_doAct 333 = .ok (.istore 6, 2) := by decide +kernel
theorem d_M_doAct_335 : decode b_M_doAct 335 = .ok (.aload_n 0, 1) := by decide +kernel
theorem d_M_doAct_336 : decode b_M_doAct 336 = .ok (.iload_n 1, 1) := by decide +kernel
theorem d_M_doAct_337 : decode b_M_doAct 337 = .ok (.iload_n 2, 1) := by decide +kernel
theorem d_M_doAct_338 : decode b_M_doAct 338 = .ok (.iconst 0, 1) := by decide +kernel
theorem d_M_doAct_339 : decode b_M_doAct 339 = .ok (.iload 6, 2) := by decide +kernel
theorem d_M_doAct_341 : decode b_M_doAct 341 = .ok (.invokevirtual 81, 3) := by decide +kernel
theorem d_M_doAct_344 : decode b_M_doAct 344 = .ok (.aload_n 0, 1) := by decide +kernel
theorem d_M_doAct_345 : decode b_M_doAct 345 = .ok (.iload_n 1, 1) := by decide +kernel
theorem d_M_doAct_346 : decode b_M_doAct 346 = .ok (.iload_n 2, 1) := by decide +kernel
theorem d_M_doAct_347 : decode b_M_doAct 347 = .ok (.iconst 1, 1) := by decide +kernel
theorem d_M_doAct_348 : decode b_M_doAct 348 = .ok (.iload 6, 2) := by decide +kernel
theorem d_M_doAct_350 : decode b_M_doAct 350 = .ok (.invokevirtual 81, 3) := by decide +kernel
theorem d_M_doAct_353 : decode b_M_doAct 353 = .ok (.aload_n 0, 1) := by decide +kernel
theorem d_M_doAct_354 : decode b_M_doAct 354 = .ok (.getfield 34, 3) := by decide +kernel
theorem d_M_doAct_357 : decode b_M_doAct 357 = .ok (.iload_n 3, 1) := by decide +kernel
theorem d_M_doAct_358 : decode b_M_doAct 358 = .ok (.dup2, 1) := by decide +kernel
theorem d_M_doAct_359 : decode b_M_doAct 359 = .ok (.iaload, 1) := by decide +kernel
theorem d_M_doAct_360 : decode b_M_doAct 360 = .ok (.iconst 1, 1) := by decide +kernel
theorem d_M_doAct_361 : decode b_M_doAct 361 = .ok (.iadd, 1) := by decide +kernel
theorem d_M_doAct_362 : decode b_M_doAct 362 = .ok (.iastore, 1) := by decide +kernel
theorem d_M_doAct_363 : decode b_M_doAct 363 = .ok (.return_, 1) := by decide +kernel
theorem d_M_can_0 : decode b_M_can 0 = .ok (.aload_n 0, 1) := by decide +kernel
theorem d_M_can_1 : decode b_M_can 1 = .ok (.iload_n 1, 1) := by decide +kernel
theorem d_M_can_2 : decode b_M_can 2 = .ok (.invokevirtual 56, 3) := by decide +kernel
theorem d_M_can_5 : decode b_M_can 5 = .ok (.ifCond .eq 16, 3) := by decide +kernel
theorem d_M_can_8 : decode b_M_can 8 = .ok (.aload_n 0, 1) := by decide +kernel
theorem d_M_can_9 : decode b_M_can 9 = .ok (.iconst 0, 1) := by decide +kernel
theorem d_M_can_10 : decode b_M_can 10 = .ok (.iload_n 1, 1) := by decide +kernel
theorem d_M_can_11 : decode b_M_can 11 = .ok (.invokevirtual 88, 3) := by decide +kernel
theorem d_M_can_14 : decode b_M_can 14 = .ok (.ifCond .eq 7, 3) := by decide +kernel
theorem d_M_can_17 : decode b_M_can 17 = .ok (.iconst 1, 1) := by decide +kernel
theorem d_M_can_18 : decode b_M_can 18 = .ok (.goto 4, 3) := by decide +kernel
theorem d_M_can_21 : decode b_M_can 21 = .ok (.iconst 0, 1) := by decide +kernel
theorem d_M_can_22 : decode b_M_can 22 = .ok (.ireturn, 1) := by decide +kernel
theorem d_M_act_0 : decode b_M_act 0 = .ok (.aload_n 0, 1) := by decide +kernel
theorem d_M_act_1 : decode b_M_act 1 = .ok (.iload_n 1, 1) := by decide +kernel
theorem d_M_act_2 : decode b_M_act 2 = .ok (.invokevirtual 56, 3) := by decide +kernel
theorem d_M_act_5 : decode b_M_act 5 = .ok (.ifCond .eq 12, 3) := by decide +kernel
theorem d_M_act_8 : decode b_M_act 8 = .ok (.aload_n 0, 1) := by decide +kernel
theorem d_M_act_9 : decode b_M_act 9 = .ok (.iconst 0, 1) := by decide +kernel
theorem d_M_act_10 : decode b_M_act 10 = .ok (.iload_n 1, 1) := by decide +kernel
theorem d_M_act_11 : decode b_M_act 11 = .ok (.invokevirtual 88, 3) := by decide +kernel
theorem d_M_act_14 : decode b_M_act 14 = .ok (.ifCond .ne 5, 3) := by decide +kernel
theorem d_M_act_17 : decode b_M_act 17 = .ok (.iconst 0, 1) := by decide +kernel
theorem d_M_act_18 : decode b_M_act 18 = .ok (.ireturn, 1) := by decide +kernel
theorem d_M_act_19 : decode b_M_act 19 = .ok (.aload_n 0, 1) := by decide +kernel
theorem d_M_act_20 : decode b_M_act 20 = .ok (.iconst 0, 1) := by decide +kernel
theorem d_M_act_21 : decode b_M_act 21 = .ok (.iload_n 1, 1) := by decide +kernel
theorem d_M_act_22 : decode b_M_act 22 = .ok (.invokevirtual 92, 3) := by decide +kernel
theorem d_M_act_25 : decode b_M_act 25 = .ok (.iconst 1, 1) := by decide +kernel
theorem d_M_act_26 : decode b_M_act 26 = .ok (.ireturn, 1) := by decide +kernel
theorem d_M_run_0 : decode b_M_run 0 = .ok (.iload_n 3, 1) := by decide +kernel
theorem d_M_run_1 : decode b_M_run 1 = .ok (.ifCond .lt 10, 3) := by decide +kernel
theorem d_M_run_4 : decode b_M_run 4 = .ok (.iload_n 3, 1) := by decide +kernel
theorem d_M_run_5 : decode b_M_run 5 = .ok (.sipush 2000, 3) := by decide +kernel
theorem d_M_run_8 : decode b_M_run 8 = .ok (.if_icmp .le 5, 3) := by decide +kernel
theorem d_M_run_11 : decode b_M_run 11 = .ok (.iconst (-1), 1) := by decide +kernel
theorem d_M_run_12 : decode b_M_run 12 = .ok (.ireturn, 1) := by decide +kernel
theorem d_M_run_13 : decode b_M_run 13 = .ok (.lload_n 1, 1) := by decide +kernel
theorem d_M_run_14 : decode b_M_run 14 = .ok (.lstore 4, 2) := by decide +kernel
theorem d_M_run_16 : decode b_M_run 16 = .ok (.iconst 0, 1) := by decide +kernel
theorem d_M_run_17 : decode b_M_run 17 = .ok (.istore 6, 2) := by decide +kernel
theorem d_M_run_19 : decode b_M_run 19 = .ok (.iload 6, 2) := by decide +kernel
theorem d_M_run_21 : decode b_M_run 21 = .ok (.iload_n 3, 1) := by decide +kernel
theorem d_M_run_22 : decode b_M_run 22 = .ok (.if_icmp .ge 133, 3) := by decide +kernel
theorem d_M_run_25 : decode b_M_run 25 = .ok (.iconst 0, 1) := by decide +kernel
theorem d_M_run_26 : decode b_M_run 26 = .ok (.istore 7, 2) := by decide +kernel
theorem d_M_run_28 : decode b_M_run 28 = .ok (.iconst 0, 1) := by decide +kernel
theorem d_M_run_29 : decode b_M_run 29 = .ok (.istore 8, 2) := by decide +kernel
theorem d_M_run_31 : decode b_M_run 31 = .ok (.iload 8, 2) := by decide +kernel
theorem d_M_run_33 : decode b_M_run 33 = .ok (.aload_n 0, 1) := by decide +kernel
theorem d_M_run_34 : decode b_M_run 34 = .ok (.getfield 52, 3) := by decide +kernel
theorem d_M_run_37 : decode b_M_run 37 = .ok (.if_icmp .ge 29, 3) := by decide +kernel
theorem d_M_run_40 : decode b_M_run 40 = .ok (.iload 7, 2) := by decide +kernel
theorem d_M_run_42 : decode b_M_run 42 = .ok (.aload_n 0, 1) := by decide +kernel
theorem d_M_run_43 : decode b_M_run 43 = .ok (.iconst 0, 1) := by decide +kernel
theorem d_M_run_44 : decode b_M_run 44 = .ok (.iload 8, 2) := by decide +kernel
theorem d_M_run_46 : decode b_M_run 46 = .ok (.invokevirtual 88, 3) := by decide +kernel
theorem d_M_run_49 : decode b_M_run 49 = .ok (.ifCond .eq 7, 3) := by decide +kernel
theorem d_M_run_52 : decode b_M_run 52 = .ok (.iconst 1, 1) := by decide +kernel
theorem d_M_run_53 : decode b_M_run 53 = .ok (.goto 4, 3) := by decide +kernel
theorem d_M_run_56 : decode b_M_run 56 = .ok (.iconst 0, 1) := by decide +kernel
theorem d_M_run_57 : decode b_M_run 57 = .ok (.iadd, 1) := by decide +kernel
theorem d_M_run_58 : decode b_M_run 58 = .ok (.istore 7, 2) := by decide +kernel
theorem d_M_run_60 : decode b_M_run 60 = .ok (.iinc 8 1, 3) := by decide +kernel
theorem d_M_run_63 : decode b_M_run 63 = .ok (.goto (-32), 3) := by decide +kernel
theorem d_M_run_66 : decode b_M_run 66 = .ok (.iload 7, 2) := by decide +kernel
theorem d_M_run_68 : decode b_M_run 68 = .ok (.ifCond .ne 6, 3) := by decide +kernel
theorem d_M_run_71 : decode b_M_run 71 = .ok (.iload 6, 2) := by decide +kernel
theorem d_M_run_73 : decode b_M_run 73 = .ok (.ireturn, 1) := by decide +kernel
theorem d_M_run_74 : decode b_M_run 74 = .ok (.lload 4, 2) := by decide +kernel
theorem d_M_run_76 : decode b_M_run 76 = .ok (.ldc2_w 96, 3) := by decide +kernel
theorem d_M_run_79 : decode b_M_run 79 = .ok (.lmul, 1) := by decide +kernel
theorem d_M_run_80 : decode b_M_run 80 = .ok (.ldc2_w 98, 3) := by decide +kernel
theorem d_M_run_83 : decode b_M_run 83 = .ok (.ladd, 1) := by decide +kernel
theorem d_M_run_84 : decode b_M_run 84 = .ok (.lstore 4, 2) := by decide +kernel
theorem d_M_run_86 : decode b_M_run 86 = .ok (.lload 4, 2) := by decide +kernel
theorem d_M_run_88 : decode b_M_run 88 = .ok (.bipush 33, 2) := by decide +kernel
theorem d_M_run_90 : decode b_M_run 90 = .ok (.lushr, 1) := by decide +kernel
theorem d_M_run_91 : decode b_M_run 91 = .ok (.iload 7, 2) := by decide +kernel
theorem d_M_run_93 : decode b_M_run 93 = .ok (.i2l, 1) := by decide +kernel
theorem d_M_run_94 : decode b_M_run 94 = .ok (.lrem, 1) := by decide +kernel
theorem d_M_run_95 : decode b_M_run 95 = .ok (.l2i, 1) := by decide +kernel
theorem d_M_run_96 : decode b_M_run 96 = .ok (.istore 8, 2) := by decide +kernel
theorem d_M_run_98 : decode b_M_run 98 = .ok (.iconst 0, 1) := by decide +kernel
theorem d_M_run_99 : decode b_M_run 99 = .ok (.istore 9, 2) := by decide +kernel
theorem d_M_run_101 : decode b_M_run 101 = .ok (.iload 8, 2) := by decide +kernel
theorem d_M_run_103 : decode b_M_run 103 = .ok (.ifCond .gt 13, 3) := by decide +kernel
theorem d_M_run_106 : decode b_M_run 106 = .ok (.aload_n 0, 1) := by decide +kernel
theorem d_M_run_107 : decode b_M_run 107 = .ok (.iconst 0, 1) := by decide +kernel
theorem d_M_run_108 : decode b_M_run 108 = .ok (.iload 9, 2) := by decide +kernel
theorem d_M_run_110 : decode b_M_run 110 = .ok (.invokevirtual 88, 3) := by decide +kernel
theorem d_M_run_113 : decode b_M_run 113 = .ok (.ifCond .ne 29, 3) := by decide +kernel
theorem d_M_run_116 : decode b_M_run 116 = .ok (.iload 8, 2) := by decide +kernel
theorem d_M_run_118 : decode b_M_run 118 = .ok (.aload_n 0, 1) := by decide +kernel
theorem d_M_run_119 : decode b_M_run 119 = .ok (.iconst 0, 1) := by decide +kernel
theorem d_M_run_120 : decode b_M_run 120 = .ok (.iload 9, 2) := by decide +kernel
theorem d_M_run_122 : decode b_M_run 122 = .ok (.invokevirtual 88, 3) := by decide +kernel
theorem d_M_run_125 : decode b_M_run 125 = .ok (.ifCond .eq 7, 3) := by decide +kernel
theorem d_M_run_128 : decode b_M_run 128 = .ok (.iconst 1, 1) := by decide +kernel
theorem d_M_run_129 : decode b_M_run 129 = .ok (.goto 4, 3) := by decide +kernel
theorem d_M_run_132 : decode b_M_run 132 = .ok (.iconst 0, 1) := by decide +kernel
theorem d_M_run_133 : decode b_M_run 133 = .ok (.isub, 1) := by decide +kernel
theorem d_M_run_134 : decode b_M_run 134 = .ok (.istore 8, 2) := by decide +kernel
theorem d_M_run_136 : decode b_M_run 136 = .ok (.iinc 9 1, 3) := by decide +kernel
theorem d_M_run_139 : decode b_M_run 139 = .ok (.goto (-38), 3) := by decide +kernel
theorem d_M_run_142 : decode b_M_run 142 = .ok (.aload_n 0, 1) := by decide +kernel
theorem d_M_run_143 : decode b_M_run 143 = .ok (.iconst 0, 1) := by decide +kernel
theorem d_M_run_144 : decode b_M_run 144 = .ok (.iload 9, 2) := by decide +kernel
theorem d_M_run_146 : decode b_M_run 146 = .ok (.invokevirtual 92, 3) := by decide +kernel
theorem d_M_run_149 : decode b_M_run 149 = .ok (.iinc 6 1, 3) := by decide +kernel
theorem d_M_run_152 : decode b_M_run 152 = .ok (.goto (-133), 3) := by decide +kernel
theorem d_M_run_155 : decode b_M_run 155 = .ok (.iload_n 3, 1) := by decide +kernel
theorem d_M_run_156 : decode b_M_run 156 = .ok (.ireturn, 1) := by decide +kernel
theorem d_M_acted_0 : decode b_M_acted 0 = .ok (.aload_n 0, 1) := by decide +kernel
theorem d_M_acted_1 : decode b_M_acted 1 = .ok (.iload_n 1, 1) := by decide +kernel
theorem d_M_acted_2 : decode b_M_acted 2 = .ok (.invokevirtual 56, 3) := by decide +kernel
theorem d_M_acted_5 : decode b_M_acted 5 = .ok (.ifCond .eq 12, 3) := by decide +kernel
theorem d_M_acted_8 : decode b_M_acted 8 = .ok (.aload_n 0, 1) := by decide +kernel
theorem d_M_acted_9 : decode b_M_acted 9 = .ok (.getfield 34, 3) := by decide +kernel
theorem d_M_acted_12 : decode b_M_acted 12 = .ok (.iload_n 1, 1) := by decide +kernel
theorem d_M_acted_13 : decode b_M_acted 13 = .ok (.iaload, 1) := by decide +kernel
theorem d_M_acted_14 : decode b_M_acted 14 = .ok (.goto 4, 3) := by decide +kernel
theorem d_M_acted_17 : decode b_M_acted 17 = .ok (.iconst (-1), 1) := by decide +kernel
theorem d_M_acted_18 : decode b_M_acted 18 = .ok (.ireturn, 1) := by decide +kernel
theorem d_M_kept_0 : decode b_M_kept 0 = .ok (.aload_n 0, 1) := by decide +kernel
theorem d_M_kept_1 : decode b_M_kept 1 = .ok (.iload_n 1, 1) := by decide +kernel
theorem d_M_kept_2 : decode b_M_kept 2 = .ok (.invokevirtual 100, 3) := by decide +kernel
theorem d_M_kept_5 : decode b_M_kept 5 = .ok (.ifCond .eq 12, 3) := by decide +kernel
theorem d_M_kept_8 : decode b_M_kept 8 = .ok (.aload_n 0, 1) := by decide +kernel
theorem d_M_kept_9 : decode b_M_kept 9 = .ok (.getfield 40, 3) := by decide +kernel
theorem d_M_kept_12 : decode b_M_kept 12 = .ok (.iload_n 1, 1) := by decide +kernel
theorem d_M_kept_13 : decode b_M_kept 13 = .ok (.iaload, 1) := by decide +kernel
theorem d_M_kept_14 : decode b_M_kept 14 = .ok (.goto 4, 3) := by decide +kernel
theorem d_M_kept_17 : decode b_M_kept 17 = .ok (.iconst (-1), 1) := by decide +kernel
theorem d_M_kept_18 : decode b_M_kept 18 = .ok (.ireturn, 1) := by decide +kernel
theorem d_M_at_0 : decode b_M_at 0 = .ok (.aload_n 0, 1) := by decide +kernel
theorem d_M_at_1 : decode b_M_at 1 = .ok (.iload_n 1, 1) := by decide +kernel
theorem d_M_at_2 : decode b_M_at 2 = .ok (.invokevirtual 100, 3) := by decide +kernel
theorem d_M_at_5 : decode b_M_at 5 = .ok (.ifCond .eq 32, 3) := by decide +kernel
theorem d_M_at_8 : decode b_M_at 8 = .ok (.iload_n 2, 1) := by decide +kernel
theorem d_M_at_9 : decode b_M_at 9 = .ok (.ifCond .lt 28, 3) := by decide +kernel
theorem d_M_at_12 : decode b_M_at 12 = .ok (.iload_n 2, 1) := by decide +kernel
theorem d_M_at_13 : decode b_M_at 13 = .ok (.aload_n 0, 1) := by decide +kernel
theorem d_M_at_14 : decode b_M_at 14 = .ok (.getfield 40, 3) := by decide +kernel
theorem d_M_at_17 : decode b_M_at 17 = .ok (.iload_n 1, 1) := by decide +kernel
theorem d_M_at_18 : decode b_M_at 18 = .ok (.iaload, 1) := by decide +kernel
theorem d_M_at_19 : decode b_M_at 19 = .ok (.if_icmp .ge 18, 3) := by decide +kernel
theorem d_M_at_22 : decode b_M_at 22 = .ok (.aload_n 0, 1) := by decide +kernel
theorem d_M_at_23 : decode b_M_at 23 = .ok (.getfield 43, 3) := by decide +kernel
theorem d_M_at_26 : decode b_M_at 26 = .ok (.bipush 60, 2) := by decide +kernel
theorem d_M_at_28 : decode b_M_at 28 = .ok (.iload_n 1, 1) := by decide +kernel
theorem d_M_at_29 : decode b_M_at 29 = .ok (.imul, 1) := by decide +kernel
theorem d_M_at_30 : decode b_M_at 30 = .ok (.iload_n 2, 1) := by decide +kernel
theorem d_M_at_31 : decode b_M_at 31 = .ok (.iadd, 1) := by decide +kernel
theorem d_M_at_32 : decode b_M_at 32 = .ok (.iaload, 1) := by decide +kernel
theorem d_M_at_33 : decode b_M_at 33 = .ok (.i2l, 1) := by decide +kernel
theorem d_M_at_34 : decode b_M_at 34 = .ok (.goto 6, 3) := by decide +kernel
theorem d_M_at_37 : decode b_M_at 37 = .ok (.ldc2_w 103, 3) := by decide +kernel
theorem d_M_at_40 : decode b_M_at 40 = .ok (.lreturn, 1) := by decide +kernel
theorem d_M_waits_0 : decode b_M_waits 0 = .ok (.aload_n 0, 1) := by decide +kernel
theorem d_M_waits_1 : decode b_M_waits 1 = .ok (.iload_n 1, 1) := by decide +kernel
theorem d_M_waits_2 : decode b_M_waits 2 = .ok (.invokevirtual 105, 3) := by decide +kernel
theorem d_M_waits_5 : decode b_M_waits 5 = .ok (.ifCond .eq 12, 3) := by decide +kernel
theorem d_M_waits_8 : decode b_M_waits 8 = .ok (.aload_n 0, 1) := by decide +kernel
theorem d_M_waits_9 : decode b_M_waits 9 = .ok (.getfield 46, 3) := by decide +kernel
theorem d_M_waits_12 : decode b_M_waits 12 = .ok (.iload_n 1, 1) := by decide +kernel
theorem d_M_waits_13 : decode b_M_waits 13 = .ok (.iaload, 1) := by decide +kernel
theorem d_M_waits_14 : decode b_M_waits 14 = .ok (.goto 4, 3) := by decide +kernel
theorem d_M_waits_17 : decode b_M_waits 17 = .ok (.iconst (-1), 1) := by decide +kernel
theorem d_M_waits_18 : decode b_M_waits 18 = .ok (.ireturn, 1) := by decide +kernel
theorem d_M_waiting_0 : decode b_M_waiting 0 = .ok (.aload_n 0, 1) := by decide +kernel
theorem d_M_waiting_1 : decode b_M_waiting 1 = .ok (.iload_n 1, 1) := by decide +kernel
theorem d_M_waiting_2 : decode b_M_waiting 2 = .ok (.invokevirtual 105, 3) := by decide +kernel
theorem d_M_waiting_5 : decode b_M_waiting 5 = .ok (.ifCond .eq 32, 3) := by decide +kernel
theorem d_M_waiting_8 : decode b_M_waiting 8 = .ok (.iload_n 2, 1) := by decide +kernel
theorem d_M_waiting_9 : decode b_M_waiting 9 = .ok (.ifCond .lt 28, 3) := by decide +kernel
theorem d_M_waiting_12 : decode b_M_waiting 12 = .ok (.iload_n 2, 1) := by decide +kernel
theorem d_M_waiting_13 : decode b_M_waiting 13 = .ok (.aload_n 0, 1) := by decide +kernel
theorem d_M_waiting_14 : decode b_M_waiting 14 = .ok (.getfield 46, 3) := by decide +kernel
theorem d_M_waiting_17 : decode b_M_waiting 17 = .ok (.iload_n 1, 1) := by decide +kernel
theorem d_M_waiting_18 : decode b_M_waiting 18 = .ok (.iaload, 1) := by decide +kernel
theorem d_M_waiting_19 : decode b_M_waiting 19 = .ok (.if_icmp .ge 18, 3) := by decide +kernel
theorem d_M_waiting_22 : decode b_M_waiting 22 = .ok (.aload_n 0, 1) := by decide +kernel
theorem d_M_waiting_23 : decode b_M_waiting 23 = .ok (.getfield 49, 3) := by decide +kernel
theorem d_M_waiting_26 : decode b_M_waiting 26 = .ok (.bipush 8, 2) := by decide +kernel
theorem d_M_waiting_28 : decode b_M_waiting 28 = .ok (.iload_n 1, 1) := by decide +kernel
theorem d_M_waiting_29 : decode b_M_waiting 29 = .ok (.imul, 1) := by decide +kernel
theorem d_M_waiting_30 : decode b_M_waiting 30 = .ok (.iload_n 2, 1) := by decide +kernel
theorem d_M_waiting_31 : decode b_M_waiting 31 = .ok (.iadd, 1) := by decide +kernel
theorem d_M_waiting_32 : decode b_M_waiting 32 = .ok (.iaload, 1) := by decide +kernel
theorem d_M_waiting_33 : decode b_M_waiting 33 = .ok (.i2l, 1) := by decide +kernel
theorem d_M_waiting_34 : decode b_M_waiting 34 = .ok (.goto 6, 3) := by decide +kernel
theorem d_M_waiting_37 : decode b_M_waiting 37 = .ok (.ldc2_w 103, 3) := by decide +kernel
theorem d_M_waiting_40 : decode b_M_waiting 40 = .ok (.lreturn, 1) := by decide +kernel
theorem d_M_settle_0 : decode b_M_settle 0 = .ok (.iconst 0, 1) := by decide +kernel
theorem d_M_settle_1 : decode b_M_settle 1 = .ok (.istore_n 1, 1) := by decide +kernel
theorem d_M_settle_2 : decode b_M_settle 2 = .ok (.iload_n 1, 1) := by decide +kernel
theorem d_M_settle_3 : decode b_M_settle 3 = .ok (.bipush 10, 2) := by decide +kernel
theorem d_M_settle_5 : decode b_M_settle 5 = .ok (.if_icmp .ge 54, 3) := by decide +kernel
theorem d_M_settle_8 : decode b_M_settle 8 = .ok (.aload_n 0, 1) := by decide +kernel
theorem d_M_settle_9 : decode b_M_settle 9 = .ok (.getfield 34, 3) := by decide +kernel
theorem d_M_settle_12 : decode b_M_settle 12 = .ok (.bipush 10, 2) := by decide +kernel
theorem d_M_settle_14 : decode b_M_settle 14 = .ok (.iload_n 1, 1) := by decide +kernel
theorem d_M_settle_15 : decode b_M_settle 15 = .ok (.iadd, 1) := by decide +kernel
theorem d_M_settle_16 : decode b_M_settle 16 = .ok (.aload_n 0, 1) := by decide +kernel
theorem d_M_settle_17 : decode b_M_settle 17 = .ok (.getfield 34, 3) := by decide +kernel
theorem d_M_settle_20 : decode b_M_settle 20 = .ok (.iload_n 1, 1) := by decide +kernel
theorem d_M_settle_21 : decode b_M_settle 21 = .ok (.iaload, 1) := by decide +kernel
theorem d_M_settle_22 : decode b_M_settle 22 = .ok (.iastore, 1) := by decide +kernel
theorem d_M_settle_23 : decode b_M_settle 23 = .ok (.aload_n 0, 1) := by decide +kernel
theorem d_M_settle_24 : decode b_M_settle 24 = .ok (.getfield 37, 3) := by decide +kernel
theorem d_M_settle_27 : decode b_M_settle 27 = .ok (.bipush 10, 2) := by decide +kernel
theorem d_M_settle_29 : decode b_M_settle 29 = .ok (.iload_n 1, 1) := by decide +kernel
theorem d_M_settle_30 : decode b_M_settle 30 = .ok (.iadd, 1) := by decide +kernel
theorem d_M_settle_31 : decode b_M_settle 31 = .ok (.aload_n 0, 1) := by decide +kernel
theorem d_M_settle_32 : decode b_M_settle 32 = .ok (.getfield 37, 3) := by decide +kernel
theorem d_M_settle_35 : decode b_M_settle 35 = .ok (.iload_n 1, 1) := by decide +kernel
theorem d_M_settle_36 : decode b_M_settle 36 = .ok (.iaload, 1) := by decide +kernel
theorem d_M_settle_37 : decode b_M_settle 37 = .ok (.iastore, 1) := by decide +kernel
theorem d_M_settle_38 : decode b_M_settle 38 = .ok (.aload_n 0, 1) := by decide +kernel
theorem d_M_settle_39 : decode b_M_settle 39 = .ok (.getfield 40, 3) := by decide +kernel
theorem d_M_settle_42 : decode b_M_settle 42 = .ok (.bipush 10, 2) := by decide +kernel
theorem d_M_settle_44 : decode b_M_settle 44 = .ok (.iload_n 1, 1) := by decide +kernel
theorem d_M_settle_45 : decode b_M_settle 45 = .ok (.iadd, 1) := by decide +kernel
theorem d_M_settle_46 : decode b_M_settle 46 = .ok (.aload_n 0, 1) := by decide +kernel
theorem d_M_settle_47 : decode b_M_settle 47 = .ok (.getfield 40, 3) := by decide +kernel
theorem d_M_settle_50 : decode b_M_settle 50 = .ok (.iload_n 1, 1) := by decide +kernel
theorem d_M_settle_51 : decode b_M_settle 51 = .ok (.iaload, 1) := by decide +kernel
theorem d_M_settle_52 : decode b_M_settle 52 = .ok (.iastore, 1) := by decide +kernel
theorem d_M_settle_53 : decode b_M_settle 53 = .ok (.iinc 1 1, 3) := by decide +kernel
theorem d_M_settle_56 : decode b_M_settle 56 = .ok (.goto (-54), 3) := by decide +kernel
theorem d_M_settle_59 : decode b_M_settle 59 = .ok (.iconst 0, 1) := by decide +kernel
theorem d_M_settle_60 : decode b_M_settle 60 = .ok (.istore_n 1, 1) := by decide +kernel
theorem d_M_settle_61 : decode b_M_settle 61 = .ok (.iload_n 1, 1) := by decide +kernel
theorem d_M_settle_62 : decode b_M_settle 62 = .ok (.sipush 600, 3) := by decide +kernel
theorem d_M_settle_65 : decode b_M_settle 65 = .ok (.if_icmp .ge 25, 3) := by decide +kernel
theorem d_M_settle_68 : decode b_M_settle 68 = .ok (.aload_n 0, 1) := by decide +kernel
theorem d_M_settle_69 : decode b_M_settle 69 = .ok (.getfield 43, 3) := by decide +kernel
theorem d_M_settle_72 : decode b_M_settle 72 = .ok (.sipush 600, 3) := by decide +kernel
theorem d_M_settle_75 : decode b_M_settle 75 = .ok (.iload_n 1, 1) := by decide +kernel
theorem d_M_settle_76 : decode b_M_settle 76 = .ok (.iadd, 1) := by decide +kernel
theorem d_M_settle_77 : decode b_M_settle 77 = .ok (.aload_n 0, 1) := by decide +kernel
theorem d_M_settle_78 : decode b_M_settle 78 = .ok (.getfield 43, 3) := by decide +kernel
theorem d_M_settle_81 : decode b_M_settle 81 = .ok (.iload_n 1, 1) := by decide +kernel
theorem d_M_settle_82 : decode b_M_settle 82 = .ok (.iaload, 1) := by decide +kernel
theorem d_M_settle_83 : decode b_M_settle 83 = .ok (.iastore, 1) := by decide +kernel
theorem d_M_settle_84 : decode b_M_settle 84 = .ok (.iinc 1 1, 3) := by decide +kernel
theorem d_M_settle_87 : decode b_M_settle 87 = .ok (.goto (-26), 3) := by decide +kernel
theorem d_M_settle_90 : decode b_M_settle 90 = .ok (.iconst 0, 1) := by decide +kernel
theorem d_M_settle_91 : decode b_M_settle 91 = .ok (.istore_n 1, 1) := by decide +kernel
theorem d_M_settle_92 : decode b_M_settle 92 = .ok (.iload_n 1, 1) := by decide +kernel
theorem d_M_settle_93 : decode b_M_settle 93 = .ok (.bipush 16, 2) := by decide +kernel
theorem d_M_settle_95 : decode b_M_settle 95 = .ok (.if_icmp .ge 24, 3) := by decide +kernel
theorem d_M_settle_98 : decode b_M_settle 98 = .ok (.aload_n 0, 1) := by decide +kernel
theorem d_M_settle_99 : decode b_M_settle 99 = .ok (.getfield 46, 3) := by decide +kernel
theorem d_M_settle_102 : decode b_M_settle 102 = .ok (.bipush 16, 2) := by decide +kernel
theorem d_M_settle_104 : decode b_M_settle 104 = .ok (.iload_n 1, 1) := by decide +kernel
theorem d_M_settle_105 : decode b_M_settle 105 = .ok (.iadd, 1) := by decide +kernel
theorem d_M_settle_106 : decode b_M_settle 106 = .ok (.aload_n 0, 1) := by decide +kernel
theorem d_M_settle_107 : decode b_M_settle 107 = .ok (.getfield 46, 3) := by decide +kernel
theorem d_M_settle_110 : decode b_M_settle 110 = .ok (.iload_n 1, 1) := by decide +kernel
theorem d_M_settle_111 : decode b_M_settle 111 = .ok (.iaload, 1) := by decide +kernel
theorem d_M_settle_112 : decode b_M_settle 112 = .ok (.iastore, 1) := by decide +kernel
theorem d_M_settle_113 : decode b_M_settle 113 = .ok (.iinc 1 1, 3) := by decide +kernel
theorem d_M_settle_116 : decode b_M_settle 116 = .ok (.goto (-24), 3) := by decide +kernel
theorem d_M_settle_119 : decode b_M_settle 119 = .ok (.iconst 0, 1) := by decide +kernel
theorem d_M_settle_120 : decode b_M_settle 120 = .ok (.istore_n 1, 1) := by decide +kernel
theorem d_M_settle_121 : decode b_M_settle 121 = .ok (.iload_n 1, 1) := by decide +kernel
theorem d_M_settle_122 : decode b_M_settle 122 = .ok (.sipush 128, 3) := by decide +kernel
theorem d_M_settle_125 : decode b_M_settle 125 = .ok (.if_icmp .ge 25, 3) := by decide +kernel
theorem d_M_settle_128 : decode b_M_settle 128 = .ok (.aload_n 0, 1) := by decide +kernel
theorem d_M_settle_129 : decode b_M_settle 129 = .ok (.getfield 49, 3) := by decide +kernel
theorem d_M_settle_132 : decode b_M_settle 132 = .ok (.sipush 128, 3) := by decide +kernel
theorem d_M_settle_135 : decode b_M_settle 135 = .ok (.iload_n 1, 1) := by decide +kernel
theorem d_M_settle_136 : decode b_M_settle 136 = .ok (.iadd, 1) := by decide +kernel
theorem d_M_settle_137 : decode b_M_settle 137 = .ok (.aload_n 0, 1) := by decide +kernel
theorem d_M_settle_138 : decode b_M_settle 138 = .ok (.getfield 49, 3) := by decide +kernel
theorem d_M_settle_141 : decode b_M_settle 141 = .ok (.iload_n 1, 1) := by decide +kernel
theorem d_M_settle_142 : decode b_M_settle 142 = .ok (.iaload, 1) := by decide +kernel
theorem d_M_settle_143 : decode b_M_settle 143 = .ok (.iastore, 1) := by decide +kernel
theorem d_M_settle_144 : decode b_M_settle 144 = .ok (.iinc 1 1, 3) := by decide +kernel
theorem d_M_settle_147 : decode b_M_settle 147 = .ok (.goto (-26), 3) := by decide +kernel
theorem d_M_settle_150 : decode b_M_settle 150 = .ok (.aload_n 0, 1) := by decide +kernel
theorem d_M_settle_151 : decode b_M_settle 151 = .ok (.getfield 52, 3) := by decide +kernel
theorem d_M_settle_154 : decode b_M_settle 154 = .ok (.iconst 1, 1) := by decide +kernel
theorem d_M_settle_155 : decode b_M_settle 155 = .ok (.isub, 1) := by decide +kernel
theorem d_M_settle_156 : decode b_M_settle 156 = .ok (.istore_n 1, 1) := by decide +kernel
theorem d_M_settle_157 : decode b_M_settle 157 = .ok (.iload_n 1, 1) := by decide +kernel
theorem d_M_settle_158 : decode b_M_settle 158 = .ok (.ifCond .lt 34, 3) := by decide +kernel
theorem d_M_settle_161 : decode b_M_settle 161 = .ok (.aload_n 0, 1) := by decide +kernel
theorem d_M_settle_162 : decode b_M_settle 162 = .ok (.iconst 1, 1) := by decide +kernel
theorem d_M_settle_163 : decode b_M_settle 163 = .ok (.iload_n 1, 1) := by decide +kernel
theorem d_M_settle_164 : decode b_M_settle 164 = .ok (.invokevirtual 88, 3) := by decide +kernel
theorem d_M_settle_167 : decode b_M_settle 167 = .ok (.ifCond .eq 19, 3) := by decide +kernel
theorem d_M_settle_170 : decode b_M_settle 170 = .ok (.aload_n 0, 1) := by decide +kernel
theorem d_M_settle_171 : decode b_M_settle 171 = .ok (.iconst 1, 1) := by decide +kernel
theorem d_M_settle_172 : decode b_M_settle 172 = .ok (.iload_n 1, 1) := by decide +kernel
theorem d_M_settle_173 : decode b_M_settle 173 = .ok (.invokevirtual 92, 3) := by decide +kernel
theorem d_M_settle_176 : decode b_M_settle 176 = .ok (.aload_n 0, 1) := by decide +kernel
theorem d_M_settle_177 : decode b_M_settle 177 = .ok (.getfield 52, 3) := by decide +kernel
theorem d_M_settle_180 : decode b_M_settle 180 = .ok (.iconst 1, 1) := by decide +kernel
theorem d_M_settle_181 : decode b_M_settle 181 = .ok (.isub, 1) := by decide +kernel
theorem d_M_settle_182 : decode b_M_settle 182 = .ok (.istore_n 1, 1) := by decide +kernel
theorem d_M_settle_183 : decode b_M_settle 183 = .ok (.goto (-26), 3) := by decide +kernel
theorem d_M_settle_186 : decode b_M_settle 186 = .ok (.iinc 1 (-1), 3) := by decide +kernel
theorem d_M_settle_189 : decode b_M_settle 189 = .ok (.goto (-32), 3) := by decide +kernel
theorem d_M_settle_192 : decode b_M_settle 192 = .ok (.return_, 1) := by decide +kernel
theorem d_M_keptAtLast_0 : decode b_M_keptAtLast 0 = .ok (.aload_n 0, 1) := by decide +kernel
theorem d_M_keptAtLast_1 : decode b_M_keptAtLast 1 = .ok (.invokevirtual 108, 3) := by decide +kernel
theorem d_M_keptAtLast_4 : decode b_M_keptAtLast 4 = .ok (.aload_n 0, 1) := by decide +kernel
theorem d_M_keptAtLast_5 : decode b_M_keptAtLast 5 = .ok (.iload_n 1, 1) := by decide +kernel
theorem d_M_keptAtLast_6 : decode b_M_keptAtLast 6 = .ok (.invokevirtual 100, 3) := by decide +kernel
theorem d_M_keptAtLast_9 : decode b_M_keptAtLast 9 = .ok (.ifCond .eq 15, 3) := by decide +kernel
theorem d_M_keptAtLast_12 : decode b_M_keptAtLast 12 = .ok (.aload_n 0, 1) := by decide +kernel
theorem d_M_keptAtLast_13 : decode b_M_keptAtLast 13 = .ok (.getfield 40, 3) := by decide +kernel
theorem d_M_keptAtLast_16 : decode b_M_keptAtLast 16 = .ok (.bipush 10, 2) := by decide +kernel
theorem d_M_keptAtLast_18 : decode b_M_keptAtLast 18 = .ok (.iload_n 1, 1) := by decide +kernel
theorem d_M_keptAtLast_19 : decode b_M_keptAtLast 19 = .ok (.iadd, 1) := by decide +kernel
theorem d_M_keptAtLast_20 : decode b_M_keptAtLast 20 = .ok (.iaload, 1) := by decide +kernel
theorem d_M_keptAtLast_21 : decode b_M_keptAtLast 21 = .ok (.goto 4, 3) := by decide +kernel
theorem d_M_keptAtLast_24 : decode b_M_keptAtLast 24 = .ok (.iconst (-1), 1) := by decide +kernel
theorem d_M_keptAtLast_25 : decode b_M_keptAtLast 25 = .ok (.ireturn, 1) := by decide +kernel
theorem d_M_atLast_0 : decode b_M_atLast 0 = .ok (.aload_n 0, 1) := by decide +kernel
theorem d_M_atLast_1 : decode b_M_atLast 1 = .ok (.invokevirtual 108, 3) := by decide +kernel
theorem d_M_atLast_4 : decode b_M_atLast 4 = .ok (.aload_n 0, 1) := by decide +kernel
theorem d_M_atLast_5 : decode b_M_atLast 5 = .ok (.iload_n 1, 1) := by decide +kernel
theorem d_M_atLast_6 : decode b_M_atLast 6 = .ok (.invokevirtual 100, 3) := by decide +kernel
theorem d_M_atLast_9 : decode b_M_atLast 9 = .ok (.ifCond .eq 39, 3) := by decide +kernel
theorem d_M_atLast_12 : decode b_M_atLast 12 = .ok (.iload_n 2, 1) := by decide +kernel
theorem d_M_atLast_13 : decode b_M_atLast 13 = .ok (.ifCond .lt 35, 3) := by decide +kernel
theorem d_M_atLast_16 : decode b_M_atLast 16 = .ok (.iload_n 2, 1) := by decide +kernel
theorem d_M_atLast_17 : decode b_M_atLast 17 = .ok (.aload_n 0, 1) := by decide +kernel
theorem d_M_atLast_18 : decode b_M_atLast 18 = .ok (.getfield 40, 3) := by decide +kernel
theorem d_M_atLast_21 : decode b_M_atLast 21 = .ok (.bipush 10, 2) := by decide +kernel
theorem d_M_atLast_23 : decode b_M_atLast 23 = .ok (.iload_n 1, 1) := by decide +kernel
theorem d_M_atLast_24 : decode b_M_atLast 24 = .ok (.iadd, 1) := by decide +kernel
theorem d_M_atLast_25 : decode b_M_atLast 25 = .ok (.iaload, 1) := by decide +kernel
theorem d_M_atLast_26 : decode b_M_atLast 26 = .ok (.if_icmp .ge 22, 3) := by decide +kernel
theorem d_M_atLast_29 : decode b_M_atLast 29 = .ok (.aload_n 0, 1) := by decide +kernel
theorem d_M_atLast_30 : decode b_M_atLast 30 = .ok (.getfield 43, 3) := by decide +kernel
theorem d_M_atLast_33 : decode b_M_atLast 33 = .ok (.sipush 600, 3) := by decide +kernel
theorem d_M_atLast_36 : decode b_M_atLast 36 = .ok (.bipush 60, 2) := by decide +kernel
theorem d_M_atLast_38 : decode b_M_atLast 38 = .ok (.iload_n 1, 1) := by decide +kernel
theorem d_M_atLast_39 : decode b_M_atLast 39 = .ok (.imul, 1) := by decide +kernel
theorem d_M_atLast_40 : decode b_M_atLast 40 = .ok (.iadd, 1) := by decide +kernel
theorem d_M_atLast_41 : decode b_M_atLast 41 = .ok (.iload_n 2, 1) := by decide +kernel
theorem d_M_atLast_42 : decode b_M_atLast 42 = .ok (.iadd, 1) := by decide +kernel
theorem d_M_atLast_43 : decode b_M_atLast 43 = .ok (.iaload, 1) := by decide +kernel
theorem d_M_atLast_44 : decode b_M_atLast 44 = .ok (.i2l, 1) := by decide +kernel
theorem d_M_atLast_45 : decode b_M_atLast 45 = .ok (.goto 6, 3) := by decide +kernel
theorem d_M_atLast_48 : decode b_M_atLast 48 = .ok (.ldc2_w 103, 3) := by decide +kernel
theorem d_M_atLast_51 : decode b_M_atLast 51 = .ok (.lreturn, 1) := by decide +kernel
theorem d_M_actedAtLast_0 : decode b_M_actedAtLast 0 = .ok (.aload_n 0, 1) := by decide +kernel
theorem d_M_actedAtLast_1 : decode b_M_actedAtLast 1 = .ok (.invokevirtual 108, 3) := by decide +kernel
theorem d_M_actedAtLast_4 : decode b_M_actedAtLast 4 = .ok (.aload_n 0, 1) := by decide +kernel
theorem d_M_actedAtLast_5 : decode b_M_actedAtLast 5 = .ok (.iload_n 1, 1) := by decide +kernel
theorem d_M_actedAtLast_6 : decode b_M_actedAtLast 6 = .ok (.invokevirtual 56, 3) := by decide +kernel
theorem d_M_actedAtLast_9 : decode b_M_actedAtLast 9 = .ok (.ifCond .eq 15, 3) := by decide +kernel
theorem d_M_actedAtLast_12 : decode b_M_actedAtLast 12 = .ok (.aload_n 0, 1) := by decide +kernel
theorem d_M_actedAtLast_13 : decode b_M_actedAtLast 13 = .ok (.getfield 34, 3) := by decide +kernel
theorem d_M_actedAtLast_16 : decode b_M_actedAtLast 16 = .ok (.bipush 10, 2) := by decide +kernel
theorem d_M_actedAtLast_18 : decode b_M_actedAtLast 18 = .ok (.iload_n 1, 1) := by decide +kernel
theorem d_M_actedAtLast_19 : decode b_M_actedAtLast 19 = .ok (.iadd, 1) := by decide +kernel
theorem d_M_actedAtLast_20 : decode b_M_actedAtLast 20 = .ok (.iaload, 1) := by decide +kernel
theorem d_M_actedAtLast_21 : decode b_M_actedAtLast 21 = .ok (.goto 4, 3) := by decide +kernel
theorem d_M_actedAtLast_24 : decode b_M_actedAtLast 24 = .ok (.iconst (-1), 1) := by decide +kernel
theorem d_M_actedAtLast_25 : decode b_M_actedAtLast 25 = .ok (.ireturn, 1) := by decide +kernel
theorem d_M_fullAtLast_0 : decode b_M_fullAtLast 0 = .ok (.aload_n 0, 1) := by decide +kernel
theorem d_M_fullAtLast_1 : decode b_M_fullAtLast 1 = .ok (.invokevirtual 108, 3) := by decide +kernel
theorem d_M_fullAtLast_4 : decode b_M_fullAtLast 4 = .ok (.iconst 0, 1) := by decide +kernel
theorem d_M_fullAtLast_5 : decode b_M_fullAtLast 5 = .ok (.istore_n 2, 1) := by decide +kernel
theorem d_M_fullAtLast_6 : decode b_M_fullAtLast 6 = .ok (.iconst 0, 1) := by decide +kernel
theorem d_M_fullAtLast_7 : decode b_M_fullAtLast 7 = .ok (.istore_n 3, 1) := by decide +kernel
theorem d_M_fullAtLast_8 : decode b_M_fullAtLast 8 = .ok (.iload_n 3, 1) := by decide +kernel
theorem d_M_fullAtLast_9 : decode b_M_fullAtLast 9 = .ok (.aload_n 0, 1) := by decide +kernel
theorem d_M_fullAtLast_10 : decode b_M_fullAtLast 10 = .ok (.getfield 60, 3) := by decide +kernel
theorem d_M_fullAtLast_13 : decode b_M_fullAtLast 13 = .ok (.if_icmp .ge 59, 3) := by decide +kernel
theorem d_M_fullAtLast_16 : decode b_M_fullAtLast 16 = .ok (.aload_n 0, 1) := by decide +kernel
theorem d_M_fullAtLast_17 : decode b_M_fullAtLast 17 = .ok (.getfield 46, 3) := by decide +kernel
theorem d_M_fullAtLast_20 : decode b_M_fullAtLast 20 = .ok (.bipush 16, 2) := by decide +kernel
theorem d_M_fullAtLast_22 : decode b_M_fullAtLast 22 = .ok (.iload_n 3, 1) := by decide +kernel
theorem d_M_fullAtLast_23 : decode b_M_fullAtLast 23 = .ok (.iadd, 1) := by decide +kernel
theorem d_M_fullAtLast_24 : decode b_M_fullAtLast 24 = .ok (.iaload, 1) := by decide +kernel
theorem d_M_fullAtLast_25 : decode b_M_fullAtLast 25 = .ok (.aload_n 0, 1) := by decide +kernel
theorem d_M_fullAtLast_26 : decode b_M_fullAtLast 26 = .ok (.getfield 25, 3) := by decide +kernel
theorem d_M_fullAtLast_29 : decode b_M_fullAtLast 29 = .ok (.iload_n 3, 1) := by decide +kernel
theorem d_M_fullAtLast_30 : decode b_M_fullAtLast 30 = .ok (.iaload, 1) := by decide +kernel
theorem d_M_fullAtLast_31 : decode b_M_fullAtLast 31 = .ok (.if_icmp .ne 7, 3) := by decide +kernel
theorem d_M_fullAtLast_34 : decode b_M_fullAtLast 34 = .ok (.iconst 1, 1) := by decide +kernel
theorem d_M_fullAtLast_35 : decode b_M_fullAtLast 35 = .ok (.goto 4, 3) := by decide +kernel
theorem d_M_fullAtLast_38 : decode b_M_fullAtLast 38 = .ok (.iconst 0, 1) := by decide +kernel
theorem d_M_fullAtLast_39 : decode b_M_fullAtLast 39 = .ok (.istore 4, 2) := by decide +kernel
theorem d_M_fullAtLast_41 : decode b_M_fullAtLast 41 = .ok (.iload 4, 2) := by decide +kernel
theorem d_M_fullAtLast_43 : decode b_M_fullAtLast 43 = .ok (.ifCond .eq 10, 3) := by decide +kernel
theorem d_M_fullAtLast_46 : decode b_M_fullAtLast 46 = .ok (.iload_n 2, 1) := by decide +kernel
theorem d_M_fullAtLast_47 : decode b_M_fullAtLast 47 = .ok (.iload_n 1, 1) := by decide +kernel
theorem d_M_fullAtLast_48 : decode b_M_fullAtLast 48 = .ok (.if_icmp .ne 5, 3) := by decide +kernel
theorem d_M_fullAtLast_51 : decode b_M_fullAtLast 51 = .ok (.iload_n 3, 1) := by decide +kernel
theorem d_M_fullAtLast_52 : decode b_M_fullAtLast 52 = .ok (.ireturn, 1) := by decide +kernel
theorem d_M_fullAtLast_53 : decode b_M_fullAtLast 53 = .ok (.iload_n 2, 1) := by decide +kernel
theorem d_M_fullAtLast_54 : decode b_M_fullAtLast 54 = .ok (.iload 4, 2) := by decide +kernel
theorem d_M_fullAtLast_56 : decode b_M_fullAtLast 56 = .ok (.ifCond .eq 7, 3) := by decide +kernel
theorem d_M_fullAtLast_59 : decode b_M_fullAtLast 59 = .ok (.iconst 1, 1) := by decide +kernel
theorem d_M_fullAtLast_60 : decode b_M_fullAtLast 60 = .ok (.goto 4, 3) := by decide +kernel
theorem d_M_fullAtLast_63 : decode b_M_fullAtLast 63 = .ok (.iconst 0, 1) := by decide +kernel
theorem d_M_fullAtLast_64 : decode b_M_fullAtLast 64 = .ok (.iadd, 1) := by decide +kernel
theorem d_M_fullAtLast_65 : decode b_M_fullAtLast 65 = .ok (.istore_n 2, 1) := by decide +kernel
theorem d_M_fullAtLast_66 : decode b_M_fullAtLast 66 = .ok (.iinc 3 1, 3) := by decide +kernel
theorem d_M_fullAtLast_69 : decode b_M_fullAtLast 69 = .ok (.goto (-61), 3) := by decide +kernel
theorem d_M_fullAtLast_72 : decode b_M_fullAtLast 72 = .ok (.iconst (-1), 1) := by decide +kernel
theorem d_M_fullAtLast_73 : decode b_M_fullAtLast 73 = .ok (.ireturn, 1) := by decide +kernel
