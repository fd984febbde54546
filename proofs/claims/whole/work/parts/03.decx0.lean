theorem dX0_weight_0 : decode cX0_weight 0 = .ok (.iload_n 1, 1) := by decide +kernel
theorem dX0_weight_1 : decode cX0_weight 1 = .ok (.invokestatic 32, 3) := by decide +kernel
theorem dX0_weight_4 : decode cX0_weight 4 = .ok (.iload_n 2, 1) := by decide +kernel
theorem dX0_weight_5 : decode cX0_weight 5 = .ok (.ifCond .lt 9, 3) := by decide +kernel
theorem dX0_weight_8 : decode cX0_weight 8 = .ok (.iload_n 2, 1) := by decide +kernel
theorem dX0_weight_9 : decode cX0_weight 9 = .ok (.bipush 50, 2) := by decide +kernel
theorem dX0_weight_11 : decode cX0_weight 11 = .ok (.if_icmp .le 13, 3) := by decide +kernel
theorem dX0_weight_14 : decode cX0_weight 14 = .ok (.new 36, 3) := by decide +kernel
theorem dX0_weight_17 : decode cX0_weight 17 = .ok (.dup, 1) := by decide +kernel
theorem dX0_weight_18 : decode cX0_weight 18 = .ok (.ldc 38, 2) := by decide +kernel
theorem dX0_weight_20 : decode cX0_weight 20 = .ok (.invokespecial 40, 3) := by decide +kernel
theorem dX0_weight_23 : decode cX0_weight 23 = .ok (.athrow, 1) := by decide +kernel
theorem dX0_weight_24 : decode cX0_weight 24 = .ok (.aload_n 0, 1) := by decide +kernel
theorem dX0_weight_25 : decode cX0_weight 25 = .ok (.getfield 9, 3) := by decide +kernel
theorem dX0_weight_28 : decode cX0_weight 28 = .ok (.iload_n 1, 1) := by decide +kernel
theorem dX0_weight_29 : decode cX0_weight 29 = .ok (.iaload, 1) := by decide +kernel
theorem dX0_weight_30 : decode cX0_weight 30 = .ok (.istore_n 3, 1) := by decide +kernel
theorem dX0_weight_31 : decode cX0_weight 31 = .ok (.aload_n 0, 1) := by decide +kernel
theorem dX0_weight_32 : decode cX0_weight 32 = .ok (.getfield 9, 3) := by decide +kernel
theorem dX0_weight_35 : decode cX0_weight 35 = .ok (.iload_n 1, 1) := by decide +kernel
theorem dX0_weight_36 : decode cX0_weight 36 = .ok (.iload_n 2, 1) := by decide +kernel
theorem dX0_weight_37 : decode cX0_weight 37 = .ok (.iastore, 1) := by decide +kernel
theorem dX0_weight_38 : decode cX0_weight 38 = .ok (.iload_n 3, 1) := by decide +kernel
theorem dX0_weight_39 : decode cX0_weight 39 = .ok (.ireturn, 1) := by decide +kernel
theorem dX0_need_0 : decode cX0_need 0 = .ok (.iload_n 1, 1) := by decide +kernel
theorem dX0_need_1 : decode cX0_need 1 = .ok (.iconst 1, 1) := by decide +kernel
theorem dX0_need_2 : decode cX0_need 2 = .ok (.if_icmp .lt 10, 3) := by decide +kernel
theorem dX0_need_5 : decode cX0_need 5 = .ok (.iload_n 1, 1) := by decide +kernel
theorem dX0_need_6 : decode cX0_need 6 = .ok (.sipush 500, 3) := by decide +kernel
theorem dX0_need_9 : decode cX0_need 9 = .ok (.if_icmp .le 13, 3) := by decide +kernel
theorem dX0_need_12 : decode cX0_need 12 = .ok (.new 36, 3) := by decide +kernel
theorem dX0_need_15 : decode cX0_need 15 = .ok (.dup, 1) := by decide +kernel
theorem dX0_need_16 : decode cX0_need 16 = .ok (.ldc 43, 2) := by decide +kernel
theorem dX0_need_18 : decode cX0_need 18 = .ok (.invokespecial 40, 3) := by decide +kernel
theorem dX0_need_21 : decode cX0_need 21 = .ok (.athrow, 1) := by decide +kernel
theorem dX0_need_22 : decode cX0_need 22 = .ok (.aload_n 0, 1) := by decide +kernel
theorem dX0_need_23 : decode cX0_need 23 = .ok (.getfield 22, 3) := by decide +kernel
theorem dX0_need_26 : decode cX0_need 26 = .ok (.istore_n 2, 1) := by decide +kernel
theorem dX0_need_27 : decode cX0_need 27 = .ok (.aload_n 0, 1) := by decide +kernel
theorem dX0_need_28 : decode cX0_need 28 = .ok (.iload_n 1, 1) := by decide +kernel
theorem dX0_need_29 : decode cX0_need 29 = .ok (.putfield 22, 3) := by decide +kernel
theorem dX0_need_32 : decode cX0_need 32 = .ok (.iload_n 2, 1) := by decide +kernel
theorem dX0_need_33 : decode cX0_need 33 = .ok (.ireturn, 1) := by decide +kernel
theorem dX0_promise_0 : decode cX0_promise 0 = .ok (.iload_n 1, 1) := by decide +kernel
theorem dX0_promise_1 : decode cX0_promise 1 = .ok (.invokestatic 32, 3) := by decide +kernel
theorem dX0_promise_4 : decode cX0_promise 4 = .ok (.iload_n 2, 1) := by decide +kernel
theorem dX0_promise_5 : decode cX0_promise 5 = .ok (.invokestatic 45, 3) := by decide +kernel
theorem dX0_promise_8 : decode cX0_promise 8 = .ok (.aload_n 0, 1) := by decide +kernel
theorem dX0_promise_9 : decode cX0_promise 9 = .ok (.getfield 13, 3) := by decide +kernel
theorem dX0_promise_12 : decode cX0_promise 12 = .ok (.iload_n 1, 1) := by decide +kernel
theorem dX0_promise_13 : decode cX0_promise 13 = .ok (.iaload, 1) := by decide +kernel
theorem dX0_promise_14 : decode cX0_promise 14 = .ok (.istore_n 3, 1) := by decide +kernel
theorem dX0_promise_15 : decode cX0_promise 15 = .ok (.iload_n 3, 1) := by decide +kernel
theorem dX0_promise_16 : decode cX0_promise 16 = .ok (.iload_n 2, 1) := by decide +kernel
theorem dX0_promise_17 : decode cX0_promise 17 = .ok (.if_icmp .le 13, 3) := by decide +kernel
theorem dX0_promise_20 : decode cX0_promise 20 = .ok (.new 48, 3) := by decide +kernel
theorem dX0_promise_23 : decode cX0_promise 23 = .ok (.dup, 1) := by decide +kernel
theorem dX0_promise_24 : decode cX0_promise 24 = .ok (.ldc 50, 2) := by decide +kernel
theorem dX0_promise_26 : decode cX0_promise 26 = .ok (.invokespecial 52, 3) := by decide +kernel
theorem dX0_promise_29 : decode cX0_promise 29 = .ok (.athrow, 1) := by decide +kernel
theorem dX0_promise_30 : decode cX0_promise 30 = .ok (.aload_n 0, 1) := by decide +kernel
theorem dX0_promise_31 : decode cX0_promise 31 = .ok (.getfield 13, 3) := by decide +kernel
theorem dX0_promise_34 : decode cX0_promise 34 = .ok (.iload_n 1, 1) := by decide +kernel
theorem dX0_promise_35 : decode cX0_promise 35 = .ok (.iload_n 2, 1) := by decide +kernel
theorem dX0_promise_36 : decode cX0_promise 36 = .ok (.iastore, 1) := by decide +kernel
theorem dX0_promise_37 : decode cX0_promise 37 = .ok (.iload_n 3, 1) := by decide +kernel
theorem dX0_promise_38 : decode cX0_promise 38 = .ok (.ireturn, 1) := by decide +kernel
theorem dX0_vote_0 : decode cX0_vote 0 = .ok (.iload_n 1, 1) := by decide +kernel
theorem dX0_vote_1 : decode cX0_vote 1 = .ok (.invokestatic 32, 3) := by decide +kernel
theorem dX0_vote_4 : decode cX0_vote 4 = .ok (.iload_n 2, 1) := by decide +kernel
theorem dX0_vote_5 : decode cX0_vote 5 = .ok (.invokestatic 45, 3) := by decide +kernel
theorem dX0_vote_8 : decode cX0_vote 8 = .ok (.iload_n 3, 1) := by decide +kernel
theorem dX0_vote_9 : decode cX0_vote 9 = .ok (.invokestatic 53, 3) := by decide +kernel
theorem dX0_vote_12 : decode cX0_vote 12 = .ok (.aload_n 0, 1) := by decide +kernel
theorem dX0_vote_13 : decode cX0_vote 13 = .ok (.iload_n 1, 1) := by decide +kernel
theorem dX0_vote_14 : decode cX0_vote 14 = .ok (.iload_n 2, 1) := by decide +kernel
theorem dX0_vote_15 : decode cX0_vote 15 = .ok (.invokevirtual 56, 3) := by decide +kernel
theorem dX0_vote_18 : decode cX0_vote 18 = .ok (.ifCond .ne 13, 3) := by decide +kernel
theorem dX0_vote_21 : decode cX0_vote 21 = .ok (.new 48, 3) := by decide +kernel
theorem dX0_vote_24 : decode cX0_vote 24 = .ok (.dup, 1) := by decide +kernel
theorem dX0_vote_25 : decode cX0_vote 25 = .ok (.ldc 60, 2) := by decide +kernel
theorem dX0_vote_27 : decode cX0_vote 27 = .ok (.invokespecial 52, 3) := by decide +kernel
theorem dX0_vote_30 : decode cX0_vote 30 = .ok (.athrow, 1) := by decide +kernel
theorem dX0_vote_31 : decode cX0_vote 31 = .ok (.aload_n 0, 1) := by decide +kernel
theorem dX0_vote_32 : decode cX0_vote 32 = .ok (.iload_n 2, 1) := by decide +kernel
theorem dX0_vote_33 : decode cX0_vote 33 = .ok (.iload_n 3, 1) := by decide +kernel
theorem dX0_vote_34 : decode cX0_vote 34 = .ok (.invokevirtual 62, 3) := by decide +kernel
theorem dX0_vote_37 : decode cX0_vote 37 = .ok (.ifCond .ne 13, 3) := by decide +kernel
theorem dX0_vote_40 : decode cX0_vote 40 = .ok (.new 48, 3) := by decide +kernel
theorem dX0_vote_43 : decode cX0_vote 43 = .ok (.dup, 1) := by decide +kernel
theorem dX0_vote_44 : decode cX0_vote 44 = .ok (.ldc 65, 2) := by decide +kernel
theorem dX0_vote_46 : decode cX0_vote 46 = .ok (.invokespecial 52, 3) := by decide +kernel
theorem dX0_vote_49 : decode cX0_vote 49 = .ok (.athrow, 1) := by decide +kernel
theorem dX0_vote_50 : decode cX0_vote 50 = .ok (.aload_n 0, 1) := by decide +kernel
theorem dX0_vote_51 : decode cX0_vote 51 = .ok (.getfield 13, 3) := by decide +kernel
theorem dX0_vote_54 : decode cX0_vote 54 = .ok (.iload_n 1, 1) := by decide +kernel
theorem dX0_vote_55 : decode cX0_vote 55 = .ok (.iload_n 2, 1) := by decide +kernel
theorem dX0_vote_56 : decode cX0_vote 56 = .ok (.iastore, 1) := by decide +kernel
theorem dX0_vote_57 : decode cX0_vote 57 = .ok (.aload_n 0, 1) := by decide +kernel
theorem dX0_vote_58 : decode cX0_vote 58 = .ok (.getfield 19, 3) := by decide +kernel
theorem dX0_vote_61 : decode cX0_vote 61 = .ok (.iload_n 2, 1) := by decide +kernel
theorem dX0_vote_62 : decode cX0_vote 62 = .ok (.iload_n 3, 1) := by decide +kernel
theorem dX0_vote_63 : decode cX0_vote 63 = .ok (.iastore, 1) := by decide +kernel
theorem dX0_vote_64 : decode cX0_vote 64 = .ok (.aload_n 0, 1) := by decide +kernel
theorem dX0_vote_65 : decode cX0_vote 65 = .ok (.getfield 16, 3) := by decide +kernel
theorem dX0_vote_68 : decode cX0_vote 68 = .ok (.iload_n 2, 1) := by decide +kernel
theorem dX0_vote_69 : decode cX0_vote 69 = .ok (.dup2, 1) := by decide +kernel
theorem dX0_vote_70 : decode cX0_vote 70 = .ok (.iaload, 1) := by decide +kernel
theorem dX0_vote_71 : decode cX0_vote 71 = .ok (.iconst 1, 1) := by decide +kernel
theorem dX0_vote_72 : decode cX0_vote 72 = .ok (.iload_n 1, 1) := by decide +kernel
theorem dX0_vote_73 : decode cX0_vote 73 = .ok (.ishl, 1) := by decide +kernel
theorem dX0_vote_74 : decode cX0_vote 74 = .ok (.ior, 1) := by decide +kernel
theorem dX0_vote_75 : decode cX0_vote 75 = .ok (.iastore, 1) := by decide +kernel
theorem dX0_vote_76 : decode cX0_vote 76 = .ok (.aload_n 0, 1) := by decide +kernel
theorem dX0_vote_77 : decode cX0_vote 77 = .ok (.getfield 16, 3) := by decide +kernel
theorem dX0_vote_80 : decode cX0_vote 80 = .ok (.iload_n 2, 1) := by decide +kernel
theorem dX0_vote_81 : decode cX0_vote 81 = .ok (.iaload, 1) := by decide +kernel
theorem dX0_vote_82 : decode cX0_vote 82 = .ok (.invokestatic 67, 3) := by decide +kernel
theorem dX0_vote_85 : decode cX0_vote 85 = .ok (.ireturn, 1) := by decide +kernel
theorem dX0_ask_0 : decode cX0_ask 0 = .ok (.iload_n 1, 1) := by decide +kernel
theorem dX0_ask_1 : decode cX0_ask 1 = .ok (.invokestatic 73, 3) := by decide +kernel
theorem dX0_ask_4 : decode cX0_ask 4 = .ok (.iload_n 2, 1) := by decide +kernel
theorem dX0_ask_5 : decode cX0_ask 5 = .ok (.invokestatic 45, 3) := by decide +kernel
theorem dX0_ask_8 : decode cX0_ask 8 = .ok (.aload_n 0, 1) := by decide +kernel
theorem dX0_ask_9 : decode cX0_ask 9 = .ok (.iload_n 1, 1) := by decide +kernel
theorem dX0_ask_10 : decode cX0_ask 10 = .ok (.invokevirtual 76, 3) := by decide +kernel
theorem dX0_ask_13 : decode cX0_ask 13 = .ok (.ifCond .ne 13, 3) := by decide +kernel
theorem dX0_ask_16 : decode cX0_ask 16 = .ok (.new 48, 3) := by decide +kernel
theorem dX0_ask_19 : decode cX0_ask 19 = .ok (.dup, 1) := by decide +kernel
theorem dX0_ask_20 : decode cX0_ask 20 = .ok (.ldc 80, 2) := by decide +kernel
theorem dX0_ask_22 : decode cX0_ask 22 = .ok (.invokespecial 52, 3) := by decide +kernel
theorem dX0_ask_25 : decode cX0_ask 25 = .ok (.athrow, 1) := by decide +kernel
theorem dX0_ask_26 : decode cX0_ask 26 = .ok (.aload_n 0, 1) := by decide +kernel
theorem dX0_ask_27 : decode cX0_ask 27 = .ok (.iload_n 1, 1) := by decide +kernel
theorem dX0_ask_28 : decode cX0_ask 28 = .ok (.invokevirtual 82, 3) := by decide +kernel
theorem dX0_ask_31 : decode cX0_ask 31 = .ok (.iload_n 2, 1) := by decide +kernel
theorem dX0_ask_32 : decode cX0_ask 32 = .ok (.if_icmp .le 13, 3) := by decide +kernel
theorem dX0_ask_35 : decode cX0_ask 35 = .ok (.new 48, 3) := by decide +kernel
theorem dX0_ask_38 : decode cX0_ask 38 = .ok (.dup, 1) := by decide +kernel
theorem dX0_ask_39 : decode cX0_ask 39 = .ok (.ldc 85, 2) := by decide +kernel
theorem dX0_ask_41 : decode cX0_ask 41 = .ok (.invokespecial 52, 3) := by decide +kernel
theorem dX0_ask_44 : decode cX0_ask 44 = .ok (.athrow, 1) := by decide +kernel
theorem dX0_ask_45 : decode cX0_ask 45 = .ok (.aload_n 0, 1) := by decide +kernel
theorem dX0_ask_46 : decode cX0_ask 46 = .ok (.iload_n 1, 1) := by decide +kernel
theorem dX0_ask_47 : decode cX0_ask 47 = .ok (.iload_n 2, 1) := by decide +kernel
theorem dX0_ask_48 : decode cX0_ask 48 = .ok (.invokevirtual 87, 3) := by decide +kernel
theorem dX0_ask_51 : decode cX0_ask 51 = .ok (.aload_n 0, 1) := by decide +kernel
theorem dX0_ask_52 : decode cX0_ask 52 = .ok (.iload_n 2, 1) := by decide +kernel
theorem dX0_ask_53 : decode cX0_ask 53 = .ok (.iload_n 1, 1) := by decide +kernel
theorem dX0_ask_54 : decode cX0_ask 54 = .ok (.invokevirtual 91, 3) := by decide +kernel
theorem dX0_ask_57 : decode cX0_ask 57 = .ok (.istore_n 3, 1) := by decide +kernel
theorem dX0_ask_58 : decode cX0_ask 58 = .ok (.iload_n 3, 1) := by decide +kernel
theorem dX0_ask_59 : decode cX0_ask 59 = .ok (.iconst (-1), 1) := by decide +kernel
theorem dX0_ask_60 : decode cX0_ask 60 = .ok (.if_icmp .ne 7, 3) := by decide +kernel
theorem dX0_ask_63 : decode cX0_ask 63 = .ok (.iconst (-1), 1) := by decide +kernel
theorem dX0_ask_64 : decode cX0_ask 64 = .ok (.goto 9, 3) := by decide +kernel
theorem dX0_ask_67 : decode cX0_ask 67 = .ok (.aload_n 0, 1) := by decide +kernel
theorem dX0_ask_68 : decode cX0_ask 68 = .ok (.getfield 19, 3) := by decide +kernel
theorem dX0_ask_71 : decode cX0_ask 71 = .ok (.iload_n 3, 1) := by decide +kernel
theorem dX0_ask_72 : decode cX0_ask 72 = .ok (.iaload, 1) := by decide +kernel
theorem dX0_ask_73 : decode cX0_ask 73 = .ok (.ireturn, 1) := by decide +kernel
theorem dX0_chosen_0 : decode cX0_chosen 0 = .ok (.iload_n 1, 1) := by decide +kernel
theorem dX0_chosen_1 : decode cX0_chosen 1 = .ok (.invokestatic 45, 3) := by decide +kernel
theorem dX0_chosen_4 : decode cX0_chosen 4 = .ok (.aload_n 0, 1) := by decide +kernel
theorem dX0_chosen_5 : decode cX0_chosen 5 = .ok (.iload_n 1, 1) := by decide +kernel
theorem dX0_chosen_6 : decode cX0_chosen 6 = .ok (.invokevirtual 95, 3) := by decide +kernel
theorem dX0_chosen_9 : decode cX0_chosen 9 = .ok (.ireturn, 1) := by decide +kernel
theorem dX0_can_0 : decode cX0_can 0 = .ok (.iload_n 1, 1) := by decide +kernel
theorem dX0_can_1 : decode cX0_can 1 = .ok (.invokestatic 45, 3) := by decide +kernel
theorem dX0_can_4 : decode cX0_can 4 = .ok (.iload_n 2, 1) := by decide +kernel
theorem dX0_can_5 : decode cX0_can 5 = .ok (.invokestatic 53, 3) := by decide +kernel
theorem dX0_can_8 : decode cX0_can 8 = .ok (.aload_n 0, 1) := by decide +kernel
theorem dX0_can_9 : decode cX0_can 9 = .ok (.iload_n 1, 1) := by decide +kernel
theorem dX0_can_10 : decode cX0_can 10 = .ok (.iload_n 2, 1) := by decide +kernel
theorem dX0_can_11 : decode cX0_can 11 = .ok (.invokevirtual 62, 3) := by decide +kernel
theorem dX0_can_14 : decode cX0_can 14 = .ok (.ifCond .eq 15, 3) := by decide +kernel
theorem dX0_can_17 : decode cX0_can 17 = .ok (.aload_n 0, 1) := by decide +kernel
theorem dX0_can_18 : decode cX0_can 18 = .ok (.iload_n 1, 1) := by decide +kernel
theorem dX0_can_19 : decode cX0_can 19 = .ok (.invokevirtual 98, 3) := by decide +kernel
theorem dX0_can_22 : decode cX0_can 22 = .ok (.ifCond .eq 7, 3) := by decide +kernel
theorem dX0_can_25 : decode cX0_can 25 = .ok (.iconst 1, 1) := by decide +kernel
theorem dX0_can_26 : decode cX0_can 26 = .ok (.goto 4, 3) := by decide +kernel
theorem dX0_can_29 : decode cX0_can 29 = .ok (.iconst 0, 1) := by decide +kernel
theorem dX0_can_30 : decode cX0_can 30 = .ok (.ireturn, 1) := by decide +kernel
theorem dX0_safe_0 : decode cX0_safe 0 = .ok (.iload_n 1, 1) := by decide +kernel
theorem dX0_safe_1 : decode cX0_safe 1 = .ok (.invokestatic 45, 3) := by decide +kernel
theorem dX0_safe_4 : decode cX0_safe 4 = .ok (.iload_n 2, 1) := by decide +kernel
theorem dX0_safe_5 : decode cX0_safe 5 = .ok (.invokestatic 53, 3) := by decide +kernel
theorem dX0_safe_8 : decode cX0_safe 8 = .ok (.aload_n 0, 1) := by decide +kernel
theorem dX0_safe_9 : decode cX0_safe 9 = .ok (.iload_n 1, 1) := by decide +kernel
theorem dX0_safe_10 : decode cX0_safe 10 = .ok (.iload_n 2, 1) := by decide +kernel
theorem dX0_safe_11 : decode cX0_safe 11 = .ok (.invokevirtual 101, 3) := by decide +kernel
theorem dX0_safe_14 : decode cX0_safe 14 = .ok (.ireturn, 1) := by decide +kernel
theorem dX0_free_0 : decode cX0_free 0 = .ok (.iload_n 1, 1) := by decide +kernel
theorem dX0_free_1 : decode cX0_free 1 = .ok (.invokestatic 45, 3) := by decide +kernel
theorem dX0_free_4 : decode cX0_free 4 = .ok (.iconst 0, 1) := by decide +kernel
theorem dX0_free_5 : decode cX0_free 5 = .ok (.istore_n 2, 1) := by decide +kernel
theorem dX0_free_6 : decode cX0_free 6 = .ok (.iconst 0, 1) := by decide +kernel
theorem dX0_free_7 : decode cX0_free 7 = .ok (.istore_n 3, 1) := by decide +kernel
theorem dX0_free_8 : decode cX0_free 8 = .ok (.iload_n 3, 1) := by decide +kernel
theorem dX0_free_9 : decode cX0_free 9 = .ok (.bipush 10, 2) := by decide +kernel
theorem dX0_free_11 : decode cX0_free 11 = .ok (.if_icmp .ge 21, 3) := by decide +kernel
theorem dX0_free_14 : decode cX0_free 14 = .ok (.aload_n 0, 1) := by decide +kernel
theorem dX0_free_15 : decode cX0_free 15 = .ok (.iload_n 1, 1) := by decide +kernel
theorem dX0_free_16 : decode cX0_free 16 = .ok (.iload_n 3, 1) := by decide +kernel
theorem dX0_free_17 : decode cX0_free 17 = .ok (.invokevirtual 101, 3) := by decide +kernel
theorem dX0_free_20 : decode cX0_free 20 = .ok (.ifCond .eq 6, 3) := by decide +kernel
theorem dX0_free_23 : decode cX0_free 23 = .ok (.iinc 2 1, 3) := by decide +kernel
theorem dX0_free_26 : decode cX0_free 26 = .ok (.iinc 3 1, 3) := by decide +kernel
theorem dX0_free_29 : decode cX0_free 29 = .ok (.goto (-21), 3) := by decide +kernel
theorem dX0_free_32 : decode cX0_free 32 = .ok (.iload_n 2, 1) := by decide +kernel
theorem dX0_free_33 : decode cX0_free 33 = .ok (.ireturn, 1) := by decide +kernel
theorem dX0_enough_0 : decode cX0_enough 0 = .ok (.iload_n 1, 1) := by decide +kernel
theorem dX0_enough_1 : decode cX0_enough 1 = .ok (.invokestatic 73, 3) := by decide +kernel
theorem dX0_enough_4 : decode cX0_enough 4 = .ok (.aload_n 0, 1) := by decide +kernel
theorem dX0_enough_5 : decode cX0_enough 5 = .ok (.iload_n 1, 1) := by decide +kernel
theorem dX0_enough_6 : decode cX0_enough 6 = .ok (.invokevirtual 76, 3) := by decide +kernel
theorem dX0_enough_9 : decode cX0_enough 9 = .ok (.ireturn, 1) := by decide +kernel
theorem dX0_blocks_0 : decode cX0_blocks 0 = .ok (.iload_n 1, 1) := by decide +kernel
theorem dX0_blocks_1 : decode cX0_blocks 1 = .ok (.invokestatic 73, 3) := by decide +kernel
theorem dX0_blocks_4 : decode cX0_blocks 4 = .ok (.aload_n 0, 1) := by decide +kernel
theorem dX0_blocks_5 : decode cX0_blocks 5 = .ok (.sipush 1023, 3) := by decide +kernel
theorem dX0_blocks_8 : decode cX0_blocks 8 = .ok (.iload_n 1, 1) := by decide +kernel
theorem dX0_blocks_9 : decode cX0_blocks 9 = .ok (.iconst (-1), 1) := by decide +kernel
theorem dX0_blocks_10 : decode cX0_blocks 10 = .ok (.ixor, 1) := by decide +kernel
theorem dX0_blocks_11 : decode cX0_blocks 11 = .ok (.iand, 1) := by decide +kernel
theorem dX0_blocks_12 : decode cX0_blocks 12 = .ok (.invokevirtual 76, 3) := by decide +kernel
theorem dX0_blocks_15 : decode cX0_blocks 15 = .ok (.ifCond .ne 7, 3) := by decide +kernel
theorem dX0_blocks_18 : decode cX0_blocks 18 = .ok (.iconst 1, 1) := by decide +kernel
theorem dX0_blocks_19 : decode cX0_blocks 19 = .ok (.goto 4, 3) := by decide +kernel
theorem dX0_blocks_22 : decode cX0_blocks 22 = .ok (.iconst 0, 1) := by decide +kernel
theorem dX0_blocks_23 : decode cX0_blocks 23 = .ok (.ireturn, 1) := by decide +kernel
theorem dX0_sets_0 : decode cX0_sets 0 = .ok (.iconst 0, 1) := by decide +kernel
theorem dX0_sets_1 : decode cX0_sets 1 = .ok (.istore_n 1, 1) := by decide +kernel
theorem dX0_sets_2 : decode cX0_sets 2 = .ok (.iconst 0, 1) := by decide +kernel
theorem dX0_sets_3 : decode cX0_sets 3 = .ok (.istore_n 2, 1) := by decide +kernel
theorem dX0_sets_4 : decode cX0_sets 4 = .ok (.iload_n 2, 1) := by decide +kernel
theorem dX0_sets_5 : decode cX0_sets 5 = .ok (.sipush 1024, 3) := by decide +kernel
theorem dX0_sets_8 : decode cX0_sets 8 = .ok (.if_icmp .ge 20, 3) := by decide +kernel
theorem dX0_sets_11 : decode cX0_sets 11 = .ok (.aload_n 0, 1) := by decide +kernel
theorem dX0_sets_12 : decode cX0_sets 12 = .ok (.iload_n 2, 1) := by decide +kernel
theorem dX0_sets_13 : decode cX0_sets 13 = .ok (.invokevirtual 76, 3) := by decide +kernel
theorem dX0_sets_16 : decode cX0_sets 16 = .ok (.ifCond .eq 6, 3) := by decide +kernel
theorem dX0_sets_19 : decode cX0_sets 19 = .ok (.iinc 1 1, 3) := by decide +kernel
theorem dX0_sets_22 : decode cX0_sets 22 = .ok (.iinc 2 1, 3) := by decide +kernel
theorem dX0_sets_25 : decode cX0_sets 25 = .ok (.goto (-21), 3) := by decide +kernel
theorem dX0_sets_28 : decode cX0_sets 28 = .ok (.iload_n 1, 1) := by decide +kernel
theorem dX0_sets_29 : decode cX0_sets 29 = .ok (.ireturn, 1) := by decide +kernel
theorem dX0_least_0 : decode cX0_least 0 = .ok (.iconst (-1), 1) := by decide +kernel
theorem dX0_least_1 : decode cX0_least 1 = .ok (.istore_n 1, 1) := by decide +kernel
theorem dX0_least_2 : decode cX0_least 2 = .ok (.iconst 0, 1) := by decide +kernel
theorem dX0_least_3 : decode cX0_least 3 = .ok (.istore_n 2, 1) := by decide +kernel
theorem dX0_least_4 : decode cX0_least 4 = .ok (.iload_n 2, 1) := by decide +kernel
theorem dX0_least_5 : decode cX0_least 5 = .ok (.sipush 1024, 3) := by decide +kernel
theorem dX0_least_8 : decode cX0_least 8 = .ok (.if_icmp .ge 34, 3) := by decide +kernel
theorem dX0_least_11 : decode cX0_least 11 = .ok (.iload_n 2, 1) := by decide +kernel
theorem dX0_least_12 : decode cX0_least 12 = .ok (.invokestatic 67, 3) := by decide +kernel
theorem dX0_least_15 : decode cX0_least 15 = .ok (.istore_n 3, 1) := by decide +kernel
theorem dX0_least_16 : decode cX0_least 16 = .ok (.iload_n 1, 1) := by decide +kernel
theorem dX0_least_17 : decode cX0_least 17 = .ok (.iconst (-1), 1) := by decide +kernel
theorem dX0_least_18 : decode cX0_least 18 = .ok (.if_icmp .eq 8, 3) := by decide +kernel
theorem dX0_least_21 : decode cX0_least 21 = .ok (.iload_n 3, 1) := by decide +kernel
theorem dX0_least_22 : decode cX0_least 22 = .ok (.iload_n 1, 1) := by decide +kernel
theorem dX0_least_23 : decode cX0_least 23 = .ok (.if_icmp .ge 13, 3) := by decide +kernel
theorem dX0_least_26 : decode cX0_least 26 = .ok (.aload_n 0, 1) := by decide +kernel
theorem dX0_least_27 : decode cX0_least 27 = .ok (.iload_n 2, 1) := by decide +kernel
theorem dX0_least_28 : decode cX0_least 28 = .ok (.invokevirtual 76, 3) := by decide +kernel
theorem dX0_least_31 : decode cX0_least 31 = .ok (.ifCond .eq 5, 3) := by decide +kernel
theorem dX0_least_34 : decode cX0_least 34 = .ok (.iload_n 3, 1) := by decide +kernel
theorem dX0_least_35 : decode cX0_least 35 = .ok (.istore_n 1, 1) := by decide +kernel
theorem dX0_least_36 : decode cX0_least 36 = .ok (.iinc 2 1, 3) := by decide +kernel
theorem dX0_least_39 : decode cX0_least 39 = .ok (.goto (-35), 3) := by decide +kernel
theorem dX0_least_42 : decode cX0_least 42 = .ok (.iload_n 1, 1) := by decide +kernel
theorem dX0_least_43 : decode cX0_least 43 = .ok (.ireturn, 1) := by decide +kernel
theorem dX0_meet_0 : decode cX0_meet 0 = .ok (.iconst 0, 1) := by decide +kernel
theorem dX0_meet_1 : decode cX0_meet 1 = .ok (.istore_n 1, 1) := by decide +kernel
theorem dX0_meet_2 : decode cX0_meet 2 = .ok (.iload_n 1, 1) := by decide +kernel
theorem dX0_meet_3 : decode cX0_meet 3 = .ok (.sipush 1024, 3) := by decide +kernel
theorem dX0_meet_6 : decode cX0_meet 6 = .ok (.if_icmp .ge 33, 3) := by decide +kernel
theorem dX0_meet_9 : decode cX0_meet 9 = .ok (.aload_n 0, 1) := by decide +kernel
theorem dX0_meet_10 : decode cX0_meet 10 = .ok (.iload_n 1, 1) := by decide +kernel
theorem dX0_meet_11 : decode cX0_meet 11 = .ok (.invokevirtual 76, 3) := by decide +kernel
theorem dX0_meet_14 : decode cX0_meet 14 = .ok (.ifCond .eq 19, 3) := by decide +kernel
theorem dX0_meet_17 : decode cX0_meet 17 = .ok (.aload_n 0, 1) := by decide +kernel
theorem dX0_meet_18 : decode cX0_meet 18 = .ok (.sipush 1023, 3) := by decide +kernel
theorem dX0_meet_21 : decode cX0_meet 21 = .ok (.iload_n 1, 1) := by decide +kernel
theorem dX0_meet_22 : decode cX0_meet 22 = .ok (.iconst (-1), 1) := by decide +kernel
theorem dX0_meet_23 : decode cX0_meet 23 = .ok (.ixor, 1) := by decide +kernel
theorem dX0_meet_24 : decode cX0_meet 24 = .ok (.iand, 1) := by decide +kernel
theorem dX0_meet_25 : decode cX0_meet 25 = .ok (.invokevirtual 76, 3) := by decide +kernel
theorem dX0_meet_28 : decode cX0_meet 28 = .ok (.ifCond .eq 5, 3) := by decide +kernel
theorem dX0_meet_31 : decode cX0_meet 31 = .ok (.iconst 0, 1) := by decide +kernel
theorem dX0_meet_32 : decode cX0_meet 32 = .ok (.ireturn, 1) := by decide +kernel
theorem dX0_meet_33 : decode cX0_meet 33 = .ok (.iinc 1 1, 3) := by decide +kernel
theorem dX0_meet_36 : decode cX0_meet 36 = .ok (.goto (-34), 3) := by decide +kernel
theorem dX0_meet_39 : decode cX0_meet 39 = .ok (.iconst 1, 1) := by decide +kernel
theorem dX0_meet_40 : decode cX0_meet 40 = .ok (.ireturn, 1) := by decide +kernel
theorem dX0_bare_0 : decode cX0_bare 0 = .ok (.iconst 0, 1) := by decide +kernel
theorem dX0_bare_1 : decode cX0_bare 1 = .ok (.istore_n 1, 1) := by decide +kernel
theorem dX0_bare_2 : decode cX0_bare 2 = .ok (.iconst 0, 1) := by decide +kernel
theorem dX0_bare_3 : decode cX0_bare 3 = .ok (.istore_n 2, 1) := by decide +kernel
theorem dX0_bare_4 : decode cX0_bare 4 = .ok (.iload_n 2, 1) := by decide +kernel
theorem dX0_bare_5 : decode cX0_bare 5 = .ok (.sipush 1024, 3) := by decide +kernel
theorem dX0_bare_8 : decode cX0_bare 8 = .ok (.if_icmp .ge 20, 3) := by decide +kernel
theorem dX0_bare_11 : decode cX0_bare 11 = .ok (.aload_n 0, 1) := by decide +kernel
theorem dX0_bare_12 : decode cX0_bare 12 = .ok (.iload_n 2, 1) := by decide +kernel
theorem dX0_bare_13 : decode cX0_bare 13 = .ok (.invokevirtual 104, 3) := by decide +kernel
theorem dX0_bare_16 : decode cX0_bare 16 = .ok (.ifCond .eq 6, 3) := by decide +kernel
theorem dX0_bare_19 : decode cX0_bare 19 = .ok (.iinc 1 1, 3) := by decide +kernel
theorem dX0_bare_22 : decode cX0_bare 22 = .ok (.iinc 2 1, 3) := by decide +kernel
theorem dX0_bare_25 : decode cX0_bare 25 = .ok (.goto (-21), 3) := by decide +kernel
theorem dX0_bare_28 : decode cX0_bare 28 = .ok (.iload_n 1, 1) := by decide +kernel
theorem dX0_bare_29 : decode cX0_bare 29 = .ok (.ireturn, 1) := by decide +kernel
theorem dX0_about_0 : decode cX0_about 0 = .ok (.iload_n 1, 1) := by decide +kernel
theorem dX0_about_1 : decode cX0_about 1 = .ok (.invokestatic 32, 3) := by decide +kernel
theorem dX0_about_4 : decode cX0_about 4 = .ok (.iload_n 2, 1) := by decide +kernel
theorem dX0_about_5 : decode cX0_about 5 = .ok (.tableswitch 61 0 3 #[31, 38, 45, 51], 31) := by decide +kernel
theorem dX0_about_36 : decode cX0_about 36 = .ok (.aload_n 0, 1) := by decide +kernel
theorem dX0_about_37 : decode cX0_about 37 = .ok (.getfield 9, 3) := by decide +kernel
theorem dX0_about_40 : decode cX0_about 40 = .ok (.iload_n 1, 1) := by decide +kernel
theorem dX0_about_41 : decode cX0_about 41 = .ok (.iaload, 1) := by decide +kernel
theorem dX0_about_42 : decode cX0_about 42 = .ok (.ireturn, 1) := by decide +kernel
theorem dX0_about_43 : decode cX0_about 43 = .ok (.aload_n 0, 1) := by decide +kernel
theorem dX0_about_44 : decode cX0_about 44 = .ok (.getfield 13, 3) := by decide +kernel
theorem dX0_about_47 : decode cX0_about 47 = .ok (.iload_n 1, 1) := by decide +kernel
theorem dX0_about_48 : decode cX0_about 48 = .ok (.iaload, 1) := by decide +kernel
theorem dX0_about_49 : decode cX0_about 49 = .ok (.ireturn, 1) := by decide +kernel
theorem dX0_about_50 : decode cX0_about 50 = .ok (.aload_n 0, 1) := by decide +kernel
theorem dX0_about_51 : decode cX0_about 51 = .ok (.iload_n 1, 1) := by decide +kernel
theorem dX0_about_52 : decode cX0_about 52 = .ok (.invokevirtual 107, 3) := by decide +kernel
theorem dX0_about_55 : decode cX0_about 55 = .ok (.ireturn, 1) := by decide +kernel
theorem dX0_about_56 : decode cX0_about 56 = .ok (.aload_n 0, 1) := by decide +kernel
theorem dX0_about_57 : decode cX0_about 57 = .ok (.bipush 31, 2) := by decide +kernel
theorem dX0_about_59 : decode cX0_about 59 = .ok (.iconst 1, 1) := by decide +kernel
theorem dX0_about_60 : decode cX0_about 60 = .ok (.iload_n 1, 1) := by decide +kernel
theorem dX0_about_61 : decode cX0_about 61 = .ok (.ishl, 1) := by decide +kernel
theorem dX0_about_62 : decode cX0_about 62 = .ok (.invokevirtual 91, 3) := by decide +kernel
theorem dX0_about_65 : decode cX0_about 65 = .ok (.ireturn, 1) := by decide +kernel
theorem dX0_about_66 : decode cX0_about 66 = .ok (.new 36, 3) := by decide +kernel
theorem dX0_about_69 : decode cX0_about 69 = .ok (.dup, 1) := by decide +kernel
theorem dX0_about_70 : decode cX0_about 70 = .ok (.ldc 110, 2) := by decide +kernel
theorem dX0_about_72 : decode cX0_about 72 = .ok (.invokespecial 40, 3) := by decide +kernel
theorem dX0_about_75 : decode cX0_about 75 = .ok (.athrow, 1) := by decide +kernel
theorem dX0_count_0 : decode cX0_count 0 = .ok (.iload_n 1, 1) := by decide +kernel
theorem dX0_count_1 : decode cX0_count 1 = .ok (.tableswitch 63 0 4 #[35, 40, 48, 53, 58], 35) := by decide +kernel
theorem dX0_count_36 : decode cX0_count 36 = .ok (.aload_n 0, 1) := by decide +kernel
theorem dX0_count_37 : decode cX0_count 37 = .ok (.getfield 22, 3) := by decide +kernel
theorem dX0_count_40 : decode cX0_count 40 = .ok (.ireturn, 1) := by decide +kernel
theorem dX0_count_41 : decode cX0_count 41 = .ok (.aload_n 0, 1) := by decide +kernel
theorem dX0_count_42 : decode cX0_count 42 = .ok (.sipush 1023, 3) := by decide +kernel
theorem dX0_count_45 : decode cX0_count 45 = .ok (.invokevirtual 112, 3) := by decide +kernel
theorem dX0_count_48 : decode cX0_count 48 = .ok (.ireturn, 1) := by decide +kernel
theorem dX0_count_49 : decode cX0_count 49 = .ok (.aload_n 0, 1) := by decide +kernel
theorem dX0_count_50 : decode cX0_count 50 = .ok (.invokevirtual 115, 3) := by decide +kernel
theorem dX0_count_53 : decode cX0_count 53 = .ok (.ireturn, 1) := by decide +kernel
theorem dX0_count_54 : decode cX0_count 54 = .ok (.aload_n 0, 1) := by decide +kernel
theorem dX0_count_55 : decode cX0_count 55 = .ok (.invokevirtual 119, 3) := by decide +kernel
theorem dX0_count_58 : decode cX0_count 58 = .ok (.ireturn, 1) := by decide +kernel
theorem dX0_count_59 : decode cX0_count 59 = .ok (.aload_n 0, 1) := by decide +kernel
theorem dX0_count_60 : decode cX0_count 60 = .ok (.invokevirtual 122, 3) := by decide +kernel
theorem dX0_count_63 : decode cX0_count 63 = .ok (.ireturn, 1) := by decide +kernel
theorem dX0_count_64 : decode cX0_count 64 = .ok (.iconst (-1), 1) := by decide +kernel
theorem dX0_count_65 : decode cX0_count 65 = .ok (.ireturn, 1) := by decide +kernel
theorem dX0_requireNode_0 : decode cX0_requireNode 0 = .ok (.iload_n 0, 1) := by decide +kernel
theorem dX0_requireNode_1 : decode cX0_requireNode 1 = .ok (.ifCond .lt 9, 3) := by decide +kernel
theorem dX0_requireNode_4 : decode cX0_requireNode 4 = .ok (.iload_n 0, 1) := by decide +kernel
theorem dX0_requireNode_5 : decode cX0_requireNode 5 = .ok (.bipush 10, 2) := by decide +kernel
theorem dX0_requireNode_7 : decode cX0_requireNode 7 = .ok (.if_icmp .lt 13, 3) := by decide +kernel
theorem dX0_requireNode_10 : decode cX0_requireNode 10 = .ok (.new 125, 3) := by decide +kernel
theorem dX0_requireNode_13 : decode cX0_requireNode 13 = .ok (.dup, 1) := by decide +kernel
theorem dX0_requireNode_14 : decode cX0_requireNode 14 = .ok (.ldc 127, 2) := by decide +kernel
theorem dX0_requireNode_16 : decode cX0_requireNode 16 = .ok (.invokespecial 129, 3) := by decide +kernel
theorem dX0_requireNode_19 : decode cX0_requireNode 19 = .ok (.athrow, 1) := by decide +kernel
theorem dX0_requireNode_20 : decode cX0_requireNode 20 = .ok (.return_, 1) := by decide +kernel
theorem dX0_requireSet_0 : decode cX0_requireSet 0 = .ok (.iload_n 0, 1) := by decide +kernel
theorem dX0_requireSet_1 : decode cX0_requireSet 1 = .ok (.ifCond .lt 10, 3) := by decide +kernel
theorem dX0_requireSet_4 : decode cX0_requireSet 4 = .ok (.iload_n 0, 1) := by decide +kernel
theorem dX0_requireSet_5 : decode cX0_requireSet 5 = .ok (.sipush 1024, 3) := by decide +kernel
theorem dX0_requireSet_8 : decode cX0_requireSet 8 = .ok (.if_icmp .lt 13, 3) := by decide +kernel
theorem dX0_requireSet_11 : decode cX0_requireSet 11 = .ok (.new 125, 3) := by decide +kernel
theorem dX0_requireSet_14 : decode cX0_requireSet 14 = .ok (.dup, 1) := by decide +kernel
theorem dX0_requireSet_15 : decode cX0_requireSet 15 = .ok (.ldc 130, 2) := by decide +kernel
theorem dX0_requireSet_17 : decode cX0_requireSet 17 = .ok (.invokespecial 129, 3) := by decide +kernel
theorem dX0_requireSet_20 : decode cX0_requireSet 20 = .ok (.athrow, 1) := by decide +kernel
theorem dX0_requireSet_21 : decode cX0_requireSet 21 = .ok (.return_, 1) := by decide +kernel
theorem dX0_requireBallot_0 : decode cX0_requireBallot 0 = .ok (.iload_n 0, 1) := by decide +kernel
theorem dX0_requireBallot_1 : decode cX0_requireBallot 1 = .ok (.ifCond .lt 9, 3) := by decide +kernel
theorem dX0_requireBallot_4 : decode cX0_requireBallot 4 = .ok (.iload_n 0, 1) := by decide +kernel
theorem dX0_requireBallot_5 : decode cX0_requireBallot 5 = .ok (.bipush 31, 2) := by decide +kernel
theorem dX0_requireBallot_7 : decode cX0_requireBallot 7 = .ok (.if_icmp .lt 13, 3) := by decide +kernel
theorem dX0_requireBallot_10 : decode cX0_requireBallot 10 = .ok (.new 125, 3) := by decide +kernel
theorem dX0_requireBallot_13 : decode cX0_requireBallot 13 = .ok (.dup, 1) := by decide +kernel
theorem dX0_requireBallot_14 : decode cX0_requireBallot 14 = .ok (.ldc 132, 2) := by decide +kernel
theorem dX0_requireBallot_16 : decode cX0_requireBallot 16 = .ok (.invokespecial 129, 3) := by decide +kernel
theorem dX0_requireBallot_19 : decode cX0_requireBallot 19 = .ok (.athrow, 1) := by decide +kernel
theorem dX0_requireBallot_20 : decode cX0_requireBallot 20 = .ok (.return_, 1) := by decide +kernel
theorem dX0_requireValue_0 : decode cX0_requireValue 0 = .ok (.iload_n 0, 1) := by decide +kernel
theorem dX0_requireValue_1 : decode cX0_requireValue 1 = .ok (.ifCond .lt 9, 3) := by decide +kernel
theorem dX0_requireValue_4 : decode cX0_requireValue 4 = .ok (.iload_n 0, 1) := by decide +kernel
theorem dX0_requireValue_5 : decode cX0_requireValue 5 = .ok (.bipush 10, 2) := by decide +kernel
theorem dX0_requireValue_7 : decode cX0_requireValue 7 = .ok (.if_icmp .lt 13, 3) := by decide +kernel
theorem dX0_requireValue_10 : decode cX0_requireValue 10 = .ok (.new 125, 3) := by decide +kernel
theorem dX0_requireValue_13 : decode cX0_requireValue 13 = .ok (.dup, 1) := by decide +kernel
theorem dX0_requireValue_14 : decode cX0_requireValue 14 = .ok (.ldc 134, 2) := by decide +kernel
theorem dX0_requireValue_16 : decode cX0_requireValue 16 = .ok (.invokespecial 129, 3) := by decide +kernel
theorem dX0_requireValue_19 : decode cX0_requireValue 19 = .ok (.athrow, 1) := by decide +kernel
theorem dX0_requireValue_20 : decode cX0_requireValue 20 = .ok (.return_, 1) := by decide +kernel
theorem dX0_holds_0 : decode cX0_holds 0 = .ok (.iload_n 0, 1) := by decide +kernel
theorem dX0_holds_1 : decode cX0_holds 1 = .ok (.iload_n 1, 1) := by decide +kernel
theorem dX0_holds_2 : decode cX0_holds 2 = .ok (.ishr, 1) := by decide +kernel
theorem dX0_holds_3 : decode cX0_holds 3 = .ok (.iconst 1, 1) := by decide +kernel
theorem dX0_holds_4 : decode cX0_holds 4 = .ok (.iand, 1) := by decide +kernel
theorem dX0_holds_5 : decode cX0_holds 5 = .ok (.iconst 1, 1) := by decide +kernel
theorem dX0_holds_6 : decode cX0_holds 6 = .ok (.if_icmp .ne 7, 3) := by decide +kernel
theorem dX0_holds_9 : decode cX0_holds 9 = .ok (.iconst 1, 1) := by decide +kernel
theorem dX0_holds_10 : decode cX0_holds 10 = .ok (.goto 4, 3) := by decide +kernel
theorem dX0_holds_13 : decode cX0_holds 13 = .ok (.iconst 0, 1) := by decide +kernel
theorem dX0_holds_14 : decode cX0_holds 14 = .ok (.ireturn, 1) := by decide +kernel
theorem dX0_weightOf_0 : decode cX0_weightOf 0 = .ok (.iconst 0, 1) := by decide +kernel
theorem dX0_weightOf_1 : decode cX0_weightOf 1 = .ok (.istore_n 2, 1) := by decide +kernel
theorem dX0_weightOf_2 : decode cX0_weightOf 2 = .ok (.iconst 0, 1) := by decide +kernel
theorem dX0_weightOf_3 : decode cX0_weightOf 3 = .ok (.istore_n 3, 1) := by decide +kernel
theorem dX0_weightOf_4 : decode cX0_weightOf 4 = .ok (.iload_n 3, 1) := by decide +kernel
theorem dX0_weightOf_5 : decode cX0_weightOf 5 = .ok (.bipush 10, 2) := by decide +kernel
theorem dX0_weightOf_7 : decode cX0_weightOf 7 = .ok (.if_icmp .ge 26, 3) := by decide +kernel
theorem dX0_weightOf_10 : decode cX0_weightOf 10 = .ok (.iload_n 1, 1) := by decide +kernel
theorem dX0_weightOf_11 : decode cX0_weightOf 11 = .ok (.iload_n 3, 1) := by decide +kernel
theorem dX0_weightOf_12 : decode cX0_weightOf 12 = .ok (.invokestatic 136, 3) := by decide +kernel
theorem dX0_weightOf_15 : decode cX0_weightOf 15 = .ok (.ifCond .eq 12, 3) := by decide +kernel
theorem dX0_weightOf_18 : decode cX0_weightOf 18 = .ok (.iload_n 2, 1) := by decide +kernel
theorem dX0_weightOf_19 : decode cX0_weightOf 19 = .ok (.aload_n 0, 1) := by decide +kernel
theorem dX0_weightOf_20 : decode cX0_weightOf 20 = .ok (.getfield 9, 3) := by decide +kernel
theorem dX0_weightOf_23 : decode cX0_weightOf 23 = .ok (.iload_n 3, 1) := by decide +kernel
theorem dX0_weightOf_24 : decode cX0_weightOf 24 = .ok (.iaload, 1) := by decide +kernel
theorem dX0_weightOf_25 : decode cX0_weightOf 25 = .ok (.iadd, 1) := by decide +kernel
theorem dX0_weightOf_26 : decode cX0_weightOf 26 = .ok (.istore_n 2, 1) := by decide +kernel
theorem dX0_weightOf_27 : decode cX0_weightOf 27 = .ok (.iinc 3 1, 3) := by decide +kernel
theorem dX0_weightOf_30 : decode cX0_weightOf 30 = .ok (.goto (-26), 3) := by decide +kernel
theorem dX0_weightOf_33 : decode cX0_weightOf 33 = .ok (.iload_n 2, 1) := by decide +kernel
theorem dX0_weightOf_34 : decode cX0_weightOf 34 = .ok (.ireturn, 1) := by decide +kernel
theorem dX0_isEnough_0 : decode cX0_isEnough 0 = .ok (.aload_n 0, 1) := by decide +kernel
theorem dX0_isEnough_1 : decode cX0_isEnough 1 = .ok (.iload_n 1, 1) := by decide +kernel
theorem dX0_isEnough_2 : decode cX0_isEnough 2 = .ok (.invokevirtual 112, 3) := by decide +kernel
theorem dX0_isEnough_5 : decode cX0_isEnough 5 = .ok (.aload_n 0, 1) := by decide +kernel
theorem dX0_isEnough_6 : decode cX0_isEnough 6 = .ok (.getfield 22, 3) := by decide +kernel
theorem dX0_isEnough_9 : decode cX0_isEnough 9 = .ok (.if_icmp .lt 7, 3) := by decide +kernel
theorem dX0_isEnough_12 : decode cX0_isEnough 12 = .ok (.iconst 1, 1) := by decide +kernel
theorem dX0_isEnough_13 : decode cX0_isEnough 13 = .ok (.goto 4, 3) := by decide +kernel
theorem dX0_isEnough_16 : decode cX0_isEnough 16 = .ok (.iconst 0, 1) := by decide +kernel
theorem dX0_isEnough_17 : decode cX0_isEnough 17 = .ok (.ireturn, 1) := by decide +kernel
theorem dX0_isBare_0 : decode cX0_isBare 0 = .ok (.aload_n 0, 1) := by decide +kernel
theorem dX0_isBare_1 : decode cX0_isBare 1 = .ok (.iload_n 1, 1) := by decide +kernel
theorem dX0_isBare_2 : decode cX0_isBare 2 = .ok (.invokevirtual 112, 3) := by decide +kernel
theorem dX0_isBare_5 : decode cX0_isBare 5 = .ok (.istore_n 2, 1) := by decide +kernel
theorem dX0_isBare_6 : decode cX0_isBare 6 = .ok (.iload_n 2, 1) := by decide +kernel
theorem dX0_isBare_7 : decode cX0_isBare 7 = .ok (.aload_n 0, 1) := by decide +kernel
theorem dX0_isBare_8 : decode cX0_isBare 8 = .ok (.getfield 22, 3) := by decide +kernel
theorem dX0_isBare_11 : decode cX0_isBare 11 = .ok (.if_icmp .lt 21, 3) := by decide +kernel
theorem dX0_isBare_14 : decode cX0_isBare 14 = .ok (.iload_n 2, 1) := by decide +kernel
theorem dX0_isBare_15 : decode cX0_isBare 15 = .ok (.aload_n 0, 1) := by decide +kernel
theorem dX0_isBare_16 : decode cX0_isBare 16 = .ok (.iload_n 1, 1) := by decide +kernel
theorem dX0_isBare_17 : decode cX0_isBare 17 = .ok (.invokevirtual 139, 3) := by decide +kernel
theorem dX0_isBare_20 : decode cX0_isBare 20 = .ok (.isub, 1) := by decide +kernel
theorem dX0_isBare_21 : decode cX0_isBare 21 = .ok (.aload_n 0, 1) := by decide +kernel
theorem dX0_isBare_22 : decode cX0_isBare 22 = .ok (.getfield 22, 3) := by decide +kernel
theorem dX0_isBare_25 : decode cX0_isBare 25 = .ok (.if_icmp .ge 7, 3) := by decide +kernel
theorem dX0_isBare_28 : decode cX0_isBare 28 = .ok (.iconst 1, 1) := by decide +kernel
theorem dX0_isBare_29 : decode cX0_isBare 29 = .ok (.goto 4, 3) := by decide +kernel
theorem dX0_isBare_32 : decode cX0_isBare 32 = .ok (.iconst 0, 1) := by decide +kernel
theorem dX0_isBare_33 : decode cX0_isBare 33 = .ok (.ireturn, 1) := by decide +kernel
theorem dX0_lightestOf_0 : decode cX0_lightestOf 0 = .ok (.bipush 50, 2) := by decide +kernel
theorem dX0_lightestOf_2 : decode cX0_lightestOf 2 = .ok (.istore_n 2, 1) := by decide +kernel
theorem dX0_lightestOf_3 : decode cX0_lightestOf 3 = .ok (.iconst 0, 1) := by decide +kernel
theorem dX0_lightestOf_4 : decode cX0_lightestOf 4 = .ok (.istore_n 3, 1) := by decide +kernel
theorem dX0_lightestOf_5 : decode cX0_lightestOf 5 = .ok (.iload_n 3, 1) := by decide +kernel
theorem dX0_lightestOf_6 : decode cX0_lightestOf 6 = .ok (.bipush 10, 2) := by decide +kernel
theorem dX0_lightestOf_8 : decode cX0_lightestOf 8 = .ok (.if_icmp .ge 28, 3) := by decide +kernel
theorem dX0_lightestOf_11 : decode cX0_lightestOf 11 = .ok (.iload_n 1, 1) := by decide +kernel
theorem dX0_lightestOf_12 : decode cX0_lightestOf 12 = .ok (.iload_n 3, 1) := by decide +kernel
theorem dX0_lightestOf_13 : decode cX0_lightestOf 13 = .ok (.invokestatic 136, 3) := by decide +kernel
theorem dX0_lightestOf_16 : decode cX0_lightestOf 16 = .ok (.ifCond .eq 14, 3) := by decide +kernel
theorem dX0_lightestOf_19 : decode cX0_lightestOf 19 = .ok (.iload_n 2, 1) := by decide +kernel
theorem dX0_lightestOf_20 : decode cX0_lightestOf 20 = .ok (.aload_n 0, 1) := by decide +kernel
theorem dX0_lightestOf_21 : decode cX0_lightestOf 21 = .ok (.getfield 9, 3) := by decide +kernel
theorem dX0_lightestOf_24 : decode cX0_lightestOf 24 = .ok (.iload_n 3, 1) := by decide +kernel
theorem dX0_lightestOf_25 : decode cX0_lightestOf 25 = .ok (.iaload, 1) := by decide +kernel
theorem dX0_lightestOf_26 : decode cX0_lightestOf 26 = .ok (.invokestatic 142, 3) := by decide +kernel
theorem dX0_lightestOf_29 : decode cX0_lightestOf 29 = .ok (.istore_n 2, 1) := by decide +kernel
theorem dX0_lightestOf_30 : decode cX0_lightestOf 30 = .ok (.iinc 3 1, 3) := by decide +kernel
theorem dX0_lightestOf_33 : decode cX0_lightestOf 33 = .ok (.goto (-28), 3) := by decide +kernel
theorem dX0_lightestOf_36 : decode cX0_lightestOf 36 = .ok (.iload_n 2, 1) := by decide +kernel
theorem dX0_lightestOf_37 : decode cX0_lightestOf 37 = .ok (.ireturn, 1) := by decide +kernel
theorem dX0_isOpen_0 : decode cX0_isOpen 0 = .ok (.aload_n 0, 1) := by decide +kernel
theorem dX0_isOpen_1 : decode cX0_isOpen 1 = .ok (.getfield 16, 3) := by decide +kernel
theorem dX0_isOpen_4 : decode cX0_isOpen 4 = .ok (.iload_n 2, 1) := by decide +kernel
theorem dX0_isOpen_5 : decode cX0_isOpen 5 = .ok (.iaload, 1) := by decide +kernel
theorem dX0_isOpen_6 : decode cX0_isOpen 6 = .ok (.iload_n 1, 1) := by decide +kernel
theorem dX0_isOpen_7 : decode cX0_isOpen 7 = .ok (.invokestatic 136, 3) := by decide +kernel
theorem dX0_isOpen_10 : decode cX0_isOpen 10 = .ok (.ifCond .ne 17, 3) := by decide +kernel
theorem dX0_isOpen_13 : decode cX0_isOpen 13 = .ok (.aload_n 0, 1) := by decide +kernel
theorem dX0_isOpen_14 : decode cX0_isOpen 14 = .ok (.getfield 13, 3) := by decide +kernel
theorem dX0_isOpen_17 : decode cX0_isOpen 17 = .ok (.iload_n 1, 1) := by decide +kernel
theorem dX0_isOpen_18 : decode cX0_isOpen 18 = .ok (.iaload, 1) := by decide +kernel
theorem dX0_isOpen_19 : decode cX0_isOpen 19 = .ok (.iload_n 2, 1) := by decide +kernel
theorem dX0_isOpen_20 : decode cX0_isOpen 20 = .ok (.if_icmp .gt 7, 3) := by decide +kernel
theorem dX0_isOpen_23 : decode cX0_isOpen 23 = .ok (.iconst 1, 1) := by decide +kernel
theorem dX0_isOpen_24 : decode cX0_isOpen 24 = .ok (.goto 4, 3) := by decide +kernel
theorem dX0_isOpen_27 : decode cX0_isOpen 27 = .ok (.iconst 0, 1) := by decide +kernel
theorem dX0_isOpen_28 : decode cX0_isOpen 28 = .ok (.ireturn, 1) := by decide +kernel
theorem dX0_openNodes_0 : decode cX0_openNodes 0 = .ok (.iconst 0, 1) := by decide +kernel
theorem dX0_openNodes_1 : decode cX0_openNodes 1 = .ok (.istore_n 2, 1) := by decide +kernel
theorem dX0_openNodes_2 : decode cX0_openNodes 2 = .ok (.iconst 0, 1) := by decide +kernel
theorem dX0_openNodes_3 : decode cX0_openNodes 3 = .ok (.istore_n 3, 1) := by decide +kernel
theorem dX0_openNodes_4 : decode cX0_openNodes 4 = .ok (.iload_n 3, 1) := by decide +kernel
theorem dX0_openNodes_5 : decode cX0_openNodes 5 = .ok (.bipush 10, 2) := by decide +kernel
theorem dX0_openNodes_7 : decode cX0_openNodes 7 = .ok (.if_icmp .ge 24, 3) := by decide +kernel
theorem dX0_openNodes_10 : decode cX0_openNodes 10 = .ok (.aload_n 0, 1) := by decide +kernel
theorem dX0_openNodes_11 : decode cX0_openNodes 11 = .ok (.iload_n 3, 1) := by decide +kernel
theorem dX0_openNodes_12 : decode cX0_openNodes 12 = .ok (.iload_n 1, 1) := by decide +kernel
theorem dX0_openNodes_13 : decode cX0_openNodes 13 = .ok (.invokevirtual 56, 3) := by decide +kernel
theorem dX0_openNodes_16 : decode cX0_openNodes 16 = .ok (.ifCond .eq 9, 3) := by decide +kernel
theorem dX0_openNodes_19 : decode cX0_openNodes 19 = .ok (.iload_n 2, 1) := by decide +kernel
theorem dX0_openNodes_20 : decode cX0_openNodes 20 = .ok (.iconst 1, 1) := by decide +kernel
theorem dX0_openNodes_21 : decode cX0_openNodes 21 = .ok (.iload_n 3, 1) := by decide +kernel
theorem dX0_openNodes_22 : decode cX0_openNodes 22 = .ok (.ishl, 1) := by decide +kernel
theorem dX0_openNodes_23 : decode cX0_openNodes 23 = .ok (.ior, 1) := by decide +kernel
theorem dX0_openNodes_24 : decode cX0_openNodes 24 = .ok (.istore_n 2, 1) := by decide +kernel
theorem dX0_openNodes_25 : decode cX0_openNodes 25 = .ok (.iinc 3 1, 3) := by decide +kernel
theorem dX0_openNodes_28 : decode cX0_openNodes 28 = .ok (.goto (-24), 3) := by decide +kernel
theorem dX0_openNodes_31 : decode cX0_openNodes 31 = .ok (.iload_n 2, 1) := by decide +kernel
theorem dX0_openNodes_32 : decode cX0_openNodes 32 = .ok (.ireturn, 1) := by decide +kernel
theorem dX0_isOnlyValue_0 : decode cX0_isOnlyValue 0 = .ok (.aload_n 0, 1) := by decide +kernel
theorem dX0_isOnlyValue_1 : decode cX0_isOnlyValue 1 = .ok (.getfield 19, 3) := by decide +kernel
theorem dX0_isOnlyValue_4 : decode cX0_isOnlyValue 4 = .ok (.iload_n 1, 1) := by decide +kernel
theorem dX0_isOnlyValue_5 : decode cX0_isOnlyValue 5 = .ok (.iaload, 1) := by decide +kernel
theorem dX0_isOnlyValue_6 : decode cX0_isOnlyValue 6 = .ok (.iconst (-1), 1) := by decide +kernel
theorem dX0_isOnlyValue_7 : decode cX0_isOnlyValue 7 = .ok (.if_icmp .eq 13, 3) := by decide +kernel
theorem dX0_isOnlyValue_10 : decode cX0_isOnlyValue 10 = .ok (.aload_n 0, 1) := by decide +kernel
theorem dX0_isOnlyValue_11 : decode cX0_isOnlyValue 11 = .ok (.getfield 19, 3) := by decide +kernel
theorem dX0_isOnlyValue_14 : decode cX0_isOnlyValue 14 = .ok (.iload_n 1, 1) := by decide +kernel
theorem dX0_isOnlyValue_15 : decode cX0_isOnlyValue 15 = .ok (.iaload, 1) := by decide +kernel
theorem dX0_isOnlyValue_16 : decode cX0_isOnlyValue 16 = .ok (.iload_n 2, 1) := by decide +kernel
theorem dX0_isOnlyValue_17 : decode cX0_isOnlyValue 17 = .ok (.if_icmp .ne 7, 3) := by decide +kernel
theorem dX0_isOnlyValue_20 : decode cX0_isOnlyValue 20 = .ok (.iconst 1, 1) := by decide +kernel
theorem dX0_isOnlyValue_21 : decode cX0_isOnlyValue 21 = .ok (.goto 4, 3) := by decide +kernel
theorem dX0_isOnlyValue_24 : decode cX0_isOnlyValue 24 = .ok (.iconst 0, 1) := by decide +kernel
theorem dX0_isOnlyValue_25 : decode cX0_isOnlyValue 25 = .ok (.ireturn, 1) := by decide +kernel
theorem dX0_hasWayToChoose_0 : decode cX0_hasWayToChoose 0 = .ok (.aload_n 0, 1) := by decide +kernel
theorem dX0_hasWayToChoose_1 : decode cX0_hasWayToChoose 1 = .ok (.aload_n 0, 1) := by decide +kernel
theorem dX0_hasWayToChoose_2 : decode cX0_hasWayToChoose 2 = .ok (.getfield 16, 3) := by decide +kernel
theorem dX0_hasWayToChoose_5 : decode cX0_hasWayToChoose 5 = .ok (.iload_n 1, 1) := by decide +kernel
theorem dX0_hasWayToChoose_6 : decode cX0_hasWayToChoose 6 = .ok (.iaload, 1) := by decide +kernel
theorem dX0_hasWayToChoose_7 : decode cX0_hasWayToChoose 7 = .ok (.aload_n 0, 1) := by decide +kernel
theorem dX0_hasWayToChoose_8 : decode cX0_hasWayToChoose 8 = .ok (.iload_n 1, 1) := by decide +kernel
theorem dX0_hasWayToChoose_9 : decode cX0_hasWayToChoose 9 = .ok (.invokevirtual 147, 3) := by decide +kernel
theorem dX0_hasWayToChoose_12 : decode cX0_hasWayToChoose 12 = .ok (.ior, 1) := by decide +kernel
theorem dX0_hasWayToChoose_13 : decode cX0_hasWayToChoose 13 = .ok (.invokevirtual 76, 3) := by decide +kernel
theorem dX0_hasWayToChoose_16 : decode cX0_hasWayToChoose 16 = .ok (.ireturn, 1) := by decide +kernel
theorem dX0_isSafe_0 : decode cX0_isSafe 0 = .ok (.iconst 0, 1) := by decide +kernel
theorem dX0_isSafe_1 : decode cX0_isSafe 1 = .ok (.istore_n 3, 1) := by decide +kernel
theorem dX0_isSafe_2 : decode cX0_isSafe 2 = .ok (.iload_n 3, 1) := by decide +kernel
theorem dX0_isSafe_3 : decode cX0_isSafe 3 = .ok (.iload_n 1, 1) := by decide +kernel
theorem dX0_isSafe_4 : decode cX0_isSafe 4 = .ok (.if_icmp .ge 29, 3) := by decide +kernel
theorem dX0_isSafe_7 : decode cX0_isSafe 7 = .ok (.aload_n 0, 1) := by decide +kernel
theorem dX0_isSafe_8 : decode cX0_isSafe 8 = .ok (.getfield 19, 3) := by decide +kernel
theorem dX0_isSafe_11 : decode cX0_isSafe 11 = .ok (.iload_n 3, 1) := by decide +kernel
theorem dX0_isSafe_12 : decode cX0_isSafe 12 = .ok (.iaload, 1) := by decide +kernel
theorem dX0_isSafe_13 : decode cX0_isSafe 13 = .ok (.iload_n 2, 1) := by decide +kernel
theorem dX0_isSafe_14 : decode cX0_isSafe 14 = .ok (.if_icmp .eq 13, 3) := by decide +kernel
theorem dX0_isSafe_17 : decode cX0_isSafe 17 = .ok (.aload_n 0, 1) := by decide +kernel
theorem dX0_isSafe_18 : decode cX0_isSafe 18 = .ok (.iload_n 3, 1) := by decide +kernel
theorem dX0_isSafe_19 : decode cX0_isSafe 19 = .ok (.invokevirtual 98, 3) := by decide +kernel
theorem dX0_isSafe_22 : decode cX0_isSafe 22 = .ok (.ifCond .eq 5, 3) := by decide +kernel
theorem dX0_isSafe_25 : decode cX0_isSafe 25 = .ok (.iconst 0, 1) := by decide +kernel
theorem dX0_isSafe_26 : decode cX0_isSafe 26 = .ok (.ireturn, 1) := by decide +kernel
theorem dX0_isSafe_27 : decode cX0_isSafe 27 = .ok (.iinc 3 1, 3) := by decide +kernel
theorem dX0_isSafe_30 : decode cX0_isSafe 30 = .ok (.goto (-28), 3) := by decide +kernel
theorem dX0_isSafe_33 : decode cX0_isSafe 33 = .ok (.iconst 1, 1) := by decide +kernel
theorem dX0_isSafe_34 : decode cX0_isSafe 34 = .ok (.ireturn, 1) := by decide +kernel
theorem dX0_chosenValue_0 : decode cX0_chosenValue 0 = .ok (.aload_n 0, 1) := by decide +kernel
theorem dX0_chosenValue_1 : decode cX0_chosenValue 1 = .ok (.aload_n 0, 1) := by decide +kernel
theorem dX0_chosenValue_2 : decode cX0_chosenValue 2 = .ok (.getfield 16, 3) := by decide +kernel
theorem dX0_chosenValue_5 : decode cX0_chosenValue 5 = .ok (.iload_n 1, 1) := by decide +kernel
theorem dX0_chosenValue_6 : decode cX0_chosenValue 6 = .ok (.iaload, 1) := by decide +kernel
theorem dX0_chosenValue_7 : decode cX0_chosenValue 7 = .ok (.invokevirtual 76, 3) := by decide +kernel
theorem dX0_chosenValue_10 : decode cX0_chosenValue 10 = .ok (.ifCond .eq 12, 3) := by decide +kernel
theorem dX0_chosenValue_13 : decode cX0_chosenValue 13 = .ok (.aload_n 0, 1) := by decide +kernel
theorem dX0_chosenValue_14 : decode cX0_chosenValue 14 = .ok (.getfield 19, 3) := by decide +kernel
theorem dX0_chosenValue_17 : decode cX0_chosenValue 17 = .ok (.iload_n 1, 1) := by decide +kernel
theorem dX0_chosenValue_18 : decode cX0_chosenValue 18 = .ok (.iaload, 1) := by decide +kernel
theorem dX0_chosenValue_19 : decode cX0_chosenValue 19 = .ok (.goto 4, 3) := by decide +kernel
theorem dX0_chosenValue_22 : decode cX0_chosenValue 22 = .ok (.iconst (-1), 1) := by decide +kernel
theorem dX0_chosenValue_23 : decode cX0_chosenValue 23 = .ok (.ireturn, 1) := by decide +kernel
theorem dX0_highestPromise_0 : decode cX0_highestPromise 0 = .ok (.iconst 0, 1) := by decide +kernel
theorem dX0_highestPromise_1 : decode cX0_highestPromise 1 = .ok (.istore_n 2, 1) := by decide +kernel
theorem dX0_highestPromise_2 : decode cX0_highestPromise 2 = .ok (.iconst 0, 1) := by decide +kernel
theorem dX0_highestPromise_3 : decode cX0_highestPromise 3 = .ok (.istore_n 3, 1) := by decide +kernel
theorem dX0_highestPromise_4 : decode cX0_highestPromise 4 = .ok (.iload_n 3, 1) := by decide +kernel
theorem dX0_highestPromise_5 : decode cX0_highestPromise 5 = .ok (.bipush 10, 2) := by decide +kernel
theorem dX0_highestPromise_7 : decode cX0_highestPromise 7 = .ok (.if_icmp .ge 28, 3) := by decide +kernel
theorem dX0_highestPromise_10 : decode cX0_highestPromise 10 = .ok (.iload_n 1, 1) := by decide +kernel
theorem dX0_highestPromise_11 : decode cX0_highestPromise 11 = .ok (.iload_n 3, 1) := by decide +kernel
theorem dX0_highestPromise_12 : decode cX0_highestPromise 12 = .ok (.invokestatic 136, 3) := by decide +kernel
theorem dX0_highestPromise_15 : decode cX0_highestPromise 15 = .ok (.ifCond .eq 14, 3) := by decide +kernel
theorem dX0_highestPromise_18 : decode cX0_highestPromise 18 = .ok (.iload_n 2, 1) := by decide +kernel
theorem dX0_highestPromise_19 : decode cX0_highestPromise 19 = .ok (.aload_n 0, 1) := by decide +kernel
theorem dX0_highestPromise_20 : decode cX0_highestPromise 20 = .ok (.getfield 13, 3) := by decide +kernel
theorem dX0_highestPromise_23 : decode cX0_highestPromise 23 = .ok (.iload_n 3, 1) := by decide +kernel
theorem dX0_highestPromise_24 : decode cX0_highestPromise 24 = .ok (.iaload, 1) := by decide +kernel
theorem dX0_highestPromise_25 : decode cX0_highestPromise 25 = .ok (.invokestatic 150, 3) := by decide +kernel
theorem dX0_highestPromise_28 : decode cX0_highestPromise 28 = .ok (.istore_n 2, 1) := by decide +kernel
theorem dX0_highestPromise_29 : decode cX0_highestPromise 29 = .ok (.iinc 3 1, 3) := by decide +kernel
theorem dX0_highestPromise_32 : decode cX0_highestPromise 32 = .ok (.goto (-28), 3) := by decide +kernel
theorem dX0_highestPromise_35 : decode cX0_highestPromise 35 = .ok (.iload_n 2, 1) := by decide +kernel
theorem dX0_highestPromise_36 : decode cX0_highestPromise 36 = .ok (.ireturn, 1) := by decide +kernel
theorem dX0_promiseAll_0 : decode cX0_promiseAll 0 = .ok (.iconst 0, 1) := by decide +kernel
theorem dX0_promiseAll_1 : decode cX0_promiseAll 1 = .ok (.istore_n 3, 1) := by decide +kernel
theorem dX0_promiseAll_2 : decode cX0_promiseAll 2 = .ok (.iload_n 3, 1) := by decide +kernel
theorem dX0_promiseAll_3 : decode cX0_promiseAll 3 = .ok (.bipush 10, 2) := by decide +kernel
theorem dX0_promiseAll_5 : decode cX0_promiseAll 5 = .ok (.if_icmp .ge 24, 3) := by decide +kernel
theorem dX0_promiseAll_8 : decode cX0_promiseAll 8 = .ok (.iload_n 1, 1) := by decide +kernel
theorem dX0_promiseAll_9 : decode cX0_promiseAll 9 = .ok (.iload_n 3, 1) := by decide +kernel
theorem dX0_promiseAll_10 : decode cX0_promiseAll 10 = .ok (.invokestatic 136, 3) := by decide +kernel
theorem dX0_promiseAll_13 : decode cX0_promiseAll 13 = .ok (.ifCond .eq 10, 3) := by decide +kernel
theorem dX0_promiseAll_16 : decode cX0_promiseAll 16 = .ok (.aload_n 0, 1) := by decide +kernel
theorem dX0_promiseAll_17 : decode cX0_promiseAll 17 = .ok (.getfield 13, 3) := by decide +kernel
theorem dX0_promiseAll_20 : decode cX0_promiseAll 20 = .ok (.iload_n 3, 1) := by decide +kernel
theorem dX0_promiseAll_21 : decode cX0_promiseAll 21 = .ok (.iload_n 2, 1) := by decide +kernel
theorem dX0_promiseAll_22 : decode cX0_promiseAll 22 = .ok (.iastore, 1) := by decide +kernel
theorem dX0_promiseAll_23 : decode cX0_promiseAll 23 = .ok (.iinc 3 1, 3) := by decide +kernel
theorem dX0_promiseAll_26 : decode cX0_promiseAll 26 = .ok (.goto (-24), 3) := by decide +kernel
theorem dX0_promiseAll_29 : decode cX0_promiseAll 29 = .ok (.return_, 1) := by decide +kernel
theorem dX0_lastBallotBelow_0 : decode cX0_lastBallotBelow 0 = .ok (.iload_n 1, 1) := by decide +kernel
theorem dX0_lastBallotBelow_1 : decode cX0_lastBallotBelow 1 = .ok (.iconst 1, 1) := by decide +kernel
theorem dX0_lastBallotBelow_2 : decode cX0_lastBallotBelow 2 = .ok (.isub, 1) := by decide +kernel
theorem dX0_lastBallotBelow_3 : decode cX0_lastBallotBelow 3 = .ok (.istore_n 3, 1) := by decide +kernel
theorem dX0_lastBallotBelow_4 : decode cX0_lastBallotBelow 4 = .ok (.iload_n 3, 1) := by decide +kernel
theorem dX0_lastBallotBelow_5 : decode cX0_lastBallotBelow 5 = .ok (.ifCond .lt 22, 3) := by decide +kernel
theorem dX0_lastBallotBelow_8 : decode cX0_lastBallotBelow 8 = .ok (.aload_n 0, 1) := by decide +kernel
theorem dX0_lastBallotBelow_9 : decode cX0_lastBallotBelow 9 = .ok (.getfield 16, 3) := by decide +kernel
theorem dX0_lastBallotBelow_12 : decode cX0_lastBallotBelow 12 = .ok (.iload_n 3, 1) := by decide +kernel
theorem dX0_lastBallotBelow_13 : decode cX0_lastBallotBelow 13 = .ok (.iaload, 1) := by decide +kernel
theorem dX0_lastBallotBelow_14 : decode cX0_lastBallotBelow 14 = .ok (.iload_n 2, 1) := by decide +kernel
theorem dX0_lastBallotBelow_15 : decode cX0_lastBallotBelow 15 = .ok (.iand, 1) := by decide +kernel
theorem dX0_lastBallotBelow_16 : decode cX0_lastBallotBelow 16 = .ok (.ifCond .eq 5, 3) := by decide +kernel
theorem dX0_lastBallotBelow_19 : decode cX0_lastBallotBelow 19 = .ok (.iload_n 3, 1) := by decide +kernel
theorem dX0_lastBallotBelow_20 : decode cX0_lastBallotBelow 20 = .ok (.ireturn, 1) := by decide +kernel
theorem dX0_lastBallotBelow_21 : decode cX0_lastBallotBelow 21 = .ok (.iinc 3 (-1), 3) := by decide +kernel
theorem dX0_lastBallotBelow_24 : decode cX0_lastBallotBelow 24 = .ok (.goto (-20), 3) := by decide +kernel
theorem dX0_lastBallotBelow_27 : decode cX0_lastBallotBelow 27 = .ok (.iconst (-1), 1) := by decide +kernel
theorem dX0_lastBallotBelow_28 : decode cX0_lastBallotBelow 28 = .ok (.ireturn, 1) := by decide +kernel
theorem dX0_ballotsVotedIn_0 : decode cX0_ballotsVotedIn 0 = .ok (.iconst 0, 1) := by decide +kernel
theorem dX0_ballotsVotedIn_1 : decode cX0_ballotsVotedIn 1 = .ok (.istore_n 2, 1) := by decide +kernel
theorem dX0_ballotsVotedIn_2 : decode cX0_ballotsVotedIn 2 = .ok (.iconst 0, 1) := by decide +kernel
theorem dX0_ballotsVotedIn_3 : decode cX0_ballotsVotedIn 3 = .ok (.istore_n 3, 1) := by decide +kernel
theorem dX0_ballotsVotedIn_4 : decode cX0_ballotsVotedIn 4 = .ok (.iload_n 3, 1) := by decide +kernel
theorem dX0_ballotsVotedIn_5 : decode cX0_ballotsVotedIn 5 = .ok (.bipush 31, 2) := by decide +kernel
theorem dX0_ballotsVotedIn_7 : decode cX0_ballotsVotedIn 7 = .ok (.if_icmp .ge 25, 3) := by decide +kernel
theorem dX0_ballotsVotedIn_10 : decode cX0_ballotsVotedIn 10 = .ok (.aload_n 0, 1) := by decide +kernel
theorem dX0_ballotsVotedIn_11 : decode cX0_ballotsVotedIn 11 = .ok (.getfield 16, 3) := by decide +kernel
theorem dX0_ballotsVotedIn_14 : decode cX0_ballotsVotedIn 14 = .ok (.iload_n 3, 1) := by decide +kernel
theorem dX0_ballotsVotedIn_15 : decode cX0_ballotsVotedIn 15 = .ok (.iaload, 1) := by decide +kernel
theorem dX0_ballotsVotedIn_16 : decode cX0_ballotsVotedIn 16 = .ok (.iload_n 1, 1) := by decide +kernel
theorem dX0_ballotsVotedIn_17 : decode cX0_ballotsVotedIn 17 = .ok (.invokestatic 136, 3) := by decide +kernel
theorem dX0_ballotsVotedIn_20 : decode cX0_ballotsVotedIn 20 = .ok (.ifCond .eq 6, 3) := by decide +kernel
theorem dX0_ballotsVotedIn_23 : decode cX0_ballotsVotedIn 23 = .ok (.iinc 2 1, 3) := by decide +kernel
theorem dX0_ballotsVotedIn_26 : decode cX0_ballotsVotedIn 26 = .ok (.iinc 3 1, 3) := by decide +kernel
theorem dX0_ballotsVotedIn_29 : decode cX0_ballotsVotedIn 29 = .ok (.goto (-25), 3) := by decide +kernel
theorem dX0_ballotsVotedIn_32 : decode cX0_ballotsVotedIn 32 = .ok (.iload_n 2, 1) := by decide +kernel
theorem dX0_ballotsVotedIn_33 : decode cX0_ballotsVotedIn 33 = .ok (.ireturn, 1) := by decide +kernel
theorem dX0_allVotes_0 : decode cX0_allVotes 0 = .ok (.iconst 0, 1) := by decide +kernel
theorem dX0_allVotes_1 : decode cX0_allVotes 1 = .ok (.istore_n 1, 1) := by decide +kernel
theorem dX0_allVotes_2 : decode cX0_allVotes 2 = .ok (.iconst 0, 1) := by decide +kernel
theorem dX0_allVotes_3 : decode cX0_allVotes 3 = .ok (.istore_n 2, 1) := by decide +kernel
theorem dX0_allVotes_4 : decode cX0_allVotes 4 = .ok (.iload_n 2, 1) := by decide +kernel
theorem dX0_allVotes_5 : decode cX0_allVotes 5 = .ok (.bipush 31, 2) := by decide +kernel
theorem dX0_allVotes_7 : decode cX0_allVotes 7 = .ok (.if_icmp .ge 21, 3) := by decide +kernel
theorem dX0_allVotes_10 : decode cX0_allVotes 10 = .ok (.iload_n 1, 1) := by decide +kernel
theorem dX0_allVotes_11 : decode cX0_allVotes 11 = .ok (.aload_n 0, 1) := by decide +kernel
theorem dX0_allVotes_12 : decode cX0_allVotes 12 = .ok (.getfield 16, 3) := by decide +kernel
theorem dX0_allVotes_15 : decode cX0_allVotes 15 = .ok (.iload_n 2, 1) := by decide +kernel
theorem dX0_allVotes_16 : decode cX0_allVotes 16 = .ok (.iaload, 1) := by decide +kernel
theorem dX0_allVotes_17 : decode cX0_allVotes 17 = .ok (.invokestatic 67, 3) := by decide +kernel
theorem dX0_allVotes_20 : decode cX0_allVotes 20 = .ok (.iadd, 1) := by decide +kernel
theorem dX0_allVotes_21 : decode cX0_allVotes 21 = .ok (.istore_n 1, 1) := by decide +kernel
theorem dX0_allVotes_22 : decode cX0_allVotes 22 = .ok (.iinc 2 1, 3) := by decide +kernel
theorem dX0_allVotes_25 : decode cX0_allVotes 25 = .ok (.goto (-21), 3) := by decide +kernel
theorem dX0_allVotes_28 : decode cX0_allVotes 28 = .ok (.iload_n 1, 1) := by decide +kernel
theorem dX0_allVotes_29 : decode cX0_allVotes 29 = .ok (.ireturn, 1) := by decide +kernel
theorem dX0_ballotsWithChosen_0 : decode cX0_ballotsWithChosen 0 = .ok (.iconst 0, 1) := by decide +kernel
theorem dX0_ballotsWithChosen_1 : decode cX0_ballotsWithChosen 1 = .ok (.istore_n 1, 1) := by decide +kernel
theorem dX0_ballotsWithChosen_2 : decode cX0_ballotsWithChosen 2 = .ok (.iconst 0, 1) := by decide +kernel
theorem dX0_ballotsWithChosen_3 : decode cX0_ballotsWithChosen 3 = .ok (.istore_n 2, 1) := by decide +kernel
theorem dX0_ballotsWithChosen_4 : decode cX0_ballotsWithChosen 4 = .ok (.iload_n 2, 1) := by decide +kernel
theorem dX0_ballotsWithChosen_5 : decode cX0_ballotsWithChosen 5 = .ok (.bipush 31, 2) := by decide +kernel
theorem dX0_ballotsWithChosen_7 : decode cX0_ballotsWithChosen 7 = .ok (.if_icmp .ge 21, 3) := by decide +kernel
theorem dX0_ballotsWithChosen_10 : decode cX0_ballotsWithChosen 10 = .ok (.aload_n 0, 1) := by decide +kernel
theorem dX0_ballotsWithChosen_11 : decode cX0_ballotsWithChosen 11 = .ok (.iload_n 2, 1) := by decide +kernel
theorem dX0_ballotsWithChosen_12 : decode cX0_ballotsWithChosen 12 = .ok (.invokevirtual 95, 3) := by decide +kernel
theorem dX0_ballotsWithChosen_15 : decode cX0_ballotsWithChosen 15 = .ok (.iconst (-1), 1) := by decide +kernel
theorem dX0_ballotsWithChosen_16 : decode cX0_ballotsWithChosen 16 = .ok (.if_icmp .eq 6, 3) := by decide +kernel
theorem dX0_ballotsWithChosen_19 : decode cX0_ballotsWithChosen 19 = .ok (.iinc 1 1, 3) := by decide +kernel
theorem dX0_ballotsWithChosen_22 : decode cX0_ballotsWithChosen 22 = .ok (.iinc 2 1, 3) := by decide +kernel
theorem dX0_ballotsWithChosen_25 : decode cX0_ballotsWithChosen 25 = .ok (.goto (-21), 3) := by decide +kernel
theorem dX0_ballotsWithChosen_28 : decode cX0_ballotsWithChosen 28 = .ok (.iload_n 1, 1) := by decide +kernel
theorem dX0_ballotsWithChosen_29 : decode cX0_ballotsWithChosen 29 = .ok (.ireturn, 1) := by decide +kernel
theorem dX0_differentChosen_0 : decode cX0_differentChosen 0 = .ok (.iconst 0, 1) := by decide +kernel
theorem dX0_differentChosen_1 : decode cX0_differentChosen 1 = .ok (.istore_n 1, 1) := by decide +kernel
theorem dX0_differentChosen_2 : decode cX0_differentChosen 2 = .ok (.iconst 0, 1) := by decide +kernel
theorem dX0_differentChosen_3 : decode cX0_differentChosen 3 = .ok (.istore_n 2, 1) := by decide +kernel
theorem dX0_differentChosen_4 : decode cX0_differentChosen 4 = .ok (.iload_n 2, 1) := by decide +kernel
theorem dX0_differentChosen_5 : decode cX0_differentChosen 5 = .ok (.bipush 31, 2) := by decide +kernel
theorem dX0_differentChosen_7 : decode cX0_differentChosen 7 = .ok (.if_icmp .ge 26, 3) := by decide +kernel
theorem dX0_differentChosen_10 : decode cX0_differentChosen 10 = .ok (.aload_n 0, 1) := by decide +kernel
theorem dX0_differentChosen_11 : decode cX0_differentChosen 11 = .ok (.iload_n 2, 1) := by decide +kernel
theorem dX0_differentChosen_12 : decode cX0_differentChosen 12 = .ok (.invokevirtual 95, 3) := by decide +kernel
theorem dX0_differentChosen_15 : decode cX0_differentChosen 15 = .ok (.istore_n 3, 1) := by decide +kernel
theorem dX0_differentChosen_16 : decode cX0_differentChosen 16 = .ok (.iload_n 3, 1) := by decide +kernel
theorem dX0_differentChosen_17 : decode cX0_differentChosen 17 = .ok (.iconst (-1), 1) := by decide +kernel
theorem dX0_differentChosen_18 : decode cX0_differentChosen 18 = .ok (.if_icmp .eq 9, 3) := by decide +kernel
theorem dX0_differentChosen_21 : decode cX0_differentChosen 21 = .ok (.iload_n 1, 1) := by decide +kernel
theorem dX0_differentChosen_22 : decode cX0_differentChosen 22 = .ok (.iconst 1, 1) := by decide +kernel
theorem dX0_differentChosen_23 : decode cX0_differentChosen 23 = .ok (.iload_n 3, 1) := by decide +kernel
theorem dX0_differentChosen_24 : decode cX0_differentChosen 24 = .ok (.ishl, 1) := by decide +kernel
theorem dX0_differentChosen_25 : decode cX0_differentChosen 25 = .ok (.ior, 1) := by decide +kernel
theorem dX0_differentChosen_26 : decode cX0_differentChosen 26 = .ok (.istore_n 1, 1) := by decide +kernel
theorem dX0_differentChosen_27 : decode cX0_differentChosen 27 = .ok (.iinc 2 1, 3) := by decide +kernel
theorem dX0_differentChosen_30 : decode cX0_differentChosen 30 = .ok (.goto (-26), 3) := by decide +kernel
theorem dX0_differentChosen_33 : decode cX0_differentChosen 33 = .ok (.iload_n 1, 1) := by decide +kernel
theorem dX0_differentChosen_34 : decode cX0_differentChosen 34 = .ok (.invokestatic 67, 3) := by decide +kernel
theorem dX0_differentChosen_37 : decode cX0_differentChosen 37 = .ok (.ireturn, 1) := by decide +kernel
theorem dJ_bitCount_0 : decode cJ_bitCount 0 = .ok (.iload_n 0, 1) := by decide +kernel
theorem dJ_bitCount_1 : decode cJ_bitCount 1 = .ok (.iload_n 0, 1) := by decide +kernel
theorem dJ_bitCount_2 : decode cJ_bitCount 2 = .ok (.iconst 1, 1) := by decide +kernel
theorem dJ_bitCount_3 : decode cJ_bitCount 3 = .ok (.iushr, 1) := by decide +kernel
theorem dJ_bitCount_4 : decode cJ_bitCount 4 = .ok (.ldc_w 265, 3) := by decide +kernel
theorem dJ_bitCount_7 : decode cJ_bitCount 7 = .ok (.iand, 1) := by decide +kernel
theorem dJ_bitCount_8 : decode cJ_bitCount 8 = .ok (.isub, 1) := by decide +kernel
theorem dJ_bitCount_9 : decode cJ_bitCount 9 = .ok (.istore_n 0, 1) := by decide +kernel
theorem dJ_bitCount_10 : decode cJ_bitCount 10 = .ok (.iload_n 0, 1) := by decide +kernel
theorem dJ_bitCount_11 : decode cJ_bitCount 11 = .ok (.ldc_w 266, 3) := by decide +kernel
theorem dJ_bitCount_14 : decode cJ_bitCount 14 = .ok (.iand, 1) := by decide +kernel
theorem dJ_bitCount_15 : decode cJ_bitCount 15 = .ok (.iload_n 0, 1) := by decide +kernel
theorem dJ_bitCount_16 : decode cJ_bitCount 16 = .ok (.iconst 2, 1) := by decide +kernel
theorem dJ_bitCount_17 : decode cJ_bitCount 17 = .ok (.iushr, 1) := by decide +kernel
theorem dJ_bitCount_18 : decode cJ_bitCount 18 = .ok (.ldc_w 266, 3) := by decide +kernel
theorem dJ_bitCount_21 : decode cJ_bitCount 21 = .ok (.iand, 1) := by decide +kernel
theorem dJ_bitCount_22 : decode cJ_bitCount 22 = .ok (.iadd, 1) := by decide +kernel
theorem dJ_bitCount_23 : decode cJ_bitCount 23 = .ok (.istore_n 0, 1) := by decide +kernel
theorem dJ_bitCount_24 : decode cJ_bitCount 24 = .ok (.iload_n 0, 1) := by decide +kernel
theorem dJ_bitCount_25 : decode cJ_bitCount 25 = .ok (.iload_n 0, 1) := by decide +kernel
theorem dJ_bitCount_26 : decode cJ_bitCount 26 = .ok (.iconst 4, 1) := by decide +kernel
theorem dJ_bitCount_27 : decode cJ_bitCount 27 = .ok (.iushr, 1) := by decide +kernel
theorem dJ_bitCount_28 : decode cJ_bitCount 28 = .ok (.iadd, 1) := by decide +kernel
theorem dJ_bitCount_29 : decode cJ_bitCount 29 = .ok (.ldc_w 267, 3) := by decide +kernel
theorem dJ_bitCount_32 : decode cJ_bitCount 32 = .ok (.iand, 1) := by decide +kernel
theorem dJ_bitCount_33 : decode cJ_bitCount 33 = .ok (.istore_n 0, 1) := by decide +kernel
theorem dJ_bitCount_34 : decode cJ_bitCount 34 = .ok (.iload_n 0, 1) := by decide +kernel
theorem dJ_bitCount_35 : decode cJ_bitCount 35 = .ok (.iload_n 0, 1) := by decide +kernel
theorem dJ_bitCount_36 : decode cJ_bitCount 36 = .ok (.bipush 8, 2) := by decide +kernel
theorem dJ_bitCount_38 : decode cJ_bitCount 38 = .ok (.iushr, 1) := by decide +kernel
theorem dJ_bitCount_39 : decode cJ_bitCount 39 = .ok (.iadd, 1) := by decide +kernel
theorem dJ_bitCount_40 : decode cJ_bitCount 40 = .ok (.istore_n 0, 1) := by decide +kernel
theorem dJ_bitCount_41 : decode cJ_bitCount 41 = .ok (.iload_n 0, 1) := by decide +kernel
theorem dJ_bitCount_42 : decode cJ_bitCount 42 = .ok (.iload_n 0, 1) := by decide +kernel
theorem dJ_bitCount_43 : decode cJ_bitCount 43 = .ok (.bipush 16, 2) := by decide +kernel
theorem dJ_bitCount_45 : decode cJ_bitCount 45 = .ok (.iushr, 1) := by decide +kernel
theorem dJ_bitCount_46 : decode cJ_bitCount 46 = .ok (.iadd, 1) := by decide +kernel
theorem dJ_bitCount_47 : decode cJ_bitCount 47 = .ok (.istore_n 0, 1) := by decide +kernel
theorem dJ_bitCount_48 : decode cJ_bitCount 48 = .ok (.iload_n 0, 1) := by decide +kernel
theorem dJ_bitCount_49 : decode cJ_bitCount 49 = .ok (.bipush 63, 2) := by decide +kernel
theorem dJ_bitCount_51 : decode cJ_bitCount 51 = .ok (.iand, 1) := by decide +kernel
theorem dJ_bitCount_52 : decode cJ_bitCount 52 = .ok (.ireturn, 1) := by decide +kernel
theorem dA_fill_0 : decode cA_fill 0 = .ok (.iconst 0, 1) := by decide +kernel
theorem dA_fill_1 : decode cA_fill 1 = .ok (.istore_n 2, 1) := by decide +kernel
theorem dA_fill_2 : decode cA_fill 2 = .ok (.aload_n 0, 1) := by decide +kernel
theorem dA_fill_3 : decode cA_fill 3 = .ok (.arraylength, 1) := by decide +kernel
theorem dA_fill_4 : decode cA_fill 4 = .ok (.istore_n 3, 1) := by decide +kernel
theorem dA_fill_5 : decode cA_fill 5 = .ok (.iload_n 2, 1) := by decide +kernel
theorem dA_fill_6 : decode cA_fill 6 = .ok (.iload_n 3, 1) := by decide +kernel
theorem dA_fill_7 : decode cA_fill 7 = .ok (.if_icmp .ge 13, 3) := by decide +kernel
theorem dA_fill_10 : decode cA_fill 10 = .ok (.aload_n 0, 1) := by decide +kernel
theorem dA_fill_11 : decode cA_fill 11 = .ok (.iload_n 2, 1) := by decide +kernel
theorem dA_fill_12 : decode cA_fill 12 = .ok (.iload_n 1, 1) := by decide +kernel
theorem dA_fill_13 : decode cA_fill 13 = .ok (.iastore, 1) := by decide +kernel
theorem dA_fill_14 : decode cA_fill 14 = .ok (.iinc 2 1, 3) := by decide +kernel
theorem dA_fill_17 : decode cA_fill 17 = .ok (.goto (-12), 3) := by decide +kernel
theorem dA_fill_20 : decode cA_fill 20 = .ok (.return_, 1) := by decide +kernel
