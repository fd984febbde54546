theorem dX1_thrown_0 : decode cX1_thrown 0 = .ok (.aload_n 0, 1) := by decide +kernel
theorem dX1_thrown_1 : decode cX1_thrown 1 = .ok (.getfield 23, 3) := by decide +kernel
theorem dX1_thrown_4 : decode cX1_thrown 4 = .ok (.ireturn, 1) := by decide +kernel
theorem dX1_fail_0 : decode cX1_fail 0 = .ok (.aload_n 0, 1) := by decide +kernel
theorem dX1_fail_1 : decode cX1_fail 1 = .ok (.iload_n 1, 1) := by decide +kernel
theorem dX1_fail_2 : decode cX1_fail 2 = .ok (.putfield 23, 3) := by decide +kernel
theorem dX1_fail_5 : decode cX1_fail 5 = .ok (.iconst 0, 1) := by decide +kernel
theorem dX1_fail_6 : decode cX1_fail 6 = .ok (.ireturn, 1) := by decide +kernel
theorem dX1_out_0 : decode cX1_out 0 = .ok (.iload_n 0, 1) := by decide +kernel
theorem dX1_out_1 : decode cX1_out 1 = .ok (.ifCond .lt 8, 3) := by decide +kernel
theorem dX1_out_4 : decode cX1_out 4 = .ok (.iload_n 0, 1) := by decide +kernel
theorem dX1_out_5 : decode cX1_out 5 = .ok (.iload_n 1, 1) := by decide +kernel
theorem dX1_out_6 : decode cX1_out 6 = .ok (.if_icmp .lt 7, 3) := by decide +kernel
theorem dX1_out_9 : decode cX1_out 9 = .ok (.iconst 1, 1) := by decide +kernel
theorem dX1_out_10 : decode cX1_out 10 = .ok (.goto 4, 3) := by decide +kernel
theorem dX1_out_13 : decode cX1_out 13 = .ok (.iconst 0, 1) := by decide +kernel
theorem dX1_out_14 : decode cX1_out 14 = .ok (.ireturn, 1) := by decide +kernel
theorem dX1_weight_0 : decode cX1_weight 0 = .ok (.aload_n 0, 1) := by decide +kernel
theorem dX1_weight_1 : decode cX1_weight 1 = .ok (.iload_n 1, 1) := by decide +kernel
theorem dX1_weight_2 : decode cX1_weight 2 = .ok (.bipush 10, 2) := by decide +kernel
theorem dX1_weight_4 : decode cX1_weight 4 = .ok (.invokestatic 26, 3) := by decide +kernel
theorem dX1_weight_7 : decode cX1_weight 7 = .ok (.ifCond .eq 7, 3) := by decide +kernel
theorem dX1_weight_10 : decode cX1_weight 10 = .ok (.iconst 1, 1) := by decide +kernel
theorem dX1_weight_11 : decode cX1_weight 11 = .ok (.goto 18, 3) := by decide +kernel
theorem dX1_weight_14 : decode cX1_weight 14 = .ok (.iload_n 2, 1) := by decide +kernel
theorem dX1_weight_15 : decode cX1_weight 15 = .ok (.ifCond .lt 9, 3) := by decide +kernel
theorem dX1_weight_18 : decode cX1_weight 18 = .ok (.iload_n 2, 1) := by decide +kernel
theorem dX1_weight_19 : decode cX1_weight 19 = .ok (.bipush 50, 2) := by decide +kernel
theorem dX1_weight_21 : decode cX1_weight 21 = .ok (.if_icmp .le 7, 3) := by decide +kernel
theorem dX1_weight_24 : decode cX1_weight 24 = .ok (.iconst 2, 1) := by decide +kernel
theorem dX1_weight_25 : decode cX1_weight 25 = .ok (.goto 4, 3) := by decide +kernel
theorem dX1_weight_28 : decode cX1_weight 28 = .ok (.iconst 0, 1) := by decide +kernel
theorem dX1_weight_29 : decode cX1_weight 29 = .ok (.putfield 23, 3) := by decide +kernel
theorem dX1_weight_32 : decode cX1_weight 32 = .ok (.aload_n 0, 1) := by decide +kernel
theorem dX1_weight_33 : decode cX1_weight 33 = .ok (.getfield 23, 3) := by decide +kernel
theorem dX1_weight_36 : decode cX1_weight 36 = .ok (.ifCond .le 5, 3) := by decide +kernel
theorem dX1_weight_39 : decode cX1_weight 39 = .ok (.iconst 0, 1) := by decide +kernel
theorem dX1_weight_40 : decode cX1_weight 40 = .ok (.ireturn, 1) := by decide +kernel
theorem dX1_weight_41 : decode cX1_weight 41 = .ok (.aload_n 0, 1) := by decide +kernel
theorem dX1_weight_42 : decode cX1_weight 42 = .ok (.getfield 9, 3) := by decide +kernel
theorem dX1_weight_45 : decode cX1_weight 45 = .ok (.iload_n 1, 1) := by decide +kernel
theorem dX1_weight_46 : decode cX1_weight 46 = .ok (.iaload, 1) := by decide +kernel
theorem dX1_weight_47 : decode cX1_weight 47 = .ok (.istore_n 3, 1) := by decide +kernel
theorem dX1_weight_48 : decode cX1_weight 48 = .ok (.aload_n 0, 1) := by decide +kernel
theorem dX1_weight_49 : decode cX1_weight 49 = .ok (.getfield 9, 3) := by decide +kernel
theorem dX1_weight_52 : decode cX1_weight 52 = .ok (.iload_n 1, 1) := by decide +kernel
theorem dX1_weight_53 : decode cX1_weight 53 = .ok (.iload_n 2, 1) := by decide +kernel
theorem dX1_weight_54 : decode cX1_weight 54 = .ok (.iastore, 1) := by decide +kernel
theorem dX1_weight_55 : decode cX1_weight 55 = .ok (.iload_n 3, 1) := by decide +kernel
theorem dX1_weight_56 : decode cX1_weight 56 = .ok (.ireturn, 1) := by decide +kernel
theorem dX1_need_0 : decode cX1_need 0 = .ok (.aload_n 0, 1) := by decide +kernel
theorem dX1_need_1 : decode cX1_need 1 = .ok (.iload_n 1, 1) := by decide +kernel
theorem dX1_need_2 : decode cX1_need 2 = .ok (.iconst 1, 1) := by decide +kernel
theorem dX1_need_3 : decode cX1_need 3 = .ok (.if_icmp .lt 10, 3) := by decide +kernel
theorem dX1_need_6 : decode cX1_need 6 = .ok (.iload_n 1, 1) := by decide +kernel
theorem dX1_need_7 : decode cX1_need 7 = .ok (.sipush 500, 3) := by decide +kernel
theorem dX1_need_10 : decode cX1_need 10 = .ok (.if_icmp .le 7, 3) := by decide +kernel
theorem dX1_need_13 : decode cX1_need 13 = .ok (.iconst 1, 1) := by decide +kernel
theorem dX1_need_14 : decode cX1_need 14 = .ok (.goto 4, 3) := by decide +kernel
theorem dX1_need_17 : decode cX1_need 17 = .ok (.iconst 0, 1) := by decide +kernel
theorem dX1_need_18 : decode cX1_need 18 = .ok (.putfield 23, 3) := by decide +kernel
theorem dX1_need_21 : decode cX1_need 21 = .ok (.aload_n 0, 1) := by decide +kernel
theorem dX1_need_22 : decode cX1_need 22 = .ok (.getfield 23, 3) := by decide +kernel
theorem dX1_need_25 : decode cX1_need 25 = .ok (.ifCond .le 5, 3) := by decide +kernel
theorem dX1_need_28 : decode cX1_need 28 = .ok (.iconst 0, 1) := by decide +kernel
theorem dX1_need_29 : decode cX1_need 29 = .ok (.ireturn, 1) := by decide +kernel
theorem dX1_need_30 : decode cX1_need 30 = .ok (.aload_n 0, 1) := by decide +kernel
theorem dX1_need_31 : decode cX1_need 31 = .ok (.getfield 19, 3) := by decide +kernel
theorem dX1_need_34 : decode cX1_need 34 = .ok (.istore_n 2, 1) := by decide +kernel
theorem dX1_need_35 : decode cX1_need 35 = .ok (.aload_n 0, 1) := by decide +kernel
theorem dX1_need_36 : decode cX1_need 36 = .ok (.iload_n 1, 1) := by decide +kernel
theorem dX1_need_37 : decode cX1_need 37 = .ok (.putfield 19, 3) := by decide +kernel
theorem dX1_need_40 : decode cX1_need 40 = .ok (.iload_n 2, 1) := by decide +kernel
theorem dX1_need_41 : decode cX1_need 41 = .ok (.ireturn, 1) := by decide +kernel
theorem dX1_promise_0 : decode cX1_promise 0 = .ok (.aload_n 0, 1) := by decide +kernel
theorem dX1_promise_1 : decode cX1_promise 1 = .ok (.iload_n 1, 1) := by decide +kernel
theorem dX1_promise_2 : decode cX1_promise 2 = .ok (.bipush 10, 2) := by decide +kernel
theorem dX1_promise_4 : decode cX1_promise 4 = .ok (.invokestatic 26, 3) := by decide +kernel
theorem dX1_promise_7 : decode cX1_promise 7 = .ok (.ifCond .ne 12, 3) := by decide +kernel
theorem dX1_promise_10 : decode cX1_promise 10 = .ok (.iload_n 2, 1) := by decide +kernel
theorem dX1_promise_11 : decode cX1_promise 11 = .ok (.bipush 31, 2) := by decide +kernel
theorem dX1_promise_13 : decode cX1_promise 13 = .ok (.invokestatic 26, 3) := by decide +kernel
theorem dX1_promise_16 : decode cX1_promise 16 = .ok (.ifCond .eq 7, 3) := by decide +kernel
theorem dX1_promise_19 : decode cX1_promise 19 = .ok (.iconst 1, 1) := by decide +kernel
theorem dX1_promise_20 : decode cX1_promise 20 = .ok (.goto 4, 3) := by decide +kernel
theorem dX1_promise_23 : decode cX1_promise 23 = .ok (.iconst 0, 1) := by decide +kernel
theorem dX1_promise_24 : decode cX1_promise 24 = .ok (.putfield 23, 3) := by decide +kernel
theorem dX1_promise_27 : decode cX1_promise 27 = .ok (.aload_n 0, 1) := by decide +kernel
theorem dX1_promise_28 : decode cX1_promise 28 = .ok (.getfield 23, 3) := by decide +kernel
theorem dX1_promise_31 : decode cX1_promise 31 = .ok (.ifCond .le 5, 3) := by decide +kernel
theorem dX1_promise_34 : decode cX1_promise 34 = .ok (.iconst 0, 1) := by decide +kernel
theorem dX1_promise_35 : decode cX1_promise 35 = .ok (.ireturn, 1) := by decide +kernel
theorem dX1_promise_36 : decode cX1_promise 36 = .ok (.aload_n 0, 1) := by decide +kernel
theorem dX1_promise_37 : decode cX1_promise 37 = .ok (.getfield 13, 3) := by decide +kernel
theorem dX1_promise_40 : decode cX1_promise 40 = .ok (.iload_n 1, 1) := by decide +kernel
theorem dX1_promise_41 : decode cX1_promise 41 = .ok (.iaload, 1) := by decide +kernel
theorem dX1_promise_42 : decode cX1_promise 42 = .ok (.iload_n 2, 1) := by decide +kernel
theorem dX1_promise_43 : decode cX1_promise 43 = .ok (.if_icmp .le 9, 3) := by decide +kernel
theorem dX1_promise_46 : decode cX1_promise 46 = .ok (.aload_n 0, 1) := by decide +kernel
theorem dX1_promise_47 : decode cX1_promise 47 = .ok (.iconst 2, 1) := by decide +kernel
theorem dX1_promise_48 : decode cX1_promise 48 = .ok (.invokevirtual 30, 3) := by decide +kernel
theorem dX1_promise_51 : decode cX1_promise 51 = .ok (.ireturn, 1) := by decide +kernel
theorem dX1_promise_52 : decode cX1_promise 52 = .ok (.aload_n 0, 1) := by decide +kernel
theorem dX1_promise_53 : decode cX1_promise 53 = .ok (.getfield 13, 3) := by decide +kernel
theorem dX1_promise_56 : decode cX1_promise 56 = .ok (.iload_n 1, 1) := by decide +kernel
theorem dX1_promise_57 : decode cX1_promise 57 = .ok (.iaload, 1) := by decide +kernel
theorem dX1_promise_58 : decode cX1_promise 58 = .ok (.istore_n 3, 1) := by decide +kernel
theorem dX1_promise_59 : decode cX1_promise 59 = .ok (.aload_n 0, 1) := by decide +kernel
theorem dX1_promise_60 : decode cX1_promise 60 = .ok (.getfield 13, 3) := by decide +kernel
theorem dX1_promise_63 : decode cX1_promise 63 = .ok (.iload_n 1, 1) := by decide +kernel
theorem dX1_promise_64 : decode cX1_promise 64 = .ok (.iload_n 2, 1) := by decide +kernel
theorem dX1_promise_65 : decode cX1_promise 65 = .ok (.iastore, 1) := by decide +kernel
theorem dX1_promise_66 : decode cX1_promise 66 = .ok (.iload_n 3, 1) := by decide +kernel
theorem dX1_promise_67 : decode cX1_promise 67 = .ok (.ireturn, 1) := by decide +kernel
theorem dX1_voteOf_0 : decode cX1_voteOf 0 = .ok (.aload_n 0, 1) := by decide +kernel
theorem dX1_voteOf_1 : decode cX1_voteOf 1 = .ok (.getfield 16, 3) := by decide +kernel
theorem dX1_voteOf_4 : decode cX1_voteOf 4 = .ok (.bipush 31, 2) := by decide +kernel
theorem dX1_voteOf_6 : decode cX1_voteOf 6 = .ok (.iload_n 1, 1) := by decide +kernel
theorem dX1_voteOf_7 : decode cX1_voteOf 7 = .ok (.imul, 1) := by decide +kernel
theorem dX1_voteOf_8 : decode cX1_voteOf 8 = .ok (.iload_n 2, 1) := by decide +kernel
theorem dX1_voteOf_9 : decode cX1_voteOf 9 = .ok (.iadd, 1) := by decide +kernel
theorem dX1_voteOf_10 : decode cX1_voteOf 10 = .ok (.iaload, 1) := by decide +kernel
theorem dX1_voteOf_11 : decode cX1_voteOf 11 = .ok (.ireturn, 1) := by decide +kernel
theorem dX1_isOpen_0 : decode cX1_isOpen 0 = .ok (.aload_n 0, 1) := by decide +kernel
theorem dX1_isOpen_1 : decode cX1_isOpen 1 = .ok (.iload_n 1, 1) := by decide +kernel
theorem dX1_isOpen_2 : decode cX1_isOpen 2 = .ok (.iload_n 2, 1) := by decide +kernel
theorem dX1_isOpen_3 : decode cX1_isOpen 3 = .ok (.invokevirtual 34, 3) := by decide +kernel
theorem dX1_isOpen_6 : decode cX1_isOpen 6 = .ok (.iconst (-1), 1) := by decide +kernel
theorem dX1_isOpen_7 : decode cX1_isOpen 7 = .ok (.if_icmp .ne 17, 3) := by decide +kernel
theorem dX1_isOpen_10 : decode cX1_isOpen 10 = .ok (.aload_n 0, 1) := by decide +kernel
theorem dX1_isOpen_11 : decode cX1_isOpen 11 = .ok (.getfield 13, 3) := by decide +kernel
theorem dX1_isOpen_14 : decode cX1_isOpen 14 = .ok (.iload_n 1, 1) := by decide +kernel
theorem dX1_isOpen_15 : decode cX1_isOpen 15 = .ok (.iaload, 1) := by decide +kernel
theorem dX1_isOpen_16 : decode cX1_isOpen 16 = .ok (.iload_n 2, 1) := by decide +kernel
theorem dX1_isOpen_17 : decode cX1_isOpen 17 = .ok (.if_icmp .gt 7, 3) := by decide +kernel
theorem dX1_isOpen_20 : decode cX1_isOpen 20 = .ok (.iconst 1, 1) := by decide +kernel
theorem dX1_isOpen_21 : decode cX1_isOpen 21 = .ok (.goto 4, 3) := by decide +kernel
theorem dX1_isOpen_24 : decode cX1_isOpen 24 = .ok (.iconst 0, 1) := by decide +kernel
theorem dX1_isOpen_25 : decode cX1_isOpen 25 = .ok (.ireturn, 1) := by decide +kernel
theorem dX1_others_0 : decode cX1_others 0 = .ok (.iconst 0, 1) := by decide +kernel
theorem dX1_others_1 : decode cX1_others 1 = .ok (.istore_n 3, 1) := by decide +kernel
theorem dX1_others_2 : decode cX1_others 2 = .ok (.iload_n 3, 1) := by decide +kernel
theorem dX1_others_3 : decode cX1_others 3 = .ok (.bipush 10, 2) := by decide +kernel
theorem dX1_others_5 : decode cX1_others 5 = .ok (.if_icmp .ge 31, 3) := by decide +kernel
theorem dX1_others_8 : decode cX1_others 8 = .ok (.aload_n 0, 1) := by decide +kernel
theorem dX1_others_9 : decode cX1_others 9 = .ok (.iload_n 3, 1) := by decide +kernel
theorem dX1_others_10 : decode cX1_others 10 = .ok (.iload_n 1, 1) := by decide +kernel
theorem dX1_others_11 : decode cX1_others 11 = .ok (.invokevirtual 34, 3) := by decide +kernel
theorem dX1_others_14 : decode cX1_others 14 = .ok (.iconst (-1), 1) := by decide +kernel
theorem dX1_others_15 : decode cX1_others 15 = .ok (.if_icmp .eq 15, 3) := by decide +kernel
theorem dX1_others_18 : decode cX1_others 18 = .ok (.aload_n 0, 1) := by decide +kernel
theorem dX1_others_19 : decode cX1_others 19 = .ok (.iload_n 3, 1) := by decide +kernel
theorem dX1_others_20 : decode cX1_others 20 = .ok (.iload_n 1, 1) := by decide +kernel
theorem dX1_others_21 : decode cX1_others 21 = .ok (.invokevirtual 34, 3) := by decide +kernel
theorem dX1_others_24 : decode cX1_others 24 = .ok (.iload_n 2, 1) := by decide +kernel
theorem dX1_others_25 : decode cX1_others 25 = .ok (.if_icmp .eq 5, 3) := by decide +kernel
theorem dX1_others_28 : decode cX1_others 28 = .ok (.iconst 1, 1) := by decide +kernel
theorem dX1_others_29 : decode cX1_others 29 = .ok (.ireturn, 1) := by decide +kernel
theorem dX1_others_30 : decode cX1_others 30 = .ok (.iinc 3 1, 3) := by decide +kernel
theorem dX1_others_33 : decode cX1_others 33 = .ok (.goto (-31), 3) := by decide +kernel
theorem dX1_others_36 : decode cX1_others 36 = .ok (.iconst 0, 1) := by decide +kernel
theorem dX1_others_37 : decode cX1_others 37 = .ok (.ireturn, 1) := by decide +kernel
theorem dX1_vote_0 : decode cX1_vote 0 = .ok (.aload_n 0, 1) := by decide +kernel
theorem dX1_vote_1 : decode cX1_vote 1 = .ok (.iload_n 1, 1) := by decide +kernel
theorem dX1_vote_2 : decode cX1_vote 2 = .ok (.bipush 10, 2) := by decide +kernel
theorem dX1_vote_4 : decode cX1_vote 4 = .ok (.invokestatic 26, 3) := by decide +kernel
theorem dX1_vote_7 : decode cX1_vote 7 = .ok (.ifCond .ne 21, 3) := by decide +kernel
theorem dX1_vote_10 : decode cX1_vote 10 = .ok (.iload_n 2, 1) := by decide +kernel
theorem dX1_vote_11 : decode cX1_vote 11 = .ok (.bipush 31, 2) := by decide +kernel
theorem dX1_vote_13 : decode cX1_vote 13 = .ok (.invokestatic 26, 3) := by decide +kernel
theorem dX1_vote_16 : decode cX1_vote 16 = .ok (.ifCond .ne 12, 3) := by decide +kernel
theorem dX1_vote_19 : decode cX1_vote 19 = .ok (.iload_n 3, 1) := by decide +kernel
theorem dX1_vote_20 : decode cX1_vote 20 = .ok (.bipush 10, 2) := by decide +kernel
theorem dX1_vote_22 : decode cX1_vote 22 = .ok (.invokestatic 26, 3) := by decide +kernel
theorem dX1_vote_25 : decode cX1_vote 25 = .ok (.ifCond .eq 7, 3) := by decide +kernel
theorem dX1_vote_28 : decode cX1_vote 28 = .ok (.iconst 1, 1) := by decide +kernel
theorem dX1_vote_29 : decode cX1_vote 29 = .ok (.goto 4, 3) := by decide +kernel
theorem dX1_vote_32 : decode cX1_vote 32 = .ok (.iconst 0, 1) := by decide +kernel
theorem dX1_vote_33 : decode cX1_vote 33 = .ok (.putfield 23, 3) := by decide +kernel
theorem dX1_vote_36 : decode cX1_vote 36 = .ok (.aload_n 0, 1) := by decide +kernel
theorem dX1_vote_37 : decode cX1_vote 37 = .ok (.getfield 23, 3) := by decide +kernel
theorem dX1_vote_40 : decode cX1_vote 40 = .ok (.ifCond .le 5, 3) := by decide +kernel
theorem dX1_vote_43 : decode cX1_vote 43 = .ok (.iconst 0, 1) := by decide +kernel
theorem dX1_vote_44 : decode cX1_vote 44 = .ok (.ireturn, 1) := by decide +kernel
theorem dX1_vote_45 : decode cX1_vote 45 = .ok (.aload_n 0, 1) := by decide +kernel
theorem dX1_vote_46 : decode cX1_vote 46 = .ok (.iload_n 1, 1) := by decide +kernel
theorem dX1_vote_47 : decode cX1_vote 47 = .ok (.iload_n 2, 1) := by decide +kernel
theorem dX1_vote_48 : decode cX1_vote 48 = .ok (.invokevirtual 38, 3) := by decide +kernel
theorem dX1_vote_51 : decode cX1_vote 51 = .ok (.ifCond .eq 12, 3) := by decide +kernel
theorem dX1_vote_54 : decode cX1_vote 54 = .ok (.aload_n 0, 1) := by decide +kernel
theorem dX1_vote_55 : decode cX1_vote 55 = .ok (.iload_n 2, 1) := by decide +kernel
theorem dX1_vote_56 : decode cX1_vote 56 = .ok (.iload_n 3, 1) := by decide +kernel
theorem dX1_vote_57 : decode cX1_vote 57 = .ok (.invokevirtual 41, 3) := by decide +kernel
theorem dX1_vote_60 : decode cX1_vote 60 = .ok (.ifCond .eq 9, 3) := by decide +kernel
theorem dX1_vote_63 : decode cX1_vote 63 = .ok (.aload_n 0, 1) := by decide +kernel
theorem dX1_vote_64 : decode cX1_vote 64 = .ok (.iconst 2, 1) := by decide +kernel
theorem dX1_vote_65 : decode cX1_vote 65 = .ok (.invokevirtual 30, 3) := by decide +kernel
theorem dX1_vote_68 : decode cX1_vote 68 = .ok (.ireturn, 1) := by decide +kernel
theorem dX1_vote_69 : decode cX1_vote 69 = .ok (.aload_n 0, 1) := by decide +kernel
theorem dX1_vote_70 : decode cX1_vote 70 = .ok (.getfield 16, 3) := by decide +kernel
theorem dX1_vote_73 : decode cX1_vote 73 = .ok (.bipush 31, 2) := by decide +kernel
theorem dX1_vote_75 : decode cX1_vote 75 = .ok (.iload_n 1, 1) := by decide +kernel
theorem dX1_vote_76 : decode cX1_vote 76 = .ok (.imul, 1) := by decide +kernel
theorem dX1_vote_77 : decode cX1_vote 77 = .ok (.iload_n 2, 1) := by decide +kernel
theorem dX1_vote_78 : decode cX1_vote 78 = .ok (.iadd, 1) := by decide +kernel
theorem dX1_vote_79 : decode cX1_vote 79 = .ok (.iload_n 3, 1) := by decide +kernel
theorem dX1_vote_80 : decode cX1_vote 80 = .ok (.iastore, 1) := by decide +kernel
theorem dX1_vote_81 : decode cX1_vote 81 = .ok (.aload_n 0, 1) := by decide +kernel
theorem dX1_vote_82 : decode cX1_vote 82 = .ok (.getfield 13, 3) := by decide +kernel
theorem dX1_vote_85 : decode cX1_vote 85 = .ok (.iload_n 1, 1) := by decide +kernel
theorem dX1_vote_86 : decode cX1_vote 86 = .ok (.iload_n 2, 1) := by decide +kernel
theorem dX1_vote_87 : decode cX1_vote 87 = .ok (.iastore, 1) := by decide +kernel
theorem dX1_vote_88 : decode cX1_vote 88 = .ok (.iconst 0, 1) := by decide +kernel
theorem dX1_vote_89 : decode cX1_vote 89 = .ok (.istore 4, 2) := by decide +kernel
theorem dX1_vote_91 : decode cX1_vote 91 = .ok (.iconst 0, 1) := by decide +kernel
theorem dX1_vote_92 : decode cX1_vote 92 = .ok (.istore 5, 2) := by decide +kernel
theorem dX1_vote_94 : decode cX1_vote 94 = .ok (.iload 5, 2) := by decide +kernel
theorem dX1_vote_96 : decode cX1_vote 96 = .ok (.bipush 10, 2) := by decide +kernel
theorem dX1_vote_98 : decode cX1_vote 98 = .ok (.if_icmp .ge 23, 3) := by decide +kernel
theorem dX1_vote_101 : decode cX1_vote 101 = .ok (.aload_n 0, 1) := by decide +kernel
theorem dX1_vote_102 : decode cX1_vote 102 = .ok (.iload 5, 2) := by decide +kernel
theorem dX1_vote_104 : decode cX1_vote 104 = .ok (.iload_n 2, 1) := by decide +kernel
theorem dX1_vote_105 : decode cX1_vote 105 = .ok (.invokevirtual 34, 3) := by decide +kernel
theorem dX1_vote_108 : decode cX1_vote 108 = .ok (.iconst (-1), 1) := by decide +kernel
theorem dX1_vote_109 : decode cX1_vote 109 = .ok (.if_icmp .eq 6, 3) := by decide +kernel
theorem dX1_vote_112 : decode cX1_vote 112 = .ok (.iinc 4 1, 3) := by decide +kernel
theorem dX1_vote_115 : decode cX1_vote 115 = .ok (.iinc 5 1, 3) := by decide +kernel
theorem dX1_vote_118 : decode cX1_vote 118 = .ok (.goto (-24), 3) := by decide +kernel
theorem dX1_vote_121 : decode cX1_vote 121 = .ok (.iload 4, 2) := by decide +kernel
theorem dX1_vote_123 : decode cX1_vote 123 = .ok (.ireturn, 1) := by decide +kernel
theorem dX1_isEnough_0 : decode cX1_isEnough 0 = .ok (.iconst 0, 1) := by decide +kernel
theorem dX1_isEnough_1 : decode cX1_isEnough 1 = .ok (.istore_n 2, 1) := by decide +kernel
theorem dX1_isEnough_2 : decode cX1_isEnough 2 = .ok (.iconst 0, 1) := by decide +kernel
theorem dX1_isEnough_3 : decode cX1_isEnough 3 = .ok (.istore_n 3, 1) := by decide +kernel
theorem dX1_isEnough_4 : decode cX1_isEnough 4 = .ok (.iload_n 3, 1) := by decide +kernel
theorem dX1_isEnough_5 : decode cX1_isEnough 5 = .ok (.bipush 10, 2) := by decide +kernel
theorem dX1_isEnough_7 : decode cX1_isEnough 7 = .ok (.if_icmp .ge 27, 3) := by decide +kernel
theorem dX1_isEnough_10 : decode cX1_isEnough 10 = .ok (.iload_n 1, 1) := by decide +kernel
theorem dX1_isEnough_11 : decode cX1_isEnough 11 = .ok (.iload_n 3, 1) := by decide +kernel
theorem dX1_isEnough_12 : decode cX1_isEnough 12 = .ok (.ishr, 1) := by decide +kernel
theorem dX1_isEnough_13 : decode cX1_isEnough 13 = .ok (.iconst 1, 1) := by decide +kernel
theorem dX1_isEnough_14 : decode cX1_isEnough 14 = .ok (.iand, 1) := by decide +kernel
theorem dX1_isEnough_15 : decode cX1_isEnough 15 = .ok (.iconst 1, 1) := by decide +kernel
theorem dX1_isEnough_16 : decode cX1_isEnough 16 = .ok (.if_icmp .ne 12, 3) := by decide +kernel
theorem dX1_isEnough_19 : decode cX1_isEnough 19 = .ok (.iload_n 2, 1) := by decide +kernel
theorem dX1_isEnough_20 : decode cX1_isEnough 20 = .ok (.aload_n 0, 1) := by decide +kernel
theorem dX1_isEnough_21 : decode cX1_isEnough 21 = .ok (.getfield 9, 3) := by decide +kernel
theorem dX1_isEnough_24 : decode cX1_isEnough 24 = .ok (.iload_n 3, 1) := by decide +kernel
theorem dX1_isEnough_25 : decode cX1_isEnough 25 = .ok (.iaload, 1) := by decide +kernel
theorem dX1_isEnough_26 : decode cX1_isEnough 26 = .ok (.iadd, 1) := by decide +kernel
theorem dX1_isEnough_27 : decode cX1_isEnough 27 = .ok (.istore_n 2, 1) := by decide +kernel
theorem dX1_isEnough_28 : decode cX1_isEnough 28 = .ok (.iinc 3 1, 3) := by decide +kernel
theorem dX1_isEnough_31 : decode cX1_isEnough 31 = .ok (.goto (-27), 3) := by decide +kernel
theorem dX1_isEnough_34 : decode cX1_isEnough 34 = .ok (.iload_n 2, 1) := by decide +kernel
theorem dX1_isEnough_35 : decode cX1_isEnough 35 = .ok (.aload_n 0, 1) := by decide +kernel
theorem dX1_isEnough_36 : decode cX1_isEnough 36 = .ok (.getfield 19, 3) := by decide +kernel
theorem dX1_isEnough_39 : decode cX1_isEnough 39 = .ok (.if_icmp .lt 7, 3) := by decide +kernel
theorem dX1_isEnough_42 : decode cX1_isEnough 42 = .ok (.iconst 1, 1) := by decide +kernel
theorem dX1_isEnough_43 : decode cX1_isEnough 43 = .ok (.goto 4, 3) := by decide +kernel
theorem dX1_isEnough_46 : decode cX1_isEnough 46 = .ok (.iconst 0, 1) := by decide +kernel
theorem dX1_isEnough_47 : decode cX1_isEnough 47 = .ok (.ireturn, 1) := by decide +kernel
theorem dX1_ask_0 : decode cX1_ask 0 = .ok (.aload_n 0, 1) := by decide +kernel
theorem dX1_ask_1 : decode cX1_ask 1 = .ok (.iload_n 1, 1) := by decide +kernel
theorem dX1_ask_2 : decode cX1_ask 2 = .ok (.sipush 1024, 3) := by decide +kernel
theorem dX1_ask_5 : decode cX1_ask 5 = .ok (.invokestatic 26, 3) := by decide +kernel
theorem dX1_ask_8 : decode cX1_ask 8 = .ok (.ifCond .ne 12, 3) := by decide +kernel
theorem dX1_ask_11 : decode cX1_ask 11 = .ok (.iload_n 2, 1) := by decide +kernel
theorem dX1_ask_12 : decode cX1_ask 12 = .ok (.bipush 31, 2) := by decide +kernel
theorem dX1_ask_14 : decode cX1_ask 14 = .ok (.invokestatic 26, 3) := by decide +kernel
theorem dX1_ask_17 : decode cX1_ask 17 = .ok (.ifCond .eq 7, 3) := by decide +kernel
theorem dX1_ask_20 : decode cX1_ask 20 = .ok (.iconst 1, 1) := by decide +kernel
theorem dX1_ask_21 : decode cX1_ask 21 = .ok (.goto 4, 3) := by decide +kernel
theorem dX1_ask_24 : decode cX1_ask 24 = .ok (.iconst 0, 1) := by decide +kernel
theorem dX1_ask_25 : decode cX1_ask 25 = .ok (.putfield 23, 3) := by decide +kernel
theorem dX1_ask_28 : decode cX1_ask 28 = .ok (.aload_n 0, 1) := by decide +kernel
theorem dX1_ask_29 : decode cX1_ask 29 = .ok (.getfield 23, 3) := by decide +kernel
theorem dX1_ask_32 : decode cX1_ask 32 = .ok (.ifCond .le 5, 3) := by decide +kernel
theorem dX1_ask_35 : decode cX1_ask 35 = .ok (.iconst 0, 1) := by decide +kernel
theorem dX1_ask_36 : decode cX1_ask 36 = .ok (.ireturn, 1) := by decide +kernel
theorem dX1_ask_37 : decode cX1_ask 37 = .ok (.iconst 0, 1) := by decide +kernel
theorem dX1_ask_38 : decode cX1_ask 38 = .ok (.istore_n 3, 1) := by decide +kernel
theorem dX1_ask_39 : decode cX1_ask 39 = .ok (.iconst 0, 1) := by decide +kernel
theorem dX1_ask_40 : decode cX1_ask 40 = .ok (.istore 4, 2) := by decide +kernel
theorem dX1_ask_42 : decode cX1_ask 42 = .ok (.iload 4, 2) := by decide +kernel
theorem dX1_ask_44 : decode cX1_ask 44 = .ok (.bipush 10, 2) := by decide +kernel
theorem dX1_ask_46 : decode cX1_ask 46 = .ok (.if_icmp .ge 38, 3) := by decide +kernel
theorem dX1_ask_49 : decode cX1_ask 49 = .ok (.iload_n 3, 1) := by decide +kernel
theorem dX1_ask_50 : decode cX1_ask 50 = .ok (.iload_n 1, 1) := by decide +kernel
theorem dX1_ask_51 : decode cX1_ask 51 = .ok (.iload 4, 2) := by decide +kernel
theorem dX1_ask_53 : decode cX1_ask 53 = .ok (.ishr, 1) := by decide +kernel
theorem dX1_ask_54 : decode cX1_ask 54 = .ok (.iconst 1, 1) := by decide +kernel
theorem dX1_ask_55 : decode cX1_ask 55 = .ok (.iand, 1) := by decide +kernel
theorem dX1_ask_56 : decode cX1_ask 56 = .ok (.iconst 1, 1) := by decide +kernel
theorem dX1_ask_57 : decode cX1_ask 57 = .ok (.if_icmp .ne 18, 3) := by decide +kernel
theorem dX1_ask_60 : decode cX1_ask 60 = .ok (.aload_n 0, 1) := by decide +kernel
theorem dX1_ask_61 : decode cX1_ask 61 = .ok (.getfield 13, 3) := by decide +kernel
theorem dX1_ask_64 : decode cX1_ask 64 = .ok (.iload 4, 2) := by decide +kernel
theorem dX1_ask_66 : decode cX1_ask 66 = .ok (.iaload, 1) := by decide +kernel
theorem dX1_ask_67 : decode cX1_ask 67 = .ok (.iload_n 2, 1) := by decide +kernel
theorem dX1_ask_68 : decode cX1_ask 68 = .ok (.if_icmp .le 7, 3) := by decide +kernel
theorem dX1_ask_71 : decode cX1_ask 71 = .ok (.iconst 1, 1) := by decide +kernel
theorem dX1_ask_72 : decode cX1_ask 72 = .ok (.goto 4, 3) := by decide +kernel
theorem dX1_ask_75 : decode cX1_ask 75 = .ok (.iconst 0, 1) := by decide +kernel
theorem dX1_ask_76 : decode cX1_ask 76 = .ok (.ior, 1) := by decide +kernel
theorem dX1_ask_77 : decode cX1_ask 77 = .ok (.istore_n 3, 1) := by decide +kernel
theorem dX1_ask_78 : decode cX1_ask 78 = .ok (.iinc 4 1, 3) := by decide +kernel
theorem dX1_ask_81 : decode cX1_ask 81 = .ok (.goto (-39), 3) := by decide +kernel
theorem dX1_ask_84 : decode cX1_ask 84 = .ok (.aload_n 0, 1) := by decide +kernel
theorem dX1_ask_85 : decode cX1_ask 85 = .ok (.iload_n 1, 1) := by decide +kernel
theorem dX1_ask_86 : decode cX1_ask 86 = .ok (.invokevirtual 44, 3) := by decide +kernel
theorem dX1_ask_89 : decode cX1_ask 89 = .ok (.ifCond .eq 7, 3) := by decide +kernel
theorem dX1_ask_92 : decode cX1_ask 92 = .ok (.iload_n 3, 1) := by decide +kernel
theorem dX1_ask_93 : decode cX1_ask 93 = .ok (.ifCond .eq 9, 3) := by decide +kernel
theorem dX1_ask_96 : decode cX1_ask 96 = .ok (.aload_n 0, 1) := by decide +kernel
theorem dX1_ask_97 : decode cX1_ask 97 = .ok (.iconst 2, 1) := by decide +kernel
theorem dX1_ask_98 : decode cX1_ask 98 = .ok (.invokevirtual 30, 3) := by decide +kernel
theorem dX1_ask_101 : decode cX1_ask 101 = .ok (.ireturn, 1) := by decide +kernel
theorem dX1_ask_102 : decode cX1_ask 102 = .ok (.iconst (-1), 1) := by decide +kernel
theorem dX1_ask_103 : decode cX1_ask 103 = .ok (.istore 4, 2) := by decide +kernel
theorem dX1_ask_105 : decode cX1_ask 105 = .ok (.iconst 0, 1) := by decide +kernel
theorem dX1_ask_106 : decode cX1_ask 106 = .ok (.istore 5, 2) := by decide +kernel
theorem dX1_ask_108 : decode cX1_ask 108 = .ok (.iload 5, 2) := by decide +kernel
theorem dX1_ask_110 : decode cX1_ask 110 = .ok (.iload_n 2, 1) := by decide +kernel
theorem dX1_ask_111 : decode cX1_ask 111 = .ok (.if_icmp .ge 57, 3) := by decide +kernel
theorem dX1_ask_114 : decode cX1_ask 114 = .ok (.iconst 0, 1) := by decide +kernel
theorem dX1_ask_115 : decode cX1_ask 115 = .ok (.istore 6, 2) := by decide +kernel
theorem dX1_ask_117 : decode cX1_ask 117 = .ok (.iload 6, 2) := by decide +kernel
theorem dX1_ask_119 : decode cX1_ask 119 = .ok (.bipush 10, 2) := by decide +kernel
theorem dX1_ask_121 : decode cX1_ask 121 = .ok (.if_icmp .ge 41, 3) := by decide +kernel
theorem dX1_ask_124 : decode cX1_ask 124 = .ok (.iload_n 1, 1) := by decide +kernel
theorem dX1_ask_125 : decode cX1_ask 125 = .ok (.iload 6, 2) := by decide +kernel
theorem dX1_ask_127 : decode cX1_ask 127 = .ok (.ishr, 1) := by decide +kernel
theorem dX1_ask_128 : decode cX1_ask 128 = .ok (.iconst 1, 1) := by decide +kernel
theorem dX1_ask_129 : decode cX1_ask 129 = .ok (.iand, 1) := by decide +kernel
theorem dX1_ask_130 : decode cX1_ask 130 = .ok (.iconst 1, 1) := by decide +kernel
theorem dX1_ask_131 : decode cX1_ask 131 = .ok (.if_icmp .ne 25, 3) := by decide +kernel
theorem dX1_ask_134 : decode cX1_ask 134 = .ok (.aload_n 0, 1) := by decide +kernel
theorem dX1_ask_135 : decode cX1_ask 135 = .ok (.iload 6, 2) := by decide +kernel
theorem dX1_ask_137 : decode cX1_ask 137 = .ok (.iload 5, 2) := by decide +kernel
theorem dX1_ask_139 : decode cX1_ask 139 = .ok (.invokevirtual 34, 3) := by decide +kernel
theorem dX1_ask_142 : decode cX1_ask 142 = .ok (.iconst (-1), 1) := by decide +kernel
theorem dX1_ask_143 : decode cX1_ask 143 = .ok (.if_icmp .eq 13, 3) := by decide +kernel
theorem dX1_ask_146 : decode cX1_ask 146 = .ok (.aload_n 0, 1) := by decide +kernel
theorem dX1_ask_147 : decode cX1_ask 147 = .ok (.iload 6, 2) := by decide +kernel
theorem dX1_ask_149 : decode cX1_ask 149 = .ok (.iload 5, 2) := by decide +kernel
theorem dX1_ask_151 : decode cX1_ask 151 = .ok (.invokevirtual 34, 3) := by decide +kernel
theorem dX1_ask_154 : decode cX1_ask 154 = .ok (.istore 4, 2) := by decide +kernel
theorem dX1_ask_156 : decode cX1_ask 156 = .ok (.iinc 6 1, 3) := by decide +kernel
theorem dX1_ask_159 : decode cX1_ask 159 = .ok (.goto (-42), 3) := by decide +kernel
theorem dX1_ask_162 : decode cX1_ask 162 = .ok (.iinc 5 1, 3) := by decide +kernel
theorem dX1_ask_165 : decode cX1_ask 165 = .ok (.goto (-57), 3) := by decide +kernel
theorem dX1_ask_168 : decode cX1_ask 168 = .ok (.iconst 0, 1) := by decide +kernel
theorem dX1_ask_169 : decode cX1_ask 169 = .ok (.istore 5, 2) := by decide +kernel
theorem dX1_ask_171 : decode cX1_ask 171 = .ok (.iload 5, 2) := by decide +kernel
theorem dX1_ask_173 : decode cX1_ask 173 = .ok (.bipush 10, 2) := by decide +kernel
theorem dX1_ask_175 : decode cX1_ask 175 = .ok (.if_icmp .ge 27, 3) := by decide +kernel
theorem dX1_ask_178 : decode cX1_ask 178 = .ok (.iload_n 1, 1) := by decide +kernel
theorem dX1_ask_179 : decode cX1_ask 179 = .ok (.iload 5, 2) := by decide +kernel
theorem dX1_ask_181 : decode cX1_ask 181 = .ok (.ishr, 1) := by decide +kernel
theorem dX1_ask_182 : decode cX1_ask 182 = .ok (.iconst 1, 1) := by decide +kernel
theorem dX1_ask_183 : decode cX1_ask 183 = .ok (.iand, 1) := by decide +kernel
theorem dX1_ask_184 : decode cX1_ask 184 = .ok (.iconst 1, 1) := by decide +kernel
theorem dX1_ask_185 : decode cX1_ask 185 = .ok (.if_icmp .ne 11, 3) := by decide +kernel
theorem dX1_ask_188 : decode cX1_ask 188 = .ok (.aload_n 0, 1) := by decide +kernel
theorem dX1_ask_189 : decode cX1_ask 189 = .ok (.getfield 13, 3) := by decide +kernel
theorem dX1_ask_192 : decode cX1_ask 192 = .ok (.iload 5, 2) := by decide +kernel
theorem dX1_ask_194 : decode cX1_ask 194 = .ok (.iload_n 2, 1) := by decide +kernel
theorem dX1_ask_195 : decode cX1_ask 195 = .ok (.iastore, 1) := by decide +kernel
theorem dX1_ask_196 : decode cX1_ask 196 = .ok (.iinc 5 1, 3) := by decide +kernel
theorem dX1_ask_199 : decode cX1_ask 199 = .ok (.goto (-28), 3) := by decide +kernel
theorem dX1_ask_202 : decode cX1_ask 202 = .ok (.iload 4, 2) := by decide +kernel
theorem dX1_ask_204 : decode cX1_ask 204 = .ok (.ireturn, 1) := by decide +kernel
theorem dX1_isChosen_0 : decode cX1_isChosen 0 = .ok (.iconst 0, 1) := by decide +kernel
theorem dX1_isChosen_1 : decode cX1_isChosen 1 = .ok (.istore_n 2, 1) := by decide +kernel
theorem dX1_isChosen_2 : decode cX1_isChosen 2 = .ok (.iload_n 2, 1) := by decide +kernel
theorem dX1_isChosen_3 : decode cX1_isChosen 3 = .ok (.bipush 10, 2) := by decide +kernel
theorem dX1_isChosen_5 : decode cX1_isChosen 5 = .ok (.if_icmp .ge 55, 3) := by decide +kernel
theorem dX1_isChosen_8 : decode cX1_isChosen 8 = .ok (.iconst 0, 1) := by decide +kernel
theorem dX1_isChosen_9 : decode cX1_isChosen 9 = .ok (.istore_n 3, 1) := by decide +kernel
theorem dX1_isChosen_10 : decode cX1_isChosen 10 = .ok (.iconst 0, 1) := by decide +kernel
theorem dX1_isChosen_11 : decode cX1_isChosen 11 = .ok (.istore 4, 2) := by decide +kernel
theorem dX1_isChosen_13 : decode cX1_isChosen 13 = .ok (.iload 4, 2) := by decide +kernel
theorem dX1_isChosen_15 : decode cX1_isChosen 15 = .ok (.bipush 10, 2) := by decide +kernel
theorem dX1_isChosen_17 : decode cX1_isChosen 17 = .ok (.if_icmp .ge 27, 3) := by decide +kernel
theorem dX1_isChosen_20 : decode cX1_isChosen 20 = .ok (.aload_n 0, 1) := by decide +kernel
theorem dX1_isChosen_21 : decode cX1_isChosen 21 = .ok (.iload 4, 2) := by decide +kernel
theorem dX1_isChosen_23 : decode cX1_isChosen 23 = .ok (.iload_n 1, 1) := by decide +kernel
theorem dX1_isChosen_24 : decode cX1_isChosen 24 = .ok (.invokevirtual 34, 3) := by decide +kernel
theorem dX1_isChosen_27 : decode cX1_isChosen 27 = .ok (.iload_n 2, 1) := by decide +kernel
theorem dX1_isChosen_28 : decode cX1_isChosen 28 = .ok (.if_icmp .ne 10, 3) := by decide +kernel
theorem dX1_isChosen_31 : decode cX1_isChosen 31 = .ok (.iload_n 3, 1) := by decide +kernel
theorem dX1_isChosen_32 : decode cX1_isChosen 32 = .ok (.iconst 1, 1) := by decide +kernel
theorem dX1_isChosen_33 : decode cX1_isChosen 33 = .ok (.iload 4, 2) := by decide +kernel
theorem dX1_isChosen_35 : decode cX1_isChosen 35 = .ok (.ishl, 1) := by decide +kernel
theorem dX1_isChosen_36 : decode cX1_isChosen 36 = .ok (.ior, 1) := by decide +kernel
theorem dX1_isChosen_37 : decode cX1_isChosen 37 = .ok (.istore_n 3, 1) := by decide +kernel
theorem dX1_isChosen_38 : decode cX1_isChosen 38 = .ok (.iinc 4 1, 3) := by decide +kernel
theorem dX1_isChosen_41 : decode cX1_isChosen 41 = .ok (.goto (-28), 3) := by decide +kernel
theorem dX1_isChosen_44 : decode cX1_isChosen 44 = .ok (.aload_n 0, 1) := by decide +kernel
theorem dX1_isChosen_45 : decode cX1_isChosen 45 = .ok (.iload_n 3, 1) := by decide +kernel
theorem dX1_isChosen_46 : decode cX1_isChosen 46 = .ok (.invokevirtual 44, 3) := by decide +kernel
theorem dX1_isChosen_49 : decode cX1_isChosen 49 = .ok (.ifCond .eq 5, 3) := by decide +kernel
theorem dX1_isChosen_52 : decode cX1_isChosen 52 = .ok (.iload_n 2, 1) := by decide +kernel
theorem dX1_isChosen_53 : decode cX1_isChosen 53 = .ok (.ireturn, 1) := by decide +kernel
theorem dX1_isChosen_54 : decode cX1_isChosen 54 = .ok (.iinc 2 1, 3) := by decide +kernel
theorem dX1_isChosen_57 : decode cX1_isChosen 57 = .ok (.goto (-55), 3) := by decide +kernel
theorem dX1_isChosen_60 : decode cX1_isChosen 60 = .ok (.iconst (-1), 1) := by decide +kernel
theorem dX1_isChosen_61 : decode cX1_isChosen 61 = .ok (.ireturn, 1) := by decide +kernel
theorem dX1_chosen_0 : decode cX1_chosen 0 = .ok (.aload_n 0, 1) := by decide +kernel
theorem dX1_chosen_1 : decode cX1_chosen 1 = .ok (.iload_n 1, 1) := by decide +kernel
theorem dX1_chosen_2 : decode cX1_chosen 2 = .ok (.bipush 31, 2) := by decide +kernel
theorem dX1_chosen_4 : decode cX1_chosen 4 = .ok (.invokestatic 26, 3) := by decide +kernel
theorem dX1_chosen_7 : decode cX1_chosen 7 = .ok (.ifCond .eq 7, 3) := by decide +kernel
theorem dX1_chosen_10 : decode cX1_chosen 10 = .ok (.iconst 1, 1) := by decide +kernel
theorem dX1_chosen_11 : decode cX1_chosen 11 = .ok (.goto 4, 3) := by decide +kernel
theorem dX1_chosen_14 : decode cX1_chosen 14 = .ok (.iconst 0, 1) := by decide +kernel
theorem dX1_chosen_15 : decode cX1_chosen 15 = .ok (.putfield 23, 3) := by decide +kernel
theorem dX1_chosen_18 : decode cX1_chosen 18 = .ok (.aload_n 0, 1) := by decide +kernel
theorem dX1_chosen_19 : decode cX1_chosen 19 = .ok (.getfield 23, 3) := by decide +kernel
theorem dX1_chosen_22 : decode cX1_chosen 22 = .ok (.ifCond .le 7, 3) := by decide +kernel
theorem dX1_chosen_25 : decode cX1_chosen 25 = .ok (.iconst 0, 1) := by decide +kernel
theorem dX1_chosen_26 : decode cX1_chosen 26 = .ok (.goto 8, 3) := by decide +kernel
theorem dX1_chosen_29 : decode cX1_chosen 29 = .ok (.aload_n 0, 1) := by decide +kernel
theorem dX1_chosen_30 : decode cX1_chosen 30 = .ok (.iload_n 1, 1) := by decide +kernel
theorem dX1_chosen_31 : decode cX1_chosen 31 = .ok (.invokevirtual 48, 3) := by decide +kernel
theorem dX1_chosen_34 : decode cX1_chosen 34 = .ok (.ireturn, 1) := by decide +kernel
theorem dX1_canBe_0 : decode cX1_canBe 0 = .ok (.iconst 0, 1) := by decide +kernel
theorem dX1_canBe_1 : decode cX1_canBe 1 = .ok (.istore_n 3, 1) := by decide +kernel
theorem dX1_canBe_2 : decode cX1_canBe 2 = .ok (.iconst 0, 1) := by decide +kernel
theorem dX1_canBe_3 : decode cX1_canBe 3 = .ok (.istore 4, 2) := by decide +kernel
theorem dX1_canBe_5 : decode cX1_canBe 5 = .ok (.iload 4, 2) := by decide +kernel
theorem dX1_canBe_7 : decode cX1_canBe 7 = .ok (.bipush 10, 2) := by decide +kernel
theorem dX1_canBe_9 : decode cX1_canBe 9 = .ok (.if_icmp .ge 37, 3) := by decide +kernel
theorem dX1_canBe_12 : decode cX1_canBe 12 = .ok (.aload_n 0, 1) := by decide +kernel
theorem dX1_canBe_13 : decode cX1_canBe 13 = .ok (.iload 4, 2) := by decide +kernel
theorem dX1_canBe_15 : decode cX1_canBe 15 = .ok (.iload_n 1, 1) := by decide +kernel
theorem dX1_canBe_16 : decode cX1_canBe 16 = .ok (.invokevirtual 34, 3) := by decide +kernel
theorem dX1_canBe_19 : decode cX1_canBe 19 = .ok (.iload_n 2, 1) := by decide +kernel
theorem dX1_canBe_20 : decode cX1_canBe 20 = .ok (.if_icmp .eq 13, 3) := by decide +kernel
theorem dX1_canBe_23 : decode cX1_canBe 23 = .ok (.aload_n 0, 1) := by decide +kernel
theorem dX1_canBe_24 : decode cX1_canBe 24 = .ok (.iload 4, 2) := by decide +kernel
theorem dX1_canBe_26 : decode cX1_canBe 26 = .ok (.iload_n 1, 1) := by decide +kernel
theorem dX1_canBe_27 : decode cX1_canBe 27 = .ok (.invokevirtual 38, 3) := by decide +kernel
theorem dX1_canBe_30 : decode cX1_canBe 30 = .ok (.ifCond .eq 10, 3) := by decide +kernel
theorem dX1_canBe_33 : decode cX1_canBe 33 = .ok (.iload_n 3, 1) := by decide +kernel
theorem dX1_canBe_34 : decode cX1_canBe 34 = .ok (.iconst 1, 1) := by decide +kernel
theorem dX1_canBe_35 : decode cX1_canBe 35 = .ok (.iload 4, 2) := by decide +kernel
theorem dX1_canBe_37 : decode cX1_canBe 37 = .ok (.ishl, 1) := by decide +kernel
theorem dX1_canBe_38 : decode cX1_canBe 38 = .ok (.ior, 1) := by decide +kernel
theorem dX1_canBe_39 : decode cX1_canBe 39 = .ok (.istore_n 3, 1) := by decide +kernel
theorem dX1_canBe_40 : decode cX1_canBe 40 = .ok (.iinc 4 1, 3) := by decide +kernel
theorem dX1_canBe_43 : decode cX1_canBe 43 = .ok (.goto (-38), 3) := by decide +kernel
theorem dX1_canBe_46 : decode cX1_canBe 46 = .ok (.aload_n 0, 1) := by decide +kernel
theorem dX1_canBe_47 : decode cX1_canBe 47 = .ok (.iload_n 1, 1) := by decide +kernel
theorem dX1_canBe_48 : decode cX1_canBe 48 = .ok (.iload_n 2, 1) := by decide +kernel
theorem dX1_canBe_49 : decode cX1_canBe 49 = .ok (.invokevirtual 41, 3) := by decide +kernel
theorem dX1_canBe_52 : decode cX1_canBe 52 = .ok (.ifCond .ne 15, 3) := by decide +kernel
theorem dX1_canBe_55 : decode cX1_canBe 55 = .ok (.aload_n 0, 1) := by decide +kernel
theorem dX1_canBe_56 : decode cX1_canBe 56 = .ok (.iload_n 3, 1) := by decide +kernel
theorem dX1_canBe_57 : decode cX1_canBe 57 = .ok (.invokevirtual 44, 3) := by decide +kernel
theorem dX1_canBe_60 : decode cX1_canBe 60 = .ok (.ifCond .eq 7, 3) := by decide +kernel
theorem dX1_canBe_63 : decode cX1_canBe 63 = .ok (.iconst 1, 1) := by decide +kernel
theorem dX1_canBe_64 : decode cX1_canBe 64 = .ok (.goto 4, 3) := by decide +kernel
theorem dX1_canBe_67 : decode cX1_canBe 67 = .ok (.iconst 0, 1) := by decide +kernel
theorem dX1_canBe_68 : decode cX1_canBe 68 = .ok (.ireturn, 1) := by decide +kernel
theorem dX1_can_0 : decode cX1_can 0 = .ok (.aload_n 0, 1) := by decide +kernel
theorem dX1_can_1 : decode cX1_can 1 = .ok (.iload_n 1, 1) := by decide +kernel
theorem dX1_can_2 : decode cX1_can 2 = .ok (.bipush 31, 2) := by decide +kernel
theorem dX1_can_4 : decode cX1_can 4 = .ok (.invokestatic 26, 3) := by decide +kernel
theorem dX1_can_7 : decode cX1_can 7 = .ok (.ifCond .ne 12, 3) := by decide +kernel
theorem dX1_can_10 : decode cX1_can 10 = .ok (.iload_n 2, 1) := by decide +kernel
theorem dX1_can_11 : decode cX1_can 11 = .ok (.bipush 10, 2) := by decide +kernel
theorem dX1_can_13 : decode cX1_can 13 = .ok (.invokestatic 26, 3) := by decide +kernel
theorem dX1_can_16 : decode cX1_can 16 = .ok (.ifCond .eq 7, 3) := by decide +kernel
theorem dX1_can_19 : decode cX1_can 19 = .ok (.iconst 1, 1) := by decide +kernel
theorem dX1_can_20 : decode cX1_can 20 = .ok (.goto 4, 3) := by decide +kernel
theorem dX1_can_23 : decode cX1_can 23 = .ok (.iconst 0, 1) := by decide +kernel
theorem dX1_can_24 : decode cX1_can 24 = .ok (.putfield 23, 3) := by decide +kernel
theorem dX1_can_27 : decode cX1_can 27 = .ok (.aload_n 0, 1) := by decide +kernel
theorem dX1_can_28 : decode cX1_can 28 = .ok (.getfield 23, 3) := by decide +kernel
theorem dX1_can_31 : decode cX1_can 31 = .ok (.ifCond .ne 16, 3) := by decide +kernel
theorem dX1_can_34 : decode cX1_can 34 = .ok (.aload_n 0, 1) := by decide +kernel
theorem dX1_can_35 : decode cX1_can 35 = .ok (.iload_n 1, 1) := by decide +kernel
theorem dX1_can_36 : decode cX1_can 36 = .ok (.iload_n 2, 1) := by decide +kernel
theorem dX1_can_37 : decode cX1_can 37 = .ok (.invokevirtual 51, 3) := by decide +kernel
theorem dX1_can_40 : decode cX1_can 40 = .ok (.ifCond .eq 7, 3) := by decide +kernel
theorem dX1_can_43 : decode cX1_can 43 = .ok (.iconst 1, 1) := by decide +kernel
theorem dX1_can_44 : decode cX1_can 44 = .ok (.goto 4, 3) := by decide +kernel
theorem dX1_can_47 : decode cX1_can 47 = .ok (.iconst 0, 1) := by decide +kernel
theorem dX1_can_48 : decode cX1_can 48 = .ok (.ireturn, 1) := by decide +kernel
theorem dX1_isSafe_0 : decode cX1_isSafe 0 = .ok (.iconst 0, 1) := by decide +kernel
theorem dX1_isSafe_1 : decode cX1_isSafe 1 = .ok (.istore_n 3, 1) := by decide +kernel
theorem dX1_isSafe_2 : decode cX1_isSafe 2 = .ok (.iload_n 3, 1) := by decide +kernel
theorem dX1_isSafe_3 : decode cX1_isSafe 3 = .ok (.iload_n 1, 1) := by decide +kernel
theorem dX1_isSafe_4 : decode cX1_isSafe 4 = .ok (.if_icmp .ge 43, 3) := by decide +kernel
theorem dX1_isSafe_7 : decode cX1_isSafe 7 = .ok (.iconst 0, 1) := by decide +kernel
theorem dX1_isSafe_8 : decode cX1_isSafe 8 = .ok (.istore 4, 2) := by decide +kernel
theorem dX1_isSafe_10 : decode cX1_isSafe 10 = .ok (.iload 4, 2) := by decide +kernel
theorem dX1_isSafe_12 : decode cX1_isSafe 12 = .ok (.bipush 10, 2) := by decide +kernel
theorem dX1_isSafe_14 : decode cX1_isSafe 14 = .ok (.if_icmp .ge 27, 3) := by decide +kernel
theorem dX1_isSafe_17 : decode cX1_isSafe 17 = .ok (.iload 4, 2) := by decide +kernel
theorem dX1_isSafe_19 : decode cX1_isSafe 19 = .ok (.iload_n 2, 1) := by decide +kernel
theorem dX1_isSafe_20 : decode cX1_isSafe 20 = .ok (.if_icmp .eq 15, 3) := by decide +kernel
theorem dX1_isSafe_23 : decode cX1_isSafe 23 = .ok (.aload_n 0, 1) := by decide +kernel
theorem dX1_isSafe_24 : decode cX1_isSafe 24 = .ok (.iload_n 3, 1) := by decide +kernel
theorem dX1_isSafe_25 : decode cX1_isSafe 25 = .ok (.iload 4, 2) := by decide +kernel
theorem dX1_isSafe_27 : decode cX1_isSafe 27 = .ok (.invokevirtual 51, 3) := by decide +kernel
theorem dX1_isSafe_30 : decode cX1_isSafe 30 = .ok (.ifCond .eq 5, 3) := by decide +kernel
theorem dX1_isSafe_33 : decode cX1_isSafe 33 = .ok (.iconst 0, 1) := by decide +kernel
theorem dX1_isSafe_34 : decode cX1_isSafe 34 = .ok (.ireturn, 1) := by decide +kernel
theorem dX1_isSafe_35 : decode cX1_isSafe 35 = .ok (.iinc 4 1, 3) := by decide +kernel
theorem dX1_isSafe_38 : decode cX1_isSafe 38 = .ok (.goto (-28), 3) := by decide +kernel
theorem dX1_isSafe_41 : decode cX1_isSafe 41 = .ok (.iinc 3 1, 3) := by decide +kernel
theorem dX1_isSafe_44 : decode cX1_isSafe 44 = .ok (.goto (-42), 3) := by decide +kernel
theorem dX1_isSafe_47 : decode cX1_isSafe 47 = .ok (.iconst 1, 1) := by decide +kernel
theorem dX1_isSafe_48 : decode cX1_isSafe 48 = .ok (.ireturn, 1) := by decide +kernel
theorem dX1_safe_0 : decode cX1_safe 0 = .ok (.aload_n 0, 1) := by decide +kernel
theorem dX1_safe_1 : decode cX1_safe 1 = .ok (.iload_n 1, 1) := by decide +kernel
theorem dX1_safe_2 : decode cX1_safe 2 = .ok (.bipush 31, 2) := by decide +kernel
theorem dX1_safe_4 : decode cX1_safe 4 = .ok (.invokestatic 26, 3) := by decide +kernel
theorem dX1_safe_7 : decode cX1_safe 7 = .ok (.ifCond .ne 12, 3) := by decide +kernel
theorem dX1_safe_10 : decode cX1_safe 10 = .ok (.iload_n 2, 1) := by decide +kernel
theorem dX1_safe_11 : decode cX1_safe 11 = .ok (.bipush 10, 2) := by decide +kernel
theorem dX1_safe_13 : decode cX1_safe 13 = .ok (.invokestatic 26, 3) := by decide +kernel
theorem dX1_safe_16 : decode cX1_safe 16 = .ok (.ifCond .eq 7, 3) := by decide +kernel
theorem dX1_safe_19 : decode cX1_safe 19 = .ok (.iconst 1, 1) := by decide +kernel
theorem dX1_safe_20 : decode cX1_safe 20 = .ok (.goto 4, 3) := by decide +kernel
theorem dX1_safe_23 : decode cX1_safe 23 = .ok (.iconst 0, 1) := by decide +kernel
theorem dX1_safe_24 : decode cX1_safe 24 = .ok (.putfield 23, 3) := by decide +kernel
theorem dX1_safe_27 : decode cX1_safe 27 = .ok (.aload_n 0, 1) := by decide +kernel
theorem dX1_safe_28 : decode cX1_safe 28 = .ok (.getfield 23, 3) := by decide +kernel
theorem dX1_safe_31 : decode cX1_safe 31 = .ok (.ifCond .ne 16, 3) := by decide +kernel
theorem dX1_safe_34 : decode cX1_safe 34 = .ok (.aload_n 0, 1) := by decide +kernel
theorem dX1_safe_35 : decode cX1_safe 35 = .ok (.iload_n 1, 1) := by decide +kernel
theorem dX1_safe_36 : decode cX1_safe 36 = .ok (.iload_n 2, 1) := by decide +kernel
theorem dX1_safe_37 : decode cX1_safe 37 = .ok (.invokevirtual 54, 3) := by decide +kernel
theorem dX1_safe_40 : decode cX1_safe 40 = .ok (.ifCond .eq 7, 3) := by decide +kernel
theorem dX1_safe_43 : decode cX1_safe 43 = .ok (.iconst 1, 1) := by decide +kernel
theorem dX1_safe_44 : decode cX1_safe 44 = .ok (.goto 4, 3) := by decide +kernel
theorem dX1_safe_47 : decode cX1_safe 47 = .ok (.iconst 0, 1) := by decide +kernel
theorem dX1_safe_48 : decode cX1_safe 48 = .ok (.ireturn, 1) := by decide +kernel
theorem dX1_free_0 : decode cX1_free 0 = .ok (.aload_n 0, 1) := by decide +kernel
theorem dX1_free_1 : decode cX1_free 1 = .ok (.iload_n 1, 1) := by decide +kernel
theorem dX1_free_2 : decode cX1_free 2 = .ok (.bipush 31, 2) := by decide +kernel
theorem dX1_free_4 : decode cX1_free 4 = .ok (.invokestatic 26, 3) := by decide +kernel
theorem dX1_free_7 : decode cX1_free 7 = .ok (.ifCond .eq 7, 3) := by decide +kernel
theorem dX1_free_10 : decode cX1_free 10 = .ok (.iconst 1, 1) := by decide +kernel
theorem dX1_free_11 : decode cX1_free 11 = .ok (.goto 4, 3) := by decide +kernel
theorem dX1_free_14 : decode cX1_free 14 = .ok (.iconst 0, 1) := by decide +kernel
theorem dX1_free_15 : decode cX1_free 15 = .ok (.putfield 23, 3) := by decide +kernel
theorem dX1_free_18 : decode cX1_free 18 = .ok (.iconst 0, 1) := by decide +kernel
theorem dX1_free_19 : decode cX1_free 19 = .ok (.istore_n 2, 1) := by decide +kernel
theorem dX1_free_20 : decode cX1_free 20 = .ok (.iconst 0, 1) := by decide +kernel
theorem dX1_free_21 : decode cX1_free 21 = .ok (.istore_n 3, 1) := by decide +kernel
theorem dX1_free_22 : decode cX1_free 22 = .ok (.iload_n 3, 1) := by decide +kernel
theorem dX1_free_23 : decode cX1_free 23 = .ok (.bipush 10, 2) := by decide +kernel
theorem dX1_free_25 : decode cX1_free 25 = .ok (.if_icmp .ge 28, 3) := by decide +kernel
theorem dX1_free_28 : decode cX1_free 28 = .ok (.aload_n 0, 1) := by decide +kernel
theorem dX1_free_29 : decode cX1_free 29 = .ok (.getfield 23, 3) := by decide +kernel
theorem dX1_free_32 : decode cX1_free 32 = .ok (.ifCond .ne 21, 3) := by decide +kernel
theorem dX1_free_35 : decode cX1_free 35 = .ok (.aload_n 0, 1) := by decide +kernel
theorem dX1_free_36 : decode cX1_free 36 = .ok (.iload_n 1, 1) := by decide +kernel
theorem dX1_free_37 : decode cX1_free 37 = .ok (.iload_n 3, 1) := by decide +kernel
theorem dX1_free_38 : decode cX1_free 38 = .ok (.invokevirtual 54, 3) := by decide +kernel
theorem dX1_free_41 : decode cX1_free 41 = .ok (.ifCond .eq 6, 3) := by decide +kernel
theorem dX1_free_44 : decode cX1_free 44 = .ok (.iinc 2 1, 3) := by decide +kernel
theorem dX1_free_47 : decode cX1_free 47 = .ok (.iinc 3 1, 3) := by decide +kernel
theorem dX1_free_50 : decode cX1_free 50 = .ok (.goto (-28), 3) := by decide +kernel
theorem dX1_free_53 : decode cX1_free 53 = .ok (.iload_n 2, 1) := by decide +kernel
theorem dX1_free_54 : decode cX1_free 54 = .ok (.ireturn, 1) := by decide +kernel
theorem dX1_enough_0 : decode cX1_enough 0 = .ok (.aload_n 0, 1) := by decide +kernel
theorem dX1_enough_1 : decode cX1_enough 1 = .ok (.iload_n 1, 1) := by decide +kernel
theorem dX1_enough_2 : decode cX1_enough 2 = .ok (.sipush 1024, 3) := by decide +kernel
theorem dX1_enough_5 : decode cX1_enough 5 = .ok (.invokestatic 26, 3) := by decide +kernel
theorem dX1_enough_8 : decode cX1_enough 8 = .ok (.ifCond .eq 7, 3) := by decide +kernel
theorem dX1_enough_11 : decode cX1_enough 11 = .ok (.iconst 1, 1) := by decide +kernel
theorem dX1_enough_12 : decode cX1_enough 12 = .ok (.goto 4, 3) := by decide +kernel
theorem dX1_enough_15 : decode cX1_enough 15 = .ok (.iconst 0, 1) := by decide +kernel
theorem dX1_enough_16 : decode cX1_enough 16 = .ok (.putfield 23, 3) := by decide +kernel
theorem dX1_enough_19 : decode cX1_enough 19 = .ok (.aload_n 0, 1) := by decide +kernel
theorem dX1_enough_20 : decode cX1_enough 20 = .ok (.getfield 23, 3) := by decide +kernel
theorem dX1_enough_23 : decode cX1_enough 23 = .ok (.ifCond .ne 15, 3) := by decide +kernel
theorem dX1_enough_26 : decode cX1_enough 26 = .ok (.aload_n 0, 1) := by decide +kernel
theorem dX1_enough_27 : decode cX1_enough 27 = .ok (.iload_n 1, 1) := by decide +kernel
theorem dX1_enough_28 : decode cX1_enough 28 = .ok (.invokevirtual 44, 3) := by decide +kernel
theorem dX1_enough_31 : decode cX1_enough 31 = .ok (.ifCond .eq 7, 3) := by decide +kernel
theorem dX1_enough_34 : decode cX1_enough 34 = .ok (.iconst 1, 1) := by decide +kernel
theorem dX1_enough_35 : decode cX1_enough 35 = .ok (.goto 4, 3) := by decide +kernel
theorem dX1_enough_38 : decode cX1_enough 38 = .ok (.iconst 0, 1) := by decide +kernel
theorem dX1_enough_39 : decode cX1_enough 39 = .ok (.ireturn, 1) := by decide +kernel
theorem dX1_blocks_0 : decode cX1_blocks 0 = .ok (.aload_n 0, 1) := by decide +kernel
theorem dX1_blocks_1 : decode cX1_blocks 1 = .ok (.iload_n 1, 1) := by decide +kernel
theorem dX1_blocks_2 : decode cX1_blocks 2 = .ok (.sipush 1024, 3) := by decide +kernel
theorem dX1_blocks_5 : decode cX1_blocks 5 = .ok (.invokestatic 26, 3) := by decide +kernel
theorem dX1_blocks_8 : decode cX1_blocks 8 = .ok (.ifCond .eq 7, 3) := by decide +kernel
theorem dX1_blocks_11 : decode cX1_blocks 11 = .ok (.iconst 1, 1) := by decide +kernel
theorem dX1_blocks_12 : decode cX1_blocks 12 = .ok (.goto 4, 3) := by decide +kernel
theorem dX1_blocks_15 : decode cX1_blocks 15 = .ok (.iconst 0, 1) := by decide +kernel
theorem dX1_blocks_16 : decode cX1_blocks 16 = .ok (.putfield 23, 3) := by decide +kernel
theorem dX1_blocks_19 : decode cX1_blocks 19 = .ok (.aload_n 0, 1) := by decide +kernel
theorem dX1_blocks_20 : decode cX1_blocks 20 = .ok (.getfield 23, 3) := by decide +kernel
theorem dX1_blocks_23 : decode cX1_blocks 23 = .ok (.ifCond .le 5, 3) := by decide +kernel
theorem dX1_blocks_26 : decode cX1_blocks 26 = .ok (.iconst 0, 1) := by decide +kernel
theorem dX1_blocks_27 : decode cX1_blocks 27 = .ok (.ireturn, 1) := by decide +kernel
theorem dX1_blocks_28 : decode cX1_blocks 28 = .ok (.iconst 0, 1) := by decide +kernel
theorem dX1_blocks_29 : decode cX1_blocks 29 = .ok (.istore_n 2, 1) := by decide +kernel
theorem dX1_blocks_30 : decode cX1_blocks 30 = .ok (.iload_n 2, 1) := by decide +kernel
theorem dX1_blocks_31 : decode cX1_blocks 31 = .ok (.sipush 1024, 3) := by decide +kernel
theorem dX1_blocks_34 : decode cX1_blocks 34 = .ok (.if_icmp .ge 25, 3) := by decide +kernel
theorem dX1_blocks_37 : decode cX1_blocks 37 = .ok (.aload_n 0, 1) := by decide +kernel
theorem dX1_blocks_38 : decode cX1_blocks 38 = .ok (.iload_n 2, 1) := by decide +kernel
theorem dX1_blocks_39 : decode cX1_blocks 39 = .ok (.invokevirtual 44, 3) := by decide +kernel
theorem dX1_blocks_42 : decode cX1_blocks 42 = .ok (.ifCond .eq 11, 3) := by decide +kernel
theorem dX1_blocks_45 : decode cX1_blocks 45 = .ok (.iload_n 2, 1) := by decide +kernel
theorem dX1_blocks_46 : decode cX1_blocks 46 = .ok (.iload_n 1, 1) := by decide +kernel
theorem dX1_blocks_47 : decode cX1_blocks 47 = .ok (.iand, 1) := by decide +kernel
theorem dX1_blocks_48 : decode cX1_blocks 48 = .ok (.ifCond .ne 5, 3) := by decide +kernel
theorem dX1_blocks_51 : decode cX1_blocks 51 = .ok (.iconst 0, 1) := by decide +kernel
theorem dX1_blocks_52 : decode cX1_blocks 52 = .ok (.ireturn, 1) := by decide +kernel
theorem dX1_blocks_53 : decode cX1_blocks 53 = .ok (.iinc 2 1, 3) := by decide +kernel
theorem dX1_blocks_56 : decode cX1_blocks 56 = .ok (.goto (-26), 3) := by decide +kernel
theorem dX1_blocks_59 : decode cX1_blocks 59 = .ok (.iconst 1, 1) := by decide +kernel
theorem dX1_blocks_60 : decode cX1_blocks 60 = .ok (.ireturn, 1) := by decide +kernel
theorem dX1_sets_0 : decode cX1_sets 0 = .ok (.aload_n 0, 1) := by decide +kernel
theorem dX1_sets_1 : decode cX1_sets 1 = .ok (.iconst 0, 1) := by decide +kernel
theorem dX1_sets_2 : decode cX1_sets 2 = .ok (.putfield 23, 3) := by decide +kernel
theorem dX1_sets_5 : decode cX1_sets 5 = .ok (.iconst 0, 1) := by decide +kernel
theorem dX1_sets_6 : decode cX1_sets 6 = .ok (.istore_n 1, 1) := by decide +kernel
theorem dX1_sets_7 : decode cX1_sets 7 = .ok (.iconst 0, 1) := by decide +kernel
theorem dX1_sets_8 : decode cX1_sets 8 = .ok (.istore_n 2, 1) := by decide +kernel
theorem dX1_sets_9 : decode cX1_sets 9 = .ok (.iload_n 2, 1) := by decide +kernel
theorem dX1_sets_10 : decode cX1_sets 10 = .ok (.sipush 1024, 3) := by decide +kernel
theorem dX1_sets_13 : decode cX1_sets 13 = .ok (.if_icmp .ge 20, 3) := by decide +kernel
theorem dX1_sets_16 : decode cX1_sets 16 = .ok (.aload_n 0, 1) := by decide +kernel
theorem dX1_sets_17 : decode cX1_sets 17 = .ok (.iload_n 2, 1) := by decide +kernel
theorem dX1_sets_18 : decode cX1_sets 18 = .ok (.invokevirtual 44, 3) := by decide +kernel
theorem dX1_sets_21 : decode cX1_sets 21 = .ok (.ifCond .eq 6, 3) := by decide +kernel
theorem dX1_sets_24 : decode cX1_sets 24 = .ok (.iinc 1 1, 3) := by decide +kernel
theorem dX1_sets_27 : decode cX1_sets 27 = .ok (.iinc 2 1, 3) := by decide +kernel
theorem dX1_sets_30 : decode cX1_sets 30 = .ok (.goto (-21), 3) := by decide +kernel
theorem dX1_sets_33 : decode cX1_sets 33 = .ok (.iload_n 1, 1) := by decide +kernel
theorem dX1_sets_34 : decode cX1_sets 34 = .ok (.ireturn, 1) := by decide +kernel
theorem dX1_size_0 : decode cX1_size 0 = .ok (.iconst 0, 1) := by decide +kernel
theorem dX1_size_1 : decode cX1_size 1 = .ok (.istore_n 1, 1) := by decide +kernel
theorem dX1_size_2 : decode cX1_size 2 = .ok (.iconst 0, 1) := by decide +kernel
theorem dX1_size_3 : decode cX1_size 3 = .ok (.istore_n 2, 1) := by decide +kernel
theorem dX1_size_4 : decode cX1_size 4 = .ok (.iload_n 2, 1) := by decide +kernel
theorem dX1_size_5 : decode cX1_size 5 = .ok (.bipush 10, 2) := by decide +kernel
theorem dX1_size_7 : decode cX1_size 7 = .ok (.if_icmp .ge 17, 3) := by decide +kernel
theorem dX1_size_10 : decode cX1_size 10 = .ok (.iload_n 1, 1) := by decide +kernel
theorem dX1_size_11 : decode cX1_size 11 = .ok (.iload_n 0, 1) := by decide +kernel
theorem dX1_size_12 : decode cX1_size 12 = .ok (.iload_n 2, 1) := by decide +kernel
theorem dX1_size_13 : decode cX1_size 13 = .ok (.ishr, 1) := by decide +kernel
theorem dX1_size_14 : decode cX1_size 14 = .ok (.iconst 1, 1) := by decide +kernel
theorem dX1_size_15 : decode cX1_size 15 = .ok (.iand, 1) := by decide +kernel
theorem dX1_size_16 : decode cX1_size 16 = .ok (.iadd, 1) := by decide +kernel
theorem dX1_size_17 : decode cX1_size 17 = .ok (.istore_n 1, 1) := by decide +kernel
theorem dX1_size_18 : decode cX1_size 18 = .ok (.iinc 2 1, 3) := by decide +kernel
theorem dX1_size_21 : decode cX1_size 21 = .ok (.goto (-17), 3) := by decide +kernel
theorem dX1_size_24 : decode cX1_size 24 = .ok (.iload_n 1, 1) := by decide +kernel
theorem dX1_size_25 : decode cX1_size 25 = .ok (.ireturn, 1) := by decide +kernel
theorem dX1_least_0 : decode cX1_least 0 = .ok (.aload_n 0, 1) := by decide +kernel
theorem dX1_least_1 : decode cX1_least 1 = .ok (.iconst 0, 1) := by decide +kernel
theorem dX1_least_2 : decode cX1_least 2 = .ok (.putfield 23, 3) := by decide +kernel
theorem dX1_least_5 : decode cX1_least 5 = .ok (.iconst (-1), 1) := by decide +kernel
theorem dX1_least_6 : decode cX1_least 6 = .ok (.istore_n 1, 1) := by decide +kernel
theorem dX1_least_7 : decode cX1_least 7 = .ok (.iconst 0, 1) := by decide +kernel
theorem dX1_least_8 : decode cX1_least 8 = .ok (.istore_n 2, 1) := by decide +kernel
theorem dX1_least_9 : decode cX1_least 9 = .ok (.iload_n 2, 1) := by decide +kernel
theorem dX1_least_10 : decode cX1_least 10 = .ok (.sipush 1024, 3) := by decide +kernel
theorem dX1_least_13 : decode cX1_least 13 = .ok (.if_icmp .ge 35, 3) := by decide +kernel
theorem dX1_least_16 : decode cX1_least 16 = .ok (.aload_n 0, 1) := by decide +kernel
theorem dX1_least_17 : decode cX1_least 17 = .ok (.iload_n 2, 1) := by decide +kernel
theorem dX1_least_18 : decode cX1_least 18 = .ok (.invokevirtual 44, 3) := by decide +kernel
theorem dX1_least_21 : decode cX1_least 21 = .ok (.ifCond .eq 21, 3) := by decide +kernel
theorem dX1_least_24 : decode cX1_least 24 = .ok (.iload_n 1, 1) := by decide +kernel
theorem dX1_least_25 : decode cX1_least 25 = .ok (.iconst (-1), 1) := by decide +kernel
theorem dX1_least_26 : decode cX1_least 26 = .ok (.if_icmp .eq 11, 3) := by decide +kernel
theorem dX1_least_29 : decode cX1_least 29 = .ok (.iload_n 2, 1) := by decide +kernel
theorem dX1_least_30 : decode cX1_least 30 = .ok (.invokestatic 57, 3) := by decide +kernel
theorem dX1_least_33 : decode cX1_least 33 = .ok (.iload_n 1, 1) := by decide +kernel
theorem dX1_least_34 : decode cX1_least 34 = .ok (.if_icmp .ge 8, 3) := by decide +kernel
theorem dX1_least_37 : decode cX1_least 37 = .ok (.iload_n 2, 1) := by decide +kernel
theorem dX1_least_38 : decode cX1_least 38 = .ok (.invokestatic 57, 3) := by decide +kernel
theorem dX1_least_41 : decode cX1_least 41 = .ok (.istore_n 1, 1) := by decide +kernel
theorem dX1_least_42 : decode cX1_least 42 = .ok (.iinc 2 1, 3) := by decide +kernel
theorem dX1_least_45 : decode cX1_least 45 = .ok (.goto (-36), 3) := by decide +kernel
theorem dX1_least_48 : decode cX1_least 48 = .ok (.iload_n 1, 1) := by decide +kernel
theorem dX1_least_49 : decode cX1_least 49 = .ok (.ireturn, 1) := by decide +kernel
theorem dX1_meet_0 : decode cX1_meet 0 = .ok (.aload_n 0, 1) := by decide +kernel
theorem dX1_meet_1 : decode cX1_meet 1 = .ok (.iconst 0, 1) := by decide +kernel
theorem dX1_meet_2 : decode cX1_meet 2 = .ok (.putfield 23, 3) := by decide +kernel
theorem dX1_meet_5 : decode cX1_meet 5 = .ok (.iconst 0, 1) := by decide +kernel
theorem dX1_meet_6 : decode cX1_meet 6 = .ok (.istore_n 1, 1) := by decide +kernel
theorem dX1_meet_7 : decode cX1_meet 7 = .ok (.iload_n 1, 1) := by decide +kernel
theorem dX1_meet_8 : decode cX1_meet 8 = .ok (.sipush 1024, 3) := by decide +kernel
theorem dX1_meet_11 : decode cX1_meet 11 = .ok (.if_icmp .ge 33, 3) := by decide +kernel
theorem dX1_meet_14 : decode cX1_meet 14 = .ok (.aload_n 0, 1) := by decide +kernel
theorem dX1_meet_15 : decode cX1_meet 15 = .ok (.iload_n 1, 1) := by decide +kernel
theorem dX1_meet_16 : decode cX1_meet 16 = .ok (.invokevirtual 44, 3) := by decide +kernel
theorem dX1_meet_19 : decode cX1_meet 19 = .ok (.ifCond .eq 19, 3) := by decide +kernel
theorem dX1_meet_22 : decode cX1_meet 22 = .ok (.aload_n 0, 1) := by decide +kernel
theorem dX1_meet_23 : decode cX1_meet 23 = .ok (.iload_n 1, 1) := by decide +kernel
theorem dX1_meet_24 : decode cX1_meet 24 = .ok (.iconst (-1), 1) := by decide +kernel
theorem dX1_meet_25 : decode cX1_meet 25 = .ok (.ixor, 1) := by decide +kernel
theorem dX1_meet_26 : decode cX1_meet 26 = .ok (.sipush 1023, 3) := by decide +kernel
theorem dX1_meet_29 : decode cX1_meet 29 = .ok (.iand, 1) := by decide +kernel
theorem dX1_meet_30 : decode cX1_meet 30 = .ok (.invokevirtual 44, 3) := by decide +kernel
theorem dX1_meet_33 : decode cX1_meet 33 = .ok (.ifCond .eq 5, 3) := by decide +kernel
theorem dX1_meet_36 : decode cX1_meet 36 = .ok (.iconst 0, 1) := by decide +kernel
theorem dX1_meet_37 : decode cX1_meet 37 = .ok (.ireturn, 1) := by decide +kernel
theorem dX1_meet_38 : decode cX1_meet 38 = .ok (.iinc 1 1, 3) := by decide +kernel
theorem dX1_meet_41 : decode cX1_meet 41 = .ok (.goto (-34), 3) := by decide +kernel
theorem dX1_meet_44 : decode cX1_meet 44 = .ok (.iconst 1, 1) := by decide +kernel
theorem dX1_meet_45 : decode cX1_meet 45 = .ok (.ireturn, 1) := by decide +kernel
theorem dX1_bare_0 : decode cX1_bare 0 = .ok (.aload_n 0, 1) := by decide +kernel
theorem dX1_bare_1 : decode cX1_bare 1 = .ok (.iconst 0, 1) := by decide +kernel
theorem dX1_bare_2 : decode cX1_bare 2 = .ok (.putfield 23, 3) := by decide +kernel
theorem dX1_bare_5 : decode cX1_bare 5 = .ok (.iconst 0, 1) := by decide +kernel
theorem dX1_bare_6 : decode cX1_bare 6 = .ok (.istore_n 1, 1) := by decide +kernel
theorem dX1_bare_7 : decode cX1_bare 7 = .ok (.iconst 0, 1) := by decide +kernel
theorem dX1_bare_8 : decode cX1_bare 8 = .ok (.istore_n 2, 1) := by decide +kernel
theorem dX1_bare_9 : decode cX1_bare 9 = .ok (.iload_n 2, 1) := by decide +kernel
theorem dX1_bare_10 : decode cX1_bare 10 = .ok (.sipush 1024, 3) := by decide +kernel
theorem dX1_bare_13 : decode cX1_bare 13 = .ok (.if_icmp .ge 72, 3) := by decide +kernel
theorem dX1_bare_16 : decode cX1_bare 16 = .ok (.aload_n 0, 1) := by decide +kernel
theorem dX1_bare_17 : decode cX1_bare 17 = .ok (.iload_n 2, 1) := by decide +kernel
theorem dX1_bare_18 : decode cX1_bare 18 = .ok (.invokevirtual 44, 3) := by decide +kernel
theorem dX1_bare_21 : decode cX1_bare 21 = .ok (.istore_n 3, 1) := by decide +kernel
theorem dX1_bare_22 : decode cX1_bare 22 = .ok (.iconst 0, 1) := by decide +kernel
theorem dX1_bare_23 : decode cX1_bare 23 = .ok (.istore 4, 2) := by decide +kernel
theorem dX1_bare_25 : decode cX1_bare 25 = .ok (.iload 4, 2) := by decide +kernel
theorem dX1_bare_27 : decode cX1_bare 27 = .ok (.bipush 10, 2) := by decide +kernel
theorem dX1_bare_29 : decode cX1_bare 29 = .ok (.if_icmp .ge 43, 3) := by decide +kernel
theorem dX1_bare_32 : decode cX1_bare 32 = .ok (.iload_n 3, 1) := by decide +kernel
theorem dX1_bare_33 : decode cX1_bare 33 = .ok (.ifCond .eq 39, 3) := by decide +kernel
theorem dX1_bare_36 : decode cX1_bare 36 = .ok (.iload_n 2, 1) := by decide +kernel
theorem dX1_bare_37 : decode cX1_bare 37 = .ok (.iload 4, 2) := by decide +kernel
theorem dX1_bare_39 : decode cX1_bare 39 = .ok (.ishr, 1) := by decide +kernel
theorem dX1_bare_40 : decode cX1_bare 40 = .ok (.iconst 1, 1) := by decide +kernel
theorem dX1_bare_41 : decode cX1_bare 41 = .ok (.iand, 1) := by decide +kernel
theorem dX1_bare_42 : decode cX1_bare 42 = .ok (.ifCond .eq 18, 3) := by decide +kernel
theorem dX1_bare_45 : decode cX1_bare 45 = .ok (.aload_n 0, 1) := by decide +kernel
theorem dX1_bare_46 : decode cX1_bare 46 = .ok (.iload_n 2, 1) := by decide +kernel
theorem dX1_bare_47 : decode cX1_bare 47 = .ok (.iconst 1, 1) := by decide +kernel
theorem dX1_bare_48 : decode cX1_bare 48 = .ok (.iload 4, 2) := by decide +kernel
theorem dX1_bare_50 : decode cX1_bare 50 = .ok (.ishl, 1) := by decide +kernel
theorem dX1_bare_51 : decode cX1_bare 51 = .ok (.iconst (-1), 1) := by decide +kernel
theorem dX1_bare_52 : decode cX1_bare 52 = .ok (.ixor, 1) := by decide +kernel
theorem dX1_bare_53 : decode cX1_bare 53 = .ok (.iand, 1) := by decide +kernel
theorem dX1_bare_54 : decode cX1_bare 54 = .ok (.invokevirtual 44, 3) := by decide +kernel
theorem dX1_bare_57 : decode cX1_bare 57 = .ok (.ifCond .ne 7, 3) := by decide +kernel
theorem dX1_bare_60 : decode cX1_bare 60 = .ok (.iconst 1, 1) := by decide +kernel
theorem dX1_bare_61 : decode cX1_bare 61 = .ok (.goto 4, 3) := by decide +kernel
theorem dX1_bare_64 : decode cX1_bare 64 = .ok (.iconst 0, 1) := by decide +kernel
theorem dX1_bare_65 : decode cX1_bare 65 = .ok (.istore_n 3, 1) := by decide +kernel
theorem dX1_bare_66 : decode cX1_bare 66 = .ok (.iinc 4 1, 3) := by decide +kernel
theorem dX1_bare_69 : decode cX1_bare 69 = .ok (.goto (-44), 3) := by decide +kernel
theorem dX1_bare_72 : decode cX1_bare 72 = .ok (.iload_n 3, 1) := by decide +kernel
theorem dX1_bare_73 : decode cX1_bare 73 = .ok (.ifCond .eq 6, 3) := by decide +kernel
theorem dX1_bare_76 : decode cX1_bare 76 = .ok (.iinc 1 1, 3) := by decide +kernel
theorem dX1_bare_79 : decode cX1_bare 79 = .ok (.iinc 2 1, 3) := by decide +kernel
theorem dX1_bare_82 : decode cX1_bare 82 = .ok (.goto (-73), 3) := by decide +kernel
theorem dX1_bare_85 : decode cX1_bare 85 = .ok (.iload_n 1, 1) := by decide +kernel
theorem dX1_bare_86 : decode cX1_bare 86 = .ok (.ireturn, 1) := by decide +kernel
theorem dX1_about_0 : decode cX1_about 0 = .ok (.aload_n 0, 1) := by decide +kernel
theorem dX1_about_1 : decode cX1_about 1 = .ok (.iload_n 1, 1) := by decide +kernel
theorem dX1_about_2 : decode cX1_about 2 = .ok (.bipush 10, 2) := by decide +kernel
theorem dX1_about_4 : decode cX1_about 4 = .ok (.invokestatic 26, 3) := by decide +kernel
theorem dX1_about_7 : decode cX1_about 7 = .ok (.ifCond .eq 7, 3) := by decide +kernel
theorem dX1_about_10 : decode cX1_about 10 = .ok (.iconst 1, 1) := by decide +kernel
theorem dX1_about_11 : decode cX1_about 11 = .ok (.goto 17, 3) := by decide +kernel
theorem dX1_about_14 : decode cX1_about 14 = .ok (.iload_n 2, 1) := by decide +kernel
theorem dX1_about_15 : decode cX1_about 15 = .ok (.ifCond .lt 8, 3) := by decide +kernel
theorem dX1_about_18 : decode cX1_about 18 = .ok (.iload_n 2, 1) := by decide +kernel
theorem dX1_about_19 : decode cX1_about 19 = .ok (.iconst 3, 1) := by decide +kernel
theorem dX1_about_20 : decode cX1_about 20 = .ok (.if_icmp .le 7, 3) := by decide +kernel
theorem dX1_about_23 : decode cX1_about 23 = .ok (.iconst 2, 1) := by decide +kernel
theorem dX1_about_24 : decode cX1_about 24 = .ok (.goto 4, 3) := by decide +kernel
theorem dX1_about_27 : decode cX1_about 27 = .ok (.iconst 0, 1) := by decide +kernel
theorem dX1_about_28 : decode cX1_about 28 = .ok (.putfield 23, 3) := by decide +kernel
theorem dX1_about_31 : decode cX1_about 31 = .ok (.aload_n 0, 1) := by decide +kernel
theorem dX1_about_32 : decode cX1_about 32 = .ok (.getfield 23, 3) := by decide +kernel
theorem dX1_about_35 : decode cX1_about 35 = .ok (.ifCond .le 5, 3) := by decide +kernel
theorem dX1_about_38 : decode cX1_about 38 = .ok (.iconst 0, 1) := by decide +kernel
theorem dX1_about_39 : decode cX1_about 39 = .ok (.ireturn, 1) := by decide +kernel
theorem dX1_about_40 : decode cX1_about 40 = .ok (.iload_n 2, 1) := by decide +kernel
theorem dX1_about_41 : decode cX1_about 41 = .ok (.ifCond .ne 10, 3) := by decide +kernel
theorem dX1_about_44 : decode cX1_about 44 = .ok (.aload_n 0, 1) := by decide +kernel
theorem dX1_about_45 : decode cX1_about 45 = .ok (.getfield 9, 3) := by decide +kernel
theorem dX1_about_48 : decode cX1_about 48 = .ok (.iload_n 1, 1) := by decide +kernel
theorem dX1_about_49 : decode cX1_about 49 = .ok (.iaload, 1) := by decide +kernel
theorem dX1_about_50 : decode cX1_about 50 = .ok (.ireturn, 1) := by decide +kernel
theorem dX1_about_51 : decode cX1_about 51 = .ok (.iload_n 2, 1) := by decide +kernel
theorem dX1_about_52 : decode cX1_about 52 = .ok (.iconst 1, 1) := by decide +kernel
theorem dX1_about_53 : decode cX1_about 53 = .ok (.if_icmp .ne 10, 3) := by decide +kernel
theorem dX1_about_56 : decode cX1_about 56 = .ok (.aload_n 0, 1) := by decide +kernel
theorem dX1_about_57 : decode cX1_about 57 = .ok (.getfield 13, 3) := by decide +kernel
theorem dX1_about_60 : decode cX1_about 60 = .ok (.iload_n 1, 1) := by decide +kernel
theorem dX1_about_61 : decode cX1_about 61 = .ok (.iaload, 1) := by decide +kernel
theorem dX1_about_62 : decode cX1_about 62 = .ok (.ireturn, 1) := by decide +kernel
theorem dX1_about_63 : decode cX1_about 63 = .ok (.iconst 0, 1) := by decide +kernel
theorem dX1_about_64 : decode cX1_about 64 = .ok (.istore_n 3, 1) := by decide +kernel
theorem dX1_about_65 : decode cX1_about 65 = .ok (.iconst (-1), 1) := by decide +kernel
theorem dX1_about_66 : decode cX1_about 66 = .ok (.istore 4, 2) := by decide +kernel
theorem dX1_about_68 : decode cX1_about 68 = .ok (.iconst 0, 1) := by decide +kernel
theorem dX1_about_69 : decode cX1_about 69 = .ok (.istore 5, 2) := by decide +kernel
theorem dX1_about_71 : decode cX1_about 71 = .ok (.iload 5, 2) := by decide +kernel
theorem dX1_about_73 : decode cX1_about 73 = .ok (.bipush 31, 2) := by decide +kernel
theorem dX1_about_75 : decode cX1_about 75 = .ok (.if_icmp .ge 30, 3) := by decide +kernel
theorem dX1_about_78 : decode cX1_about 78 = .ok (.aload_n 0, 1) := by decide +kernel
theorem dX1_about_79 : decode cX1_about 79 = .ok (.iload_n 1, 1) := by decide +kernel
theorem dX1_about_80 : decode cX1_about 80 = .ok (.iload 5, 2) := by decide +kernel
theorem dX1_about_82 : decode cX1_about 82 = .ok (.invokevirtual 34, 3) := by decide +kernel
theorem dX1_about_85 : decode cX1_about 85 = .ok (.iconst (-1), 1) := by decide +kernel
theorem dX1_about_86 : decode cX1_about 86 = .ok (.if_icmp .ne 6, 3) := by decide +kernel
theorem dX1_about_89 : decode cX1_about 89 = .ok (.goto 10, 3) := by decide +kernel
theorem dX1_about_92 : decode cX1_about 92 = .ok (.iinc 3 1, 3) := by decide +kernel
theorem dX1_about_95 : decode cX1_about 95 = .ok (.iload 5, 2) := by decide +kernel
theorem dX1_about_97 : decode cX1_about 97 = .ok (.istore 4, 2) := by decide +kernel
theorem dX1_about_99 : decode cX1_about 99 = .ok (.iinc 5 1, 3) := by decide +kernel
theorem dX1_about_102 : decode cX1_about 102 = .ok (.goto (-31), 3) := by decide +kernel
theorem dX1_about_105 : decode cX1_about 105 = .ok (.iload_n 2, 1) := by decide +kernel
theorem dX1_about_106 : decode cX1_about 106 = .ok (.iconst 2, 1) := by decide +kernel
theorem dX1_about_107 : decode cX1_about 107 = .ok (.if_icmp .ne 7, 3) := by decide +kernel
theorem dX1_about_110 : decode cX1_about 110 = .ok (.iload_n 3, 1) := by decide +kernel
theorem dX1_about_111 : decode cX1_about 111 = .ok (.goto 5, 3) := by decide +kernel
theorem dX1_about_114 : decode cX1_about 114 = .ok (.iload 4, 2) := by decide +kernel
theorem dX1_about_116 : decode cX1_about 116 = .ok (.ireturn, 1) := by decide +kernel
theorem dX1_count_0 : decode cX1_count 0 = .ok (.aload_n 0, 1) := by decide +kernel
theorem dX1_count_1 : decode cX1_count 1 = .ok (.iconst 0, 1) := by decide +kernel
theorem dX1_count_2 : decode cX1_count 2 = .ok (.putfield 23, 3) := by decide +kernel
theorem dX1_count_5 : decode cX1_count 5 = .ok (.iconst 0, 1) := by decide +kernel
theorem dX1_count_6 : decode cX1_count 6 = .ok (.istore_n 2, 1) := by decide +kernel
theorem dX1_count_7 : decode cX1_count 7 = .ok (.iload_n 1, 1) := by decide +kernel
theorem dX1_count_8 : decode cX1_count 8 = .ok (.tableswitch 187 0 4 #[36, 41, 66, 96, 124], 36) := by decide +kernel
theorem dX1_count_44 : decode cX1_count 44 = .ok (.aload_n 0, 1) := by decide +kernel
theorem dX1_count_45 : decode cX1_count 45 = .ok (.getfield 19, 3) := by decide +kernel
theorem dX1_count_48 : decode cX1_count 48 = .ok (.ireturn, 1) := by decide +kernel
theorem dX1_count_49 : decode cX1_count 49 = .ok (.iconst 0, 1) := by decide +kernel
theorem dX1_count_50 : decode cX1_count 50 = .ok (.istore_n 3, 1) := by decide +kernel
theorem dX1_count_51 : decode cX1_count 51 = .ok (.iload_n 3, 1) := by decide +kernel
theorem dX1_count_52 : decode cX1_count 52 = .ok (.bipush 10, 2) := by decide +kernel
theorem dX1_count_54 : decode cX1_count 54 = .ok (.if_icmp .ge 18, 3) := by decide +kernel
theorem dX1_count_57 : decode cX1_count 57 = .ok (.iload_n 2, 1) := by decide +kernel
theorem dX1_count_58 : decode cX1_count 58 = .ok (.aload_n 0, 1) := by decide +kernel
theorem dX1_count_59 : decode cX1_count 59 = .ok (.getfield 9, 3) := by decide +kernel
theorem dX1_count_62 : decode cX1_count 62 = .ok (.iload_n 3, 1) := by decide +kernel
theorem dX1_count_63 : decode cX1_count 63 = .ok (.iaload, 1) := by decide +kernel
theorem dX1_count_64 : decode cX1_count 64 = .ok (.iadd, 1) := by decide +kernel
theorem dX1_count_65 : decode cX1_count 65 = .ok (.istore_n 2, 1) := by decide +kernel
theorem dX1_count_66 : decode cX1_count 66 = .ok (.iinc 3 1, 3) := by decide +kernel
theorem dX1_count_69 : decode cX1_count 69 = .ok (.goto (-18), 3) := by decide +kernel
theorem dX1_count_72 : decode cX1_count 72 = .ok (.iload_n 2, 1) := by decide +kernel
theorem dX1_count_73 : decode cX1_count 73 = .ok (.ireturn, 1) := by decide +kernel
theorem dX1_count_74 : decode cX1_count 74 = .ok (.iconst 0, 1) := by decide +kernel
theorem dX1_count_75 : decode cX1_count 75 = .ok (.istore_n 3, 1) := by decide +kernel
theorem dX1_count_76 : decode cX1_count 76 = .ok (.iload_n 3, 1) := by decide +kernel
theorem dX1_count_77 : decode cX1_count 77 = .ok (.sipush 310, 3) := by decide +kernel
theorem dX1_count_80 : decode cX1_count 80 = .ok (.if_icmp .ge 22, 3) := by decide +kernel
theorem dX1_count_83 : decode cX1_count 83 = .ok (.aload_n 0, 1) := by decide +kernel
theorem dX1_count_84 : decode cX1_count 84 = .ok (.getfield 16, 3) := by decide +kernel
theorem dX1_count_87 : decode cX1_count 87 = .ok (.iload_n 3, 1) := by decide +kernel
theorem dX1_count_88 : decode cX1_count 88 = .ok (.iaload, 1) := by decide +kernel
theorem dX1_count_89 : decode cX1_count 89 = .ok (.iconst (-1), 1) := by decide +kernel
theorem dX1_count_90 : decode cX1_count 90 = .ok (.if_icmp .eq 6, 3) := by decide +kernel
theorem dX1_count_93 : decode cX1_count 93 = .ok (.iinc 2 1, 3) := by decide +kernel
theorem dX1_count_96 : decode cX1_count 96 = .ok (.iinc 3 1, 3) := by decide +kernel
theorem dX1_count_99 : decode cX1_count 99 = .ok (.goto (-23), 3) := by decide +kernel
theorem dX1_count_102 : decode cX1_count 102 = .ok (.iload_n 2, 1) := by decide +kernel
theorem dX1_count_103 : decode cX1_count 103 = .ok (.ireturn, 1) := by decide +kernel
theorem dX1_count_104 : decode cX1_count 104 = .ok (.iconst 0, 1) := by decide +kernel
theorem dX1_count_105 : decode cX1_count 105 = .ok (.istore_n 3, 1) := by decide +kernel
theorem dX1_count_106 : decode cX1_count 106 = .ok (.iload_n 3, 1) := by decide +kernel
theorem dX1_count_107 : decode cX1_count 107 = .ok (.bipush 31, 2) := by decide +kernel
theorem dX1_count_109 : decode cX1_count 109 = .ok (.if_icmp .ge 21, 3) := by decide +kernel
theorem dX1_count_112 : decode cX1_count 112 = .ok (.aload_n 0, 1) := by decide +kernel
theorem dX1_count_113 : decode cX1_count 113 = .ok (.iload_n 3, 1) := by decide +kernel
theorem dX1_count_114 : decode cX1_count 114 = .ok (.invokevirtual 48, 3) := by decide +kernel
theorem dX1_count_117 : decode cX1_count 117 = .ok (.iconst (-1), 1) := by decide +kernel
theorem dX1_count_118 : decode cX1_count 118 = .ok (.if_icmp .eq 6, 3) := by decide +kernel
theorem dX1_count_121 : decode cX1_count 121 = .ok (.iinc 2 1, 3) := by decide +kernel
theorem dX1_count_124 : decode cX1_count 124 = .ok (.iinc 3 1, 3) := by decide +kernel
theorem dX1_count_127 : decode cX1_count 127 = .ok (.goto (-21), 3) := by decide +kernel
theorem dX1_count_130 : decode cX1_count 130 = .ok (.iload_n 2, 1) := by decide +kernel
theorem dX1_count_131 : decode cX1_count 131 = .ok (.ireturn, 1) := by decide +kernel
theorem dX1_count_132 : decode cX1_count 132 = .ok (.iconst 0, 1) := by decide +kernel
theorem dX1_count_133 : decode cX1_count 133 = .ok (.istore_n 3, 1) := by decide +kernel
theorem dX1_count_134 : decode cX1_count 134 = .ok (.iload_n 3, 1) := by decide +kernel
theorem dX1_count_135 : decode cX1_count 135 = .ok (.bipush 10, 2) := by decide +kernel
theorem dX1_count_137 : decode cX1_count 137 = .ok (.if_icmp .ge 56, 3) := by decide +kernel
theorem dX1_count_140 : decode cX1_count 140 = .ok (.iconst 0, 1) := by decide +kernel
theorem dX1_count_141 : decode cX1_count 141 = .ok (.istore 4, 2) := by decide +kernel
theorem dX1_count_143 : decode cX1_count 143 = .ok (.iconst 0, 1) := by decide +kernel
theorem dX1_count_144 : decode cX1_count 144 = .ok (.istore 5, 2) := by decide +kernel
theorem dX1_count_146 : decode cX1_count 146 = .ok (.iload 5, 2) := by decide +kernel
theorem dX1_count_148 : decode cX1_count 148 = .ok (.bipush 31, 2) := by decide +kernel
theorem dX1_count_150 : decode cX1_count 150 = .ok (.if_icmp .ge 29, 3) := by decide +kernel
theorem dX1_count_153 : decode cX1_count 153 = .ok (.iload 4, 2) := by decide +kernel
theorem dX1_count_155 : decode cX1_count 155 = .ok (.aload_n 0, 1) := by decide +kernel
theorem dX1_count_156 : decode cX1_count 156 = .ok (.iload 5, 2) := by decide +kernel
theorem dX1_count_158 : decode cX1_count 158 = .ok (.invokevirtual 48, 3) := by decide +kernel
theorem dX1_count_161 : decode cX1_count 161 = .ok (.iload_n 3, 1) := by decide +kernel
theorem dX1_count_162 : decode cX1_count 162 = .ok (.if_icmp .ne 7, 3) := by decide +kernel
theorem dX1_count_165 : decode cX1_count 165 = .ok (.iconst 1, 1) := by decide +kernel
theorem dX1_count_166 : decode cX1_count 166 = .ok (.goto 4, 3) := by decide +kernel
theorem dX1_count_169 : decode cX1_count 169 = .ok (.iconst 0, 1) := by decide +kernel
theorem dX1_count_170 : decode cX1_count 170 = .ok (.ior, 1) := by decide +kernel
theorem dX1_count_171 : decode cX1_count 171 = .ok (.istore 4, 2) := by decide +kernel
theorem dX1_count_173 : decode cX1_count 173 = .ok (.iinc 5 1, 3) := by decide +kernel
theorem dX1_count_176 : decode cX1_count 176 = .ok (.goto (-30), 3) := by decide +kernel
theorem dX1_count_179 : decode cX1_count 179 = .ok (.iload 4, 2) := by decide +kernel
theorem dX1_count_181 : decode cX1_count 181 = .ok (.ifCond .eq 6, 3) := by decide +kernel
theorem dX1_count_184 : decode cX1_count 184 = .ok (.iinc 2 1, 3) := by decide +kernel
theorem dX1_count_187 : decode cX1_count 187 = .ok (.iinc 3 1, 3) := by decide +kernel
theorem dX1_count_190 : decode cX1_count 190 = .ok (.goto (-56), 3) := by decide +kernel
theorem dX1_count_193 : decode cX1_count 193 = .ok (.iload_n 2, 1) := by decide +kernel
theorem dX1_count_194 : decode cX1_count 194 = .ok (.ireturn, 1) := by decide +kernel
theorem dX1_count_195 : decode cX1_count 195 = .ok (.iconst (-1), 1) := by decide +kernel
theorem dX1_count_196 : decode cX1_count 196 = .ok (.ireturn, 1) := by decide +kernel
