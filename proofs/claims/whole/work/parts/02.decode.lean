theorem dX0_init_0 : decode cX0_init 0 = .ok (.aload_n 0, 1) := by decide +kernel
theorem dX0_init_1 : decode cX0_init 1 = .ok (.invokespecial 3, 3) := by decide +kernel
theorem dX0_init_4 : decode cX0_init 4 = .ok (.aload_n 0, 1) := by decide +kernel
theorem dX0_init_5 : decode cX0_init 5 = .ok (.iload_n 1, 1) := by decide +kernel
theorem dX0_init_6 : decode cX0_init 6 = .ok (.putfield 9, 3) := by decide +kernel
theorem dX0_init_9 : decode cX0_init 9 = .ok (.aload_n 0, 1) := by decide +kernel
theorem dX0_init_10 : decode cX0_init 10 = .ok (.iload_n 2, 1) := by decide +kernel
theorem dX0_init_11 : decode cX0_init 11 = .ok (.putfield 15, 3) := by decide +kernel
theorem dX0_init_14 : decode cX0_init 14 = .ok (.aload_n 0, 1) := by decide +kernel
theorem dX0_init_15 : decode cX0_init 15 = .ok (.iload_n 3, 1) := by decide +kernel
theorem dX0_init_16 : decode cX0_init 16 = .ok (.putfield 18, 3) := by decide +kernel
theorem dX0_init_19 : decode cX0_init 19 = .ok (.return_, 1) := by decide +kernel
theorem dX0_kind_0 : decode cX0_kind 0 = .ok (.iconst 0, 1) := by decide +kernel
theorem dX0_kind_1 : decode cX0_kind 1 = .ok (.ireturn, 1) := by decide +kernel
theorem dX0_changed_0 : decode cX0_changed 0 = .ok (.iload_n 1, 1) := by decide +kernel
theorem dX0_changed_1 : decode cX0_changed 1 = .ok (.aload_n 0, 1) := by decide +kernel
theorem dX0_changed_2 : decode cX0_changed 2 = .ok (.getfield 15, 3) := by decide +kernel
theorem dX0_changed_5 : decode cX0_changed 5 = .ok (.iadd, 1) := by decide +kernel
theorem dX0_changed_6 : decode cX0_changed 6 = .ok (.bipush 7, 2) := by decide +kernel
theorem dX0_changed_8 : decode cX0_changed 8 = .ok (.iand, 1) := by decide +kernel
theorem dX0_changed_9 : decode cX0_changed 9 = .ok (.ireturn, 1) := by decide +kernel
theorem dX0_stateAfter_0 : decode cX0_stateAfter 0 = .ok (.iload_n 1, 1) := by decide +kernel
theorem dX0_stateAfter_1 : decode cX0_stateAfter 1 = .ok (.aload_n 0, 1) := by decide +kernel
theorem dX0_stateAfter_2 : decode cX0_stateAfter 2 = .ok (.getfield 9, 3) := by decide +kernel
theorem dX0_stateAfter_5 : decode cX0_stateAfter 5 = .ok (.invokestatic 21, 3) := by decide +kernel
theorem dX0_stateAfter_8 : decode cX0_stateAfter 8 = .ok (.istore_n 2, 1) := by decide +kernel
theorem dX0_stateAfter_9 : decode cX0_stateAfter 9 = .ok (.iload_n 1, 1) := by decide +kernel
theorem dX0_stateAfter_10 : decode cX0_stateAfter 10 = .ok (.aload_n 0, 1) := by decide +kernel
theorem dX0_stateAfter_11 : decode cX0_stateAfter 11 = .ok (.iload_n 2, 1) := by decide +kernel
theorem dX0_stateAfter_12 : decode cX0_stateAfter 12 = .ok (.invokevirtual 25, 3) := by decide +kernel
theorem dX0_stateAfter_15 : decode cX0_stateAfter 15 = .ok (.iload_n 2, 1) := by decide +kernel
theorem dX0_stateAfter_16 : decode cX0_stateAfter 16 = .ok (.isub, 1) := by decide +kernel
theorem dX0_stateAfter_17 : decode cX0_stateAfter 17 = .ok (.iconst 3, 1) := by decide +kernel
theorem dX0_stateAfter_18 : decode cX0_stateAfter 18 = .ok (.aload_n 0, 1) := by decide +kernel
theorem dX0_stateAfter_19 : decode cX0_stateAfter 19 = .ok (.getfield 9, 3) := by decide +kernel
theorem dX0_stateAfter_22 : decode cX0_stateAfter 22 = .ok (.imul, 1) := by decide +kernel
theorem dX0_stateAfter_23 : decode cX0_stateAfter 23 = .ok (.ishl, 1) := by decide +kernel
theorem dX0_stateAfter_24 : decode cX0_stateAfter 24 = .ok (.iadd, 1) := by decide +kernel
theorem dX0_stateAfter_25 : decode cX0_stateAfter 25 = .ok (.ireturn, 1) := by decide +kernel
theorem dX1_init_0 : decode cX1_init 0 = .ok (.aload_n 0, 1) := by decide +kernel
theorem dX1_init_1 : decode cX1_init 1 = .ok (.iload_n 1, 1) := by decide +kernel
theorem dX1_init_2 : decode cX1_init 2 = .ok (.iload_n 2, 1) := by decide +kernel
theorem dX1_init_3 : decode cX1_init 3 = .ok (.iload_n 3, 1) := by decide +kernel
theorem dX1_init_4 : decode cX1_init 4 = .ok (.invokespecial 3, 3) := by decide +kernel
theorem dX1_init_7 : decode cX1_init 7 = .ok (.return_, 1) := by decide +kernel
theorem dX1_kind_0 : decode cX1_kind 0 = .ok (.iconst 4, 1) := by decide +kernel
theorem dX1_kind_1 : decode cX1_kind 1 = .ok (.ireturn, 1) := by decide +kernel
theorem dX1_changed_0 : decode cX1_changed 0 = .ok (.iconst 2, 1) := by decide +kernel
theorem dX1_changed_1 : decode cX1_changed 1 = .ok (.iload_n 1, 1) := by decide +kernel
theorem dX1_changed_2 : decode cX1_changed 2 = .ok (.imul, 1) := by decide +kernel
theorem dX1_changed_3 : decode cX1_changed 3 = .ok (.bipush 7, 2) := by decide +kernel
theorem dX1_changed_5 : decode cX1_changed 5 = .ok (.iand, 1) := by decide +kernel
theorem dX1_changed_6 : decode cX1_changed 6 = .ok (.ireturn, 1) := by decide +kernel
theorem dX2_init_0 : decode cX2_init 0 = .ok (.aload_n 0, 1) := by decide +kernel
theorem dX2_init_1 : decode cX2_init 1 = .ok (.invokespecial 3, 3) := by decide +kernel
theorem dX2_init_4 : decode cX2_init 4 = .ok (.aload_n 0, 1) := by decide +kernel
theorem dX2_init_5 : decode cX2_init 5 = .ok (.bipush 30, 2) := by decide +kernel
theorem dX2_init_7 : decode cX2_init 7 = .ok (.newarray .int, 2) := by decide +kernel
theorem dX2_init_9 : decode cX2_init 9 = .ok (.putfield 9, 3) := by decide +kernel
theorem dX2_init_12 : decode cX2_init 12 = .ok (.return_, 1) := by decide +kernel
theorem dX2_add_0 : decode cX2_add 0 = .ok (.aload_n 0, 1) := by decide +kernel
theorem dX2_add_1 : decode cX2_add 1 = .ok (.getfield 9, 3) := by decide +kernel
theorem dX2_add_4 : decode cX2_add 4 = .ok (.aload_n 0, 1) := by decide +kernel
theorem dX2_add_5 : decode cX2_add 5 = .ok (.getfield 15, 3) := by decide +kernel
theorem dX2_add_8 : decode cX2_add 8 = .ok (.iload_n 1, 1) := by decide +kernel
theorem dX2_add_9 : decode cX2_add 9 = .ok (.invokestatic 19, 3) := by decide +kernel
theorem dX2_add_12 : decode cX2_add 12 = .ok (.aload_n 0, 1) := by decide +kernel
theorem dX2_add_13 : decode cX2_add 13 = .ok (.dup, 1) := by decide +kernel
theorem dX2_add_14 : decode cX2_add 14 = .ok (.getfield 15, 3) := by decide +kernel
theorem dX2_add_17 : decode cX2_add 17 = .ok (.iconst 1, 1) := by decide +kernel
theorem dX2_add_18 : decode cX2_add 18 = .ok (.iadd, 1) := by decide +kernel
theorem dX2_add_19 : decode cX2_add 19 = .ok (.putfield 15, 3) := by decide +kernel
theorem dX2_add_22 : decode cX2_add 22 = .ok (.return_, 1) := by decide +kernel
theorem dX2_codeAt_0 : decode cX2_codeAt 0 = .ok (.aload_n 0, 1) := by decide +kernel
theorem dX2_codeAt_1 : decode cX2_codeAt 1 = .ok (.getfield 9, 3) := by decide +kernel
theorem dX2_codeAt_4 : decode cX2_codeAt 4 = .ok (.iload_n 1, 1) := by decide +kernel
theorem dX2_codeAt_5 : decode cX2_codeAt 5 = .ok (.invokestatic 23, 3) := by decide +kernel
theorem dX2_codeAt_8 : decode cX2_codeAt 8 = .ok (.ireturn, 1) := by decide +kernel
theorem dX2_digitAt_0 : decode cX2_digitAt 0 = .ok (.aload_n 0, 1) := by decide +kernel
theorem dX2_digitAt_1 : decode cX2_digitAt 1 = .ok (.getfield 9, 3) := by decide +kernel
theorem dX2_digitAt_4 : decode cX2_digitAt 4 = .ok (.iload_n 1, 1) := by decide +kernel
theorem dX2_digitAt_5 : decode cX2_digitAt 5 = .ok (.invokestatic 23, 3) := by decide +kernel
theorem dX2_digitAt_8 : decode cX2_digitAt 8 = .ok (.bipush 48, 2) := by decide +kernel
theorem dX2_digitAt_10 : decode cX2_digitAt 10 = .ok (.isub, 1) := by decide +kernel
theorem dX2_digitAt_11 : decode cX2_digitAt 11 = .ok (.ireturn, 1) := by decide +kernel
theorem dX2_faultOfTown_0 : decode cX2_faultOfTown 0 = .ok (.iconst 0, 1) := by decide +kernel
theorem dX2_faultOfTown_1 : decode cX2_faultOfTown 1 = .ok (.istore_n 1, 1) := by decide +kernel
theorem dX2_faultOfTown_2 : decode cX2_faultOfTown 2 = .ok (.iload_n 1, 1) := by decide +kernel
theorem dX2_faultOfTown_3 : decode cX2_faultOfTown 3 = .ok (.aload_n 0, 1) := by decide +kernel
theorem dX2_faultOfTown_4 : decode cX2_faultOfTown 4 = .ok (.getfield 15, 3) := by decide +kernel
theorem dX2_faultOfTown_7 : decode cX2_faultOfTown 7 = .ok (.if_icmp .ge 19, 3) := by decide +kernel
theorem dX2_faultOfTown_10 : decode cX2_faultOfTown 10 = .ok (.aload_n 0, 1) := by decide +kernel
theorem dX2_faultOfTown_11 : decode cX2_faultOfTown 11 = .ok (.iload_n 1, 1) := by decide +kernel
theorem dX2_faultOfTown_12 : decode cX2_faultOfTown 12 = .ok (.invokevirtual 27, 3) := by decide +kernel
theorem dX2_faultOfTown_15 : decode cX2_faultOfTown 15 = .ok (.ifCond .ne 5, 3) := by decide +kernel
theorem dX2_faultOfTown_18 : decode cX2_faultOfTown 18 = .ok (.iload_n 1, 1) := by decide +kernel
theorem dX2_faultOfTown_19 : decode cX2_faultOfTown 19 = .ok (.ireturn, 1) := by decide +kernel
theorem dX2_faultOfTown_20 : decode cX2_faultOfTown 20 = .ok (.iinc 1 1, 3) := by decide +kernel
theorem dX2_faultOfTown_23 : decode cX2_faultOfTown 23 = .ok (.goto (-21), 3) := by decide +kernel
theorem dX2_faultOfTown_26 : decode cX2_faultOfTown 26 = .ok (.aload_n 0, 1) := by decide +kernel
theorem dX2_faultOfTown_27 : decode cX2_faultOfTown 27 = .ok (.getfield 15, 3) := by decide +kernel
theorem dX2_faultOfTown_30 : decode cX2_faultOfTown 30 = .ok (.ireturn, 1) := by decide +kernel
theorem dX2_faultOfRound_0 : decode cX2_faultOfRound 0 = .ok (.iconst 0, 1) := by decide +kernel
theorem dX2_faultOfRound_1 : decode cX2_faultOfRound 1 = .ok (.istore_n 2, 1) := by decide +kernel
theorem dX2_faultOfRound_2 : decode cX2_faultOfRound 2 = .ok (.iload_n 2, 1) := by decide +kernel
theorem dX2_faultOfRound_3 : decode cX2_faultOfRound 3 = .ok (.aload_n 0, 1) := by decide +kernel
theorem dX2_faultOfRound_4 : decode cX2_faultOfRound 4 = .ok (.getfield 15, 3) := by decide +kernel
theorem dX2_faultOfRound_7 : decode cX2_faultOfRound 7 = .ok (.if_icmp .ge 32, 3) := by decide +kernel
theorem dX2_faultOfRound_10 : decode cX2_faultOfRound 10 = .ok (.aload_n 0, 1) := by decide +kernel
theorem dX2_faultOfRound_11 : decode cX2_faultOfRound 11 = .ok (.iload_n 2, 1) := by decide +kernel
theorem dX2_faultOfRound_12 : decode cX2_faultOfRound 12 = .ok (.invokevirtual 31, 3) := by decide +kernel
theorem dX2_faultOfRound_15 : decode cX2_faultOfRound 15 = .ok (.istore_n 3, 1) := by decide +kernel
theorem dX2_faultOfRound_16 : decode cX2_faultOfRound 16 = .ok (.iload_n 2, 1) := by decide +kernel
theorem dX2_faultOfRound_17 : decode cX2_faultOfRound 17 = .ok (.bipush 8, 2) := by decide +kernel
theorem dX2_faultOfRound_19 : decode cX2_faultOfRound 19 = .ok (.if_icmp .ge 12, 3) := by decide +kernel
theorem dX2_faultOfRound_22 : decode cX2_faultOfRound 22 = .ok (.iload_n 3, 1) := by decide +kernel
theorem dX2_faultOfRound_23 : decode cX2_faultOfRound 23 = .ok (.ifCond .lt 8, 3) := by decide +kernel
theorem dX2_faultOfRound_26 : decode cX2_faultOfRound 26 = .ok (.iload_n 3, 1) := by decide +kernel
theorem dX2_faultOfRound_27 : decode cX2_faultOfRound 27 = .ok (.iload_n 1, 1) := by decide +kernel
theorem dX2_faultOfRound_28 : decode cX2_faultOfRound 28 = .ok (.if_icmp .lt 5, 3) := by decide +kernel
theorem dX2_faultOfRound_31 : decode cX2_faultOfRound 31 = .ok (.iload_n 2, 1) := by decide +kernel
theorem dX2_faultOfRound_32 : decode cX2_faultOfRound 32 = .ok (.ireturn, 1) := by decide +kernel
theorem dX2_faultOfRound_33 : decode cX2_faultOfRound 33 = .ok (.iinc 2 1, 3) := by decide +kernel
theorem dX2_faultOfRound_36 : decode cX2_faultOfRound 36 = .ok (.goto (-34), 3) := by decide +kernel
theorem dX2_faultOfRound_39 : decode cX2_faultOfRound 39 = .ok (.aload_n 0, 1) := by decide +kernel
theorem dX2_faultOfRound_40 : decode cX2_faultOfRound 40 = .ok (.getfield 15, 3) := by decide +kernel
theorem dX2_faultOfRound_43 : decode cX2_faultOfRound 43 = .ok (.ireturn, 1) := by decide +kernel
theorem dX2_isTown_0 : decode cX2_isTown 0 = .ok (.aload_n 0, 1) := by decide +kernel
theorem dX2_isTown_1 : decode cX2_isTown 1 = .ok (.getfield 15, 3) := by decide +kernel
theorem dX2_isTown_4 : decode cX2_isTown 4 = .ok (.iconst 5, 1) := by decide +kernel
theorem dX2_isTown_5 : decode cX2_isTown 5 = .ok (.irem, 1) := by decide +kernel
theorem dX2_isTown_6 : decode cX2_isTown 6 = .ok (.iconst 4, 1) := by decide +kernel
theorem dX2_isTown_7 : decode cX2_isTown 7 = .ok (.if_icmp .ne 7, 3) := by decide +kernel
theorem dX2_isTown_10 : decode cX2_isTown 10 = .ok (.iconst 1, 1) := by decide +kernel
theorem dX2_isTown_11 : decode cX2_isTown 11 = .ok (.goto 4, 3) := by decide +kernel
theorem dX2_isTown_14 : decode cX2_isTown 14 = .ok (.iconst 0, 1) := by decide +kernel
theorem dX2_isTown_15 : decode cX2_isTown 15 = .ok (.istore_n 1, 1) := by decide +kernel
theorem dX2_isTown_16 : decode cX2_isTown 16 = .ok (.iload_n 1, 1) := by decide +kernel
theorem dX2_isTown_17 : decode cX2_isTown 17 = .ok (.ifCond .eq 30, 3) := by decide +kernel
theorem dX2_isTown_20 : decode cX2_isTown 20 = .ok (.aload_n 0, 1) := by decide +kernel
theorem dX2_isTown_21 : decode cX2_isTown 21 = .ok (.getfield 15, 3) := by decide +kernel
theorem dX2_isTown_24 : decode cX2_isTown 24 = .ok (.iconst 5, 1) := by decide +kernel
theorem dX2_isTown_25 : decode cX2_isTown 25 = .ok (.idiv, 1) := by decide +kernel
theorem dX2_isTown_26 : decode cX2_isTown 26 = .ok (.iconst 1, 1) := by decide +kernel
theorem dX2_isTown_27 : decode cX2_isTown 27 = .ok (.iadd, 1) := by decide +kernel
theorem dX2_isTown_28 : decode cX2_isTown 28 = .ok (.iconst 2, 1) := by decide +kernel
theorem dX2_isTown_29 : decode cX2_isTown 29 = .ok (.if_icmp .lt 18, 3) := by decide +kernel
theorem dX2_isTown_32 : decode cX2_isTown 32 = .ok (.aload_n 0, 1) := by decide +kernel
theorem dX2_isTown_33 : decode cX2_isTown 33 = .ok (.invokevirtual 35, 3) := by decide +kernel
theorem dX2_isTown_36 : decode cX2_isTown 36 = .ok (.aload_n 0, 1) := by decide +kernel
theorem dX2_isTown_37 : decode cX2_isTown 37 = .ok (.getfield 15, 3) := by decide +kernel
theorem dX2_isTown_40 : decode cX2_isTown 40 = .ok (.if_icmp .ne 7, 3) := by decide +kernel
theorem dX2_isTown_43 : decode cX2_isTown 43 = .ok (.iconst 1, 1) := by decide +kernel
theorem dX2_isTown_44 : decode cX2_isTown 44 = .ok (.goto 4, 3) := by decide +kernel
theorem dX2_isTown_47 : decode cX2_isTown 47 = .ok (.iconst 0, 1) := by decide +kernel
theorem dX2_isTown_48 : decode cX2_isTown 48 = .ok (.ireturn, 1) := by decide +kernel
theorem dX2_isRound_0 : decode cX2_isRound 0 = .ok (.aload_n 0, 1) := by decide +kernel
theorem dX2_isRound_1 : decode cX2_isRound 1 = .ok (.getfield 15, 3) := by decide +kernel
theorem dX2_isRound_4 : decode cX2_isRound 4 = .ok (.ifCond .le 19, 3) := by decide +kernel
theorem dX2_isRound_7 : decode cX2_isRound 7 = .ok (.aload_n 0, 1) := by decide +kernel
theorem dX2_isRound_8 : decode cX2_isRound 8 = .ok (.iload_n 1, 1) := by decide +kernel
theorem dX2_isRound_9 : decode cX2_isRound 9 = .ok (.invokevirtual 39, 3) := by decide +kernel
theorem dX2_isRound_12 : decode cX2_isRound 12 = .ok (.aload_n 0, 1) := by decide +kernel
theorem dX2_isRound_13 : decode cX2_isRound 13 = .ok (.getfield 15, 3) := by decide +kernel
theorem dX2_isRound_16 : decode cX2_isRound 16 = .ok (.if_icmp .ne 7, 3) := by decide +kernel
theorem dX2_isRound_19 : decode cX2_isRound 19 = .ok (.iconst 1, 1) := by decide +kernel
theorem dX2_isRound_20 : decode cX2_isRound 20 = .ok (.goto 4, 3) := by decide +kernel
theorem dX2_isRound_23 : decode cX2_isRound 23 = .ok (.iconst 0, 1) := by decide +kernel
theorem dX2_isRound_24 : decode cX2_isRound 24 = .ok (.ireturn, 1) := by decide +kernel
theorem dX2_borrowers_0 : decode cX2_borrowers 0 = .ok (.aload_n 0, 1) := by decide +kernel
theorem dX2_borrowers_1 : decode cX2_borrowers 1 = .ok (.getfield 15, 3) := by decide +kernel
theorem dX2_borrowers_4 : decode cX2_borrowers 4 = .ok (.iconst 1, 1) := by decide +kernel
theorem dX2_borrowers_5 : decode cX2_borrowers 5 = .ok (.iadd, 1) := by decide +kernel
theorem dX2_borrowers_6 : decode cX2_borrowers 6 = .ok (.iconst 5, 1) := by decide +kernel
theorem dX2_borrowers_7 : decode cX2_borrowers 7 = .ok (.idiv, 1) := by decide +kernel
theorem dX2_borrowers_8 : decode cX2_borrowers 8 = .ok (.ireturn, 1) := by decide +kernel
theorem dX2_borrowerFrom_0 : decode cX2_borrowerFrom 0 = .ok (.iload_n 1, 1) := by decide +kernel
theorem dX2_borrowerFrom_1 : decode cX2_borrowerFrom 1 = .ok (.iconst 5, 1) := by decide +kernel
theorem dX2_borrowerFrom_2 : decode cX2_borrowerFrom 2 = .ok (.imul, 1) := by decide +kernel
theorem dX2_borrowerFrom_3 : decode cX2_borrowerFrom 3 = .ok (.istore_n 2, 1) := by decide +kernel
theorem dX2_borrowerFrom_4 : decode cX2_borrowerFrom 4 = .ok (.aload_n 0, 1) := by decide +kernel
theorem dX2_borrowerFrom_5 : decode cX2_borrowerFrom 5 = .ok (.iload_n 2, 1) := by decide +kernel
theorem dX2_borrowerFrom_6 : decode cX2_borrowerFrom 6 = .ok (.iconst 1, 1) := by decide +kernel
theorem dX2_borrowerFrom_7 : decode cX2_borrowerFrom 7 = .ok (.iadd, 1) := by decide +kernel
theorem dX2_borrowerFrom_8 : decode cX2_borrowerFrom 8 = .ok (.invokevirtual 31, 3) := by decide +kernel
theorem dX2_borrowerFrom_11 : decode cX2_borrowerFrom 11 = .ok (.istore_n 3, 1) := by decide +kernel
theorem dX2_borrowerFrom_12 : decode cX2_borrowerFrom 12 = .ok (.aload_n 0, 1) := by decide +kernel
theorem dX2_borrowerFrom_13 : decode cX2_borrowerFrom 13 = .ok (.iload_n 2, 1) := by decide +kernel
theorem dX2_borrowerFrom_14 : decode cX2_borrowerFrom 14 = .ok (.iconst 2, 1) := by decide +kernel
theorem dX2_borrowerFrom_15 : decode cX2_borrowerFrom 15 = .ok (.iadd, 1) := by decide +kernel
theorem dX2_borrowerFrom_16 : decode cX2_borrowerFrom 16 = .ok (.invokevirtual 31, 3) := by decide +kernel
theorem dX2_borrowerFrom_19 : decode cX2_borrowerFrom 19 = .ok (.istore 4, 2) := by decide +kernel
theorem dX2_borrowerFrom_21 : decode cX2_borrowerFrom 21 = .ok (.aload_n 0, 1) := by decide +kernel
theorem dX2_borrowerFrom_22 : decode cX2_borrowerFrom 22 = .ok (.iload_n 2, 1) := by decide +kernel
theorem dX2_borrowerFrom_23 : decode cX2_borrowerFrom 23 = .ok (.iconst 3, 1) := by decide +kernel
theorem dX2_borrowerFrom_24 : decode cX2_borrowerFrom 24 = .ok (.iadd, 1) := by decide +kernel
theorem dX2_borrowerFrom_25 : decode cX2_borrowerFrom 25 = .ok (.invokevirtual 31, 3) := by decide +kernel
theorem dX2_borrowerFrom_28 : decode cX2_borrowerFrom 28 = .ok (.istore 5, 2) := by decide +kernel
theorem dX2_borrowerFrom_30 : decode cX2_borrowerFrom 30 = .ok (.aload_n 0, 1) := by decide +kernel
theorem dX2_borrowerFrom_31 : decode cX2_borrowerFrom 31 = .ok (.getfield 9, 3) := by decide +kernel
theorem dX2_borrowerFrom_34 : decode cX2_borrowerFrom 34 = .ok (.iload_n 2, 1) := by decide +kernel
theorem dX2_borrowerFrom_35 : decode cX2_borrowerFrom 35 = .ok (.invokestatic 23, 3) := by decide +kernel
theorem dX2_borrowerFrom_38 : decode cX2_borrowerFrom 38 = .ok (.lookupswitch 94 #[(100, 81), (115, 42), (116, 55), (119, 68)], 42) := by decide +kernel
theorem dX2_borrowerFrom_80 : decode cX2_borrowerFrom 80 = .ok (.new 42, 3) := by decide +kernel
theorem dX2_borrowerFrom_83 : decode cX2_borrowerFrom 83 = .ok (.dup, 1) := by decide +kernel
theorem dX2_borrowerFrom_84 : decode cX2_borrowerFrom 84 = .ok (.iload_n 3, 1) := by decide +kernel
theorem dX2_borrowerFrom_85 : decode cX2_borrowerFrom 85 = .ok (.iload 4, 2) := by decide +kernel
theorem dX2_borrowerFrom_87 : decode cX2_borrowerFrom 87 = .ok (.iload 5, 2) := by decide +kernel
theorem dX2_borrowerFrom_89 : decode cX2_borrowerFrom 89 = .ok (.invokespecial 44, 3) := by decide +kernel
theorem dX2_borrowerFrom_92 : decode cX2_borrowerFrom 92 = .ok (.areturn, 1) := by decide +kernel
theorem dX2_borrowerFrom_93 : decode cX2_borrowerFrom 93 = .ok (.new 47, 3) := by decide +kernel
theorem dX2_borrowerFrom_96 : decode cX2_borrowerFrom 96 = .ok (.dup, 1) := by decide +kernel
theorem dX2_borrowerFrom_97 : decode cX2_borrowerFrom 97 = .ok (.iload_n 3, 1) := by decide +kernel
theorem dX2_borrowerFrom_98 : decode cX2_borrowerFrom 98 = .ok (.iload 4, 2) := by decide +kernel
theorem dX2_borrowerFrom_100 : decode cX2_borrowerFrom 100 = .ok (.iload 5, 2) := by decide +kernel
theorem dX2_borrowerFrom_102 : decode cX2_borrowerFrom 102 = .ok (.invokespecial 49, 3) := by decide +kernel
theorem dX2_borrowerFrom_105 : decode cX2_borrowerFrom 105 = .ok (.areturn, 1) := by decide +kernel
theorem dX2_borrowerFrom_106 : decode cX2_borrowerFrom 106 = .ok (.new 50, 3) := by decide +kernel
theorem dX2_borrowerFrom_109 : decode cX2_borrowerFrom 109 = .ok (.dup, 1) := by decide +kernel
theorem dX2_borrowerFrom_110 : decode cX2_borrowerFrom 110 = .ok (.iload_n 3, 1) := by decide +kernel
theorem dX2_borrowerFrom_111 : decode cX2_borrowerFrom 111 = .ok (.iload 4, 2) := by decide +kernel
theorem dX2_borrowerFrom_113 : decode cX2_borrowerFrom 113 = .ok (.iload 5, 2) := by decide +kernel
theorem dX2_borrowerFrom_115 : decode cX2_borrowerFrom 115 = .ok (.invokespecial 52, 3) := by decide +kernel
theorem dX2_borrowerFrom_118 : decode cX2_borrowerFrom 118 = .ok (.areturn, 1) := by decide +kernel
theorem dX2_borrowerFrom_119 : decode cX2_borrowerFrom 119 = .ok (.new 53, 3) := by decide +kernel
theorem dX2_borrowerFrom_122 : decode cX2_borrowerFrom 122 = .ok (.dup, 1) := by decide +kernel
theorem dX2_borrowerFrom_123 : decode cX2_borrowerFrom 123 = .ok (.iload_n 3, 1) := by decide +kernel
theorem dX2_borrowerFrom_124 : decode cX2_borrowerFrom 124 = .ok (.iload 4, 2) := by decide +kernel
theorem dX2_borrowerFrom_126 : decode cX2_borrowerFrom 126 = .ok (.iload 5, 2) := by decide +kernel
theorem dX2_borrowerFrom_128 : decode cX2_borrowerFrom 128 = .ok (.invokespecial 55, 3) := by decide +kernel
theorem dX2_borrowerFrom_131 : decode cX2_borrowerFrom 131 = .ok (.areturn, 1) := by decide +kernel
theorem dX2_borrowerFrom_132 : decode cX2_borrowerFrom 132 = .ok (.new 56, 3) := by decide +kernel
theorem dX2_borrowerFrom_135 : decode cX2_borrowerFrom 135 = .ok (.dup, 1) := by decide +kernel
theorem dX2_borrowerFrom_136 : decode cX2_borrowerFrom 136 = .ok (.iload_n 3, 1) := by decide +kernel
theorem dX2_borrowerFrom_137 : decode cX2_borrowerFrom 137 = .ok (.iload 4, 2) := by decide +kernel
theorem dX2_borrowerFrom_139 : decode cX2_borrowerFrom 139 = .ok (.iload 5, 2) := by decide +kernel
theorem dX2_borrowerFrom_141 : decode cX2_borrowerFrom 141 = .ok (.invokespecial 58, 3) := by decide +kernel
theorem dX2_borrowerFrom_144 : decode cX2_borrowerFrom 144 = .ok (.areturn, 1) := by decide +kernel
theorem dX2_fitsTown_0 : decode cX2_fitsTown 0 = .ok (.iload_n 1, 1) := by decide +kernel
theorem dX2_fitsTown_1 : decode cX2_fitsTown 1 = .ok (.bipush 29, 2) := by decide +kernel
theorem dX2_fitsTown_3 : decode cX2_fitsTown 3 = .ok (.if_icmp .lt 5, 3) := by decide +kernel
theorem dX2_fitsTown_6 : decode cX2_fitsTown 6 = .ok (.iconst 0, 1) := by decide +kernel
theorem dX2_fitsTown_7 : decode cX2_fitsTown 7 = .ok (.ireturn, 1) := by decide +kernel
theorem dX2_fitsTown_8 : decode cX2_fitsTown 8 = .ok (.aload_n 0, 1) := by decide +kernel
theorem dX2_fitsTown_9 : decode cX2_fitsTown 9 = .ok (.getfield 9, 3) := by decide +kernel
theorem dX2_fitsTown_12 : decode cX2_fitsTown 12 = .ok (.iload_n 1, 1) := by decide +kernel
theorem dX2_fitsTown_13 : decode cX2_fitsTown 13 = .ok (.invokestatic 23, 3) := by decide +kernel
theorem dX2_fitsTown_16 : decode cX2_fitsTown 16 = .ok (.istore_n 2, 1) := by decide +kernel
theorem dX2_fitsTown_17 : decode cX2_fitsTown 17 = .ok (.iload_n 1, 1) := by decide +kernel
theorem dX2_fitsTown_18 : decode cX2_fitsTown 18 = .ok (.iconst 5, 1) := by decide +kernel
theorem dX2_fitsTown_19 : decode cX2_fitsTown 19 = .ok (.irem, 1) := by decide +kernel
theorem dX2_fitsTown_20 : decode cX2_fitsTown 20 = .ok (.tableswitch 122 0 3 #[32, 68, 86, 104], 32) := by decide +kernel
theorem dX2_fitsTown_52 : decode cX2_fitsTown 52 = .ok (.iload_n 2, 1) := by decide +kernel
theorem dX2_fitsTown_53 : decode cX2_fitsTown 53 = .ok (.bipush 97, 2) := by decide +kernel
theorem dX2_fitsTown_55 : decode cX2_fitsTown 55 = .ok (.if_icmp .eq 27, 3) := by decide +kernel
theorem dX2_fitsTown_58 : decode cX2_fitsTown 58 = .ok (.iload_n 2, 1) := by decide +kernel
theorem dX2_fitsTown_59 : decode cX2_fitsTown 59 = .ok (.bipush 115, 2) := by decide +kernel
theorem dX2_fitsTown_61 : decode cX2_fitsTown 61 = .ok (.if_icmp .eq 21, 3) := by decide +kernel
theorem dX2_fitsTown_64 : decode cX2_fitsTown 64 = .ok (.iload_n 2, 1) := by decide +kernel
theorem dX2_fitsTown_65 : decode cX2_fitsTown 65 = .ok (.bipush 116, 2) := by decide +kernel
theorem dX2_fitsTown_67 : decode cX2_fitsTown 67 = .ok (.if_icmp .eq 15, 3) := by decide +kernel
theorem dX2_fitsTown_70 : decode cX2_fitsTown 70 = .ok (.iload_n 2, 1) := by decide +kernel
theorem dX2_fitsTown_71 : decode cX2_fitsTown 71 = .ok (.bipush 119, 2) := by decide +kernel
theorem dX2_fitsTown_73 : decode cX2_fitsTown 73 = .ok (.if_icmp .eq 9, 3) := by decide +kernel
theorem dX2_fitsTown_76 : decode cX2_fitsTown 76 = .ok (.iload_n 2, 1) := by decide +kernel
theorem dX2_fitsTown_77 : decode cX2_fitsTown 77 = .ok (.bipush 100, 2) := by decide +kernel
theorem dX2_fitsTown_79 : decode cX2_fitsTown 79 = .ok (.if_icmp .ne 7, 3) := by decide +kernel
theorem dX2_fitsTown_82 : decode cX2_fitsTown 82 = .ok (.iconst 1, 1) := by decide +kernel
theorem dX2_fitsTown_83 : decode cX2_fitsTown 83 = .ok (.goto 4, 3) := by decide +kernel
theorem dX2_fitsTown_86 : decode cX2_fitsTown 86 = .ok (.iconst 0, 1) := by decide +kernel
theorem dX2_fitsTown_87 : decode cX2_fitsTown 87 = .ok (.ireturn, 1) := by decide +kernel
theorem dX2_fitsTown_88 : decode cX2_fitsTown 88 = .ok (.iload_n 2, 1) := by decide +kernel
theorem dX2_fitsTown_89 : decode cX2_fitsTown 89 = .ok (.bipush 48, 2) := by decide +kernel
theorem dX2_fitsTown_91 : decode cX2_fitsTown 91 = .ok (.if_icmp .lt 13, 3) := by decide +kernel
theorem dX2_fitsTown_94 : decode cX2_fitsTown 94 = .ok (.iload_n 2, 1) := by decide +kernel
theorem dX2_fitsTown_95 : decode cX2_fitsTown 95 = .ok (.bipush 51, 2) := by decide +kernel
theorem dX2_fitsTown_97 : decode cX2_fitsTown 97 = .ok (.if_icmp .ge 7, 3) := by decide +kernel
theorem dX2_fitsTown_100 : decode cX2_fitsTown 100 = .ok (.iconst 1, 1) := by decide +kernel
theorem dX2_fitsTown_101 : decode cX2_fitsTown 101 = .ok (.goto 4, 3) := by decide +kernel
theorem dX2_fitsTown_104 : decode cX2_fitsTown 104 = .ok (.iconst 0, 1) := by decide +kernel
theorem dX2_fitsTown_105 : decode cX2_fitsTown 105 = .ok (.ireturn, 1) := by decide +kernel
theorem dX2_fitsTown_106 : decode cX2_fitsTown 106 = .ok (.iload_n 2, 1) := by decide +kernel
theorem dX2_fitsTown_107 : decode cX2_fitsTown 107 = .ok (.bipush 49, 2) := by decide +kernel
theorem dX2_fitsTown_109 : decode cX2_fitsTown 109 = .ok (.if_icmp .lt 13, 3) := by decide +kernel
theorem dX2_fitsTown_112 : decode cX2_fitsTown 112 = .ok (.iload_n 2, 1) := by decide +kernel
theorem dX2_fitsTown_113 : decode cX2_fitsTown 113 = .ok (.bipush 55, 2) := by decide +kernel
theorem dX2_fitsTown_115 : decode cX2_fitsTown 115 = .ok (.if_icmp .gt 7, 3) := by decide +kernel
theorem dX2_fitsTown_118 : decode cX2_fitsTown 118 = .ok (.iconst 1, 1) := by decide +kernel
theorem dX2_fitsTown_119 : decode cX2_fitsTown 119 = .ok (.goto 4, 3) := by decide +kernel
theorem dX2_fitsTown_122 : decode cX2_fitsTown 122 = .ok (.iconst 0, 1) := by decide +kernel
theorem dX2_fitsTown_123 : decode cX2_fitsTown 123 = .ok (.ireturn, 1) := by decide +kernel
theorem dX2_fitsTown_124 : decode cX2_fitsTown 124 = .ok (.iload_n 2, 1) := by decide +kernel
theorem dX2_fitsTown_125 : decode cX2_fitsTown 125 = .ok (.bipush 49, 2) := by decide +kernel
theorem dX2_fitsTown_127 : decode cX2_fitsTown 127 = .ok (.if_icmp .lt 13, 3) := by decide +kernel
theorem dX2_fitsTown_130 : decode cX2_fitsTown 130 = .ok (.iload_n 2, 1) := by decide +kernel
theorem dX2_fitsTown_131 : decode cX2_fitsTown 131 = .ok (.bipush 53, 2) := by decide +kernel
theorem dX2_fitsTown_133 : decode cX2_fitsTown 133 = .ok (.if_icmp .gt 7, 3) := by decide +kernel
theorem dX2_fitsTown_136 : decode cX2_fitsTown 136 = .ok (.iconst 1, 1) := by decide +kernel
theorem dX2_fitsTown_137 : decode cX2_fitsTown 137 = .ok (.goto 4, 3) := by decide +kernel
theorem dX2_fitsTown_140 : decode cX2_fitsTown 140 = .ok (.iconst 0, 1) := by decide +kernel
theorem dX2_fitsTown_141 : decode cX2_fitsTown 141 = .ok (.ireturn, 1) := by decide +kernel
theorem dX2_fitsTown_142 : decode cX2_fitsTown 142 = .ok (.iload_n 2, 1) := by decide +kernel
theorem dX2_fitsTown_143 : decode cX2_fitsTown 143 = .ok (.bipush 44, 2) := by decide +kernel
theorem dX2_fitsTown_145 : decode cX2_fitsTown 145 = .ok (.if_icmp .ne 7, 3) := by decide +kernel
theorem dX2_fitsTown_148 : decode cX2_fitsTown 148 = .ok (.iconst 1, 1) := by decide +kernel
theorem dX2_fitsTown_149 : decode cX2_fitsTown 149 = .ok (.goto 4, 3) := by decide +kernel
theorem dX2_fitsTown_152 : decode cX2_fitsTown 152 = .ok (.iconst 0, 1) := by decide +kernel
theorem dX2_fitsTown_153 : decode cX2_fitsTown 153 = .ok (.ireturn, 1) := by decide +kernel
theorem dX3_init_0 : decode cX3_init 0 = .ok (.aload_n 0, 1) := by decide +kernel
theorem dX3_init_1 : decode cX3_init 1 = .ok (.invokespecial 3, 3) := by decide +kernel
theorem dX3_init_4 : decode cX3_init 4 = .ok (.aload_n 0, 1) := by decide +kernel
theorem dX3_init_5 : decode cX3_init 5 = .ok (.sipush 512, 3) := by decide +kernel
theorem dX3_init_8 : decode cX3_init 8 = .ok (.newarray .int, 2) := by decide +kernel
theorem dX3_init_10 : decode cX3_init 10 = .ok (.putfield 9, 3) := by decide +kernel
theorem dX3_init_13 : decode cX3_init 13 = .ok (.aload_n 0, 1) := by decide +kernel
theorem dX3_init_14 : decode cX3_init 14 = .ok (.sipush 512, 3) := by decide +kernel
theorem dX3_init_17 : decode cX3_init 17 = .ok (.newarray .int, 2) := by decide +kernel
theorem dX3_init_19 : decode cX3_init 19 = .ok (.putfield 15, 3) := by decide +kernel
theorem dX3_init_22 : decode cX3_init 22 = .ok (.aload_n 0, 1) := by decide +kernel
theorem dX3_init_23 : decode cX3_init 23 = .ok (.sipush 512, 3) := by decide +kernel
theorem dX3_init_26 : decode cX3_init 26 = .ok (.newarray .int, 2) := by decide +kernel
theorem dX3_init_28 : decode cX3_init 28 = .ok (.putfield 18, 3) := by decide +kernel
theorem dX3_init_31 : decode cX3_init 31 = .ok (.aload_n 0, 1) := by decide +kernel
theorem dX3_init_32 : decode cX3_init 32 = .ok (.sipush 512, 3) := by decide +kernel
theorem dX3_init_35 : decode cX3_init 35 = .ok (.newarray .int, 2) := by decide +kernel
theorem dX3_init_37 : decode cX3_init 37 = .ok (.putfield 21, 3) := by decide +kernel
theorem dX3_init_40 : decode cX3_init 40 = .ok (.aload_n 0, 1) := by decide +kernel
theorem dX3_init_41 : decode cX3_init 41 = .ok (.aload_n 1, 1) := by decide +kernel
theorem dX3_init_42 : decode cX3_init 42 = .ok (.putfield 24, 3) := by decide +kernel
theorem dX3_init_45 : decode cX3_init 45 = .ok (.return_, 1) := by decide +kernel
theorem dX3_howManyTo_0 : decode cX3_howManyTo 0 = .ok (.aload_n 0, 1) := by decide +kernel
theorem dX3_howManyTo_1 : decode cX3_howManyTo 1 = .ok (.getfield 9, 3) := by decide +kernel
theorem dX3_howManyTo_4 : decode cX3_howManyTo 4 = .ok (.iload_n 1, 1) := by decide +kernel
theorem dX3_howManyTo_5 : decode cX3_howManyTo 5 = .ok (.invokestatic 28, 3) := by decide +kernel
theorem dX3_howManyTo_8 : decode cX3_howManyTo 8 = .ok (.ireturn, 1) := by decide +kernel
theorem dX3_inEachTo_0 : decode cX3_inEachTo 0 = .ok (.aload_n 0, 1) := by decide +kernel
theorem dX3_inEachTo_1 : decode cX3_inEachTo 1 = .ok (.getfield 9, 3) := by decide +kernel
theorem dX3_inEachTo_4 : decode cX3_inEachTo 4 = .ok (.iload_n 1, 1) := by decide +kernel
theorem dX3_inEachTo_5 : decode cX3_inEachTo 5 = .ok (.invokestatic 28, 3) := by decide +kernel
theorem dX3_inEachTo_8 : decode cX3_inEachTo 8 = .ok (.ifCond .ne 7, 3) := by decide +kernel
theorem dX3_inEachTo_11 : decode cX3_inEachTo 11 = .ok (.iconst 0, 1) := by decide +kernel
theorem dX3_inEachTo_12 : decode cX3_inEachTo 12 = .ok (.goto 11, 3) := by decide +kernel
theorem dX3_inEachTo_15 : decode cX3_inEachTo 15 = .ok (.aload_n 0, 1) := by decide +kernel
theorem dX3_inEachTo_16 : decode cX3_inEachTo 16 = .ok (.getfield 15, 3) := by decide +kernel
theorem dX3_inEachTo_19 : decode cX3_inEachTo 19 = .ok (.iload_n 1, 1) := by decide +kernel
theorem dX3_inEachTo_20 : decode cX3_inEachTo 20 = .ok (.invokestatic 28, 3) := by decide +kernel
theorem dX3_inEachTo_23 : decode cX3_inEachTo 23 = .ok (.ireturn, 1) := by decide +kernel
theorem dX3_follow_0 : decode cX3_follow 0 = .ok (.aload_n 0, 1) := by decide +kernel
theorem dX3_follow_1 : decode cX3_follow 1 = .ok (.getfield 9, 3) := by decide +kernel
theorem dX3_follow_4 : decode cX3_follow 4 = .ok (.iconst 0, 1) := by decide +kernel
theorem dX3_follow_5 : decode cX3_follow 5 = .ok (.invokestatic 32, 3) := by decide +kernel
theorem dX3_follow_8 : decode cX3_follow 8 = .ok (.aload_n 0, 1) := by decide +kernel
theorem dX3_follow_9 : decode cX3_follow 9 = .ok (.getfield 9, 3) := by decide +kernel
theorem dX3_follow_12 : decode cX3_follow 12 = .ok (.iload_n 1, 1) := by decide +kernel
theorem dX3_follow_13 : decode cX3_follow 13 = .ok (.iconst 1, 1) := by decide +kernel
theorem dX3_follow_14 : decode cX3_follow 14 = .ok (.invokestatic 36, 3) := by decide +kernel
theorem dX3_follow_17 : decode cX3_follow 17 = .ok (.aload_n 0, 1) := by decide +kernel
theorem dX3_follow_18 : decode cX3_follow 18 = .ok (.getfield 15, 3) := by decide +kernel
theorem dX3_follow_21 : decode cX3_follow 21 = .ok (.iload_n 1, 1) := by decide +kernel
theorem dX3_follow_22 : decode cX3_follow 22 = .ok (.iconst 0, 1) := by decide +kernel
theorem dX3_follow_23 : decode cX3_follow 23 = .ok (.invokestatic 36, 3) := by decide +kernel
theorem dX3_follow_26 : decode cX3_follow 26 = .ok (.iconst 0, 1) := by decide +kernel
theorem dX3_follow_27 : decode cX3_follow 27 = .ok (.istore_n 3, 1) := by decide +kernel
theorem dX3_follow_28 : decode cX3_follow 28 = .ok (.iload_n 3, 1) := by decide +kernel
theorem dX3_follow_29 : decode cX3_follow 29 = .ok (.iload_n 2, 1) := by decide +kernel
theorem dX3_follow_30 : decode cX3_follow 30 = .ok (.if_icmp .ge 56, 3) := by decide +kernel
theorem dX3_follow_33 : decode cX3_follow 33 = .ok (.aload_n 0, 1) := by decide +kernel
theorem dX3_follow_34 : decode cX3_follow 34 = .ok (.getfield 18, 3) := by decide +kernel
theorem dX3_follow_37 : decode cX3_follow 37 = .ok (.iconst 0, 1) := by decide +kernel
theorem dX3_follow_38 : decode cX3_follow 38 = .ok (.invokestatic 32, 3) := by decide +kernel
theorem dX3_follow_41 : decode cX3_follow 41 = .ok (.iconst 0, 1) := by decide +kernel
theorem dX3_follow_42 : decode cX3_follow 42 = .ok (.istore 4, 2) := by decide +kernel
theorem dX3_follow_44 : decode cX3_follow 44 = .ok (.iload 4, 2) := by decide +kernel
theorem dX3_follow_46 : decode cX3_follow 46 = .ok (.sipush 512, 3) := by decide +kernel
theorem dX3_follow_49 : decode cX3_follow 49 = .ok (.if_icmp .ge 27, 3) := by decide +kernel
theorem dX3_follow_52 : decode cX3_follow 52 = .ok (.aload_n 0, 1) := by decide +kernel
theorem dX3_follow_53 : decode cX3_follow 53 = .ok (.getfield 9, 3) := by decide +kernel
theorem dX3_follow_56 : decode cX3_follow 56 = .ok (.iload 4, 2) := by decide +kernel
theorem dX3_follow_58 : decode cX3_follow 58 = .ok (.invokestatic 28, 3) := by decide +kernel
theorem dX3_follow_61 : decode cX3_follow 61 = .ok (.ifCond .le 9, 3) := by decide +kernel
theorem dX3_follow_64 : decode cX3_follow 64 = .ok (.aload_n 0, 1) := by decide +kernel
theorem dX3_follow_65 : decode cX3_follow 65 = .ok (.iload 4, 2) := by decide +kernel
theorem dX3_follow_67 : decode cX3_follow 67 = .ok (.invokevirtual 40, 3) := by decide +kernel
theorem dX3_follow_70 : decode cX3_follow 70 = .ok (.iinc 4 1, 3) := by decide +kernel
theorem dX3_follow_73 : decode cX3_follow 73 = .ok (.goto (-29), 3) := by decide +kernel
theorem dX3_follow_76 : decode cX3_follow 76 = .ok (.aload_n 0, 1) := by decide +kernel
theorem dX3_follow_77 : decode cX3_follow 77 = .ok (.invokevirtual 44, 3) := by decide +kernel
theorem dX3_follow_80 : decode cX3_follow 80 = .ok (.iinc 3 1, 3) := by decide +kernel
theorem dX3_follow_83 : decode cX3_follow 83 = .ok (.goto (-55), 3) := by decide +kernel
theorem dX3_follow_86 : decode cX3_follow 86 = .ok (.return_, 1) := by decide +kernel
theorem dX3_lendToEach_0 : decode cX3_lendToEach 0 = .ok (.aload_n 0, 1) := by decide +kernel
theorem dX3_lendToEach_1 : decode cX3_lendToEach 1 = .ok (.getfield 9, 3) := by decide +kernel
theorem dX3_lendToEach_4 : decode cX3_lendToEach 4 = .ok (.iload_n 1, 1) := by decide +kernel
theorem dX3_lendToEach_5 : decode cX3_lendToEach 5 = .ok (.invokestatic 28, 3) := by decide +kernel
theorem dX3_lendToEach_8 : decode cX3_lendToEach 8 = .ok (.istore_n 2, 1) := by decide +kernel
theorem dX3_lendToEach_9 : decode cX3_lendToEach 9 = .ok (.iconst 0, 1) := by decide +kernel
theorem dX3_lendToEach_10 : decode cX3_lendToEach 10 = .ok (.istore_n 3, 1) := by decide +kernel
theorem dX3_lendToEach_11 : decode cX3_lendToEach 11 = .ok (.iload_n 3, 1) := by decide +kernel
theorem dX3_lendToEach_12 : decode cX3_lendToEach 12 = .ok (.aload_n 0, 1) := by decide +kernel
theorem dX3_lendToEach_13 : decode cX3_lendToEach 13 = .ok (.getfield 24, 3) := by decide +kernel
theorem dX3_lendToEach_16 : decode cX3_lendToEach 16 = .ok (.getfield 47, 3) := by decide +kernel
theorem dX3_lendToEach_19 : decode cX3_lendToEach 19 = .ok (.if_icmp .ge 89, 3) := by decide +kernel
theorem dX3_lendToEach_22 : decode cX3_lendToEach 22 = .ok (.aload_n 0, 1) := by decide +kernel
theorem dX3_lendToEach_23 : decode cX3_lendToEach 23 = .ok (.getfield 24, 3) := by decide +kernel
theorem dX3_lendToEach_26 : decode cX3_lendToEach 26 = .ok (.iload_n 3, 1) := by decide +kernel
theorem dX3_lendToEach_27 : decode cX3_lendToEach 27 = .ok (.iload_n 1, 1) := by decide +kernel
theorem dX3_lendToEach_28 : decode cX3_lendToEach 28 = .ok (.invokevirtual 53, 3) := by decide +kernel
theorem dX3_lendToEach_31 : decode cX3_lendToEach 31 = .ok (.istore 4, 2) := by decide +kernel
theorem dX3_lendToEach_33 : decode cX3_lendToEach 33 = .ok (.aload_n 0, 1) := by decide +kernel
theorem dX3_lendToEach_34 : decode cX3_lendToEach 34 = .ok (.getfield 15, 3) := by decide +kernel
theorem dX3_lendToEach_37 : decode cX3_lendToEach 37 = .ok (.iload_n 1, 1) := by decide +kernel
theorem dX3_lendToEach_38 : decode cX3_lendToEach 38 = .ok (.invokestatic 28, 3) := by decide +kernel
theorem dX3_lendToEach_41 : decode cX3_lendToEach 41 = .ok (.iconst 1, 1) := by decide +kernel
theorem dX3_lendToEach_42 : decode cX3_lendToEach 42 = .ok (.iload_n 3, 1) := by decide +kernel
theorem dX3_lendToEach_43 : decode cX3_lendToEach 43 = .ok (.ishl, 1) := by decide +kernel
theorem dX3_lendToEach_44 : decode cX3_lendToEach 44 = .ok (.ior, 1) := by decide +kernel
theorem dX3_lendToEach_45 : decode cX3_lendToEach 45 = .ok (.istore 5, 2) := by decide +kernel
theorem dX3_lendToEach_47 : decode cX3_lendToEach 47 = .ok (.aload_n 0, 1) := by decide +kernel
theorem dX3_lendToEach_48 : decode cX3_lendToEach 48 = .ok (.getfield 18, 3) := by decide +kernel
theorem dX3_lendToEach_51 : decode cX3_lendToEach 51 = .ok (.iload 4, 2) := by decide +kernel
theorem dX3_lendToEach_53 : decode cX3_lendToEach 53 = .ok (.invokestatic 28, 3) := by decide +kernel
theorem dX3_lendToEach_56 : decode cX3_lendToEach 56 = .ok (.istore 6, 2) := by decide +kernel
theorem dX3_lendToEach_58 : decode cX3_lendToEach 58 = .ok (.aload_n 0, 1) := by decide +kernel
theorem dX3_lendToEach_59 : decode cX3_lendToEach 59 = .ok (.getfield 21, 3) := by decide +kernel
theorem dX3_lendToEach_62 : decode cX3_lendToEach 62 = .ok (.iload 4, 2) := by decide +kernel
theorem dX3_lendToEach_64 : decode cX3_lendToEach 64 = .ok (.iload 6, 2) := by decide +kernel
theorem dX3_lendToEach_66 : decode cX3_lendToEach 66 = .ok (.ifCond .ne 8, 3) := by decide +kernel
theorem dX3_lendToEach_69 : decode cX3_lendToEach 69 = .ok (.iload 5, 2) := by decide +kernel
theorem dX3_lendToEach_71 : decode cX3_lendToEach 71 = .ok (.goto 15, 3) := by decide +kernel
theorem dX3_lendToEach_74 : decode cX3_lendToEach 74 = .ok (.aload_n 0, 1) := by decide +kernel
theorem dX3_lendToEach_75 : decode cX3_lendToEach 75 = .ok (.getfield 21, 3) := by decide +kernel
theorem dX3_lendToEach_78 : decode cX3_lendToEach 78 = .ok (.iload 4, 2) := by decide +kernel
theorem dX3_lendToEach_80 : decode cX3_lendToEach 80 = .ok (.invokestatic 28, 3) := by decide +kernel
theorem dX3_lendToEach_83 : decode cX3_lendToEach 83 = .ok (.iload 5, 2) := by decide +kernel
theorem dX3_lendToEach_85 : decode cX3_lendToEach 85 = .ok (.iand, 1) := by decide +kernel
theorem dX3_lendToEach_86 : decode cX3_lendToEach 86 = .ok (.invokestatic 36, 3) := by decide +kernel
theorem dX3_lendToEach_89 : decode cX3_lendToEach 89 = .ok (.aload_n 0, 1) := by decide +kernel
theorem dX3_lendToEach_90 : decode cX3_lendToEach 90 = .ok (.getfield 18, 3) := by decide +kernel
theorem dX3_lendToEach_93 : decode cX3_lendToEach 93 = .ok (.iload 4, 2) := by decide +kernel
theorem dX3_lendToEach_95 : decode cX3_lendToEach 95 = .ok (.iload 6, 2) := by decide +kernel
theorem dX3_lendToEach_97 : decode cX3_lendToEach 97 = .ok (.iload_n 2, 1) := by decide +kernel
theorem dX3_lendToEach_98 : decode cX3_lendToEach 98 = .ok (.iadd, 1) := by decide +kernel
theorem dX3_lendToEach_99 : decode cX3_lendToEach 99 = .ok (.invokestatic 36, 3) := by decide +kernel
theorem dX3_lendToEach_102 : decode cX3_lendToEach 102 = .ok (.iinc 3 1, 3) := by decide +kernel
theorem dX3_lendToEach_105 : decode cX3_lendToEach 105 = .ok (.goto (-94), 3) := by decide +kernel
theorem dX3_lendToEach_108 : decode cX3_lendToEach 108 = .ok (.return_, 1) := by decide +kernel
theorem dX3_stepOn_0 : decode cX3_stepOn 0 = .ok (.aload_n 0, 1) := by decide +kernel
theorem dX3_stepOn_1 : decode cX3_stepOn 1 = .ok (.getfield 9, 3) := by decide +kernel
theorem dX3_stepOn_4 : decode cX3_stepOn 4 = .ok (.astore_n 1, 1) := by decide +kernel
theorem dX3_stepOn_5 : decode cX3_stepOn 5 = .ok (.aload_n 0, 1) := by decide +kernel
theorem dX3_stepOn_6 : decode cX3_stepOn 6 = .ok (.aload_n 0, 1) := by decide +kernel
theorem dX3_stepOn_7 : decode cX3_stepOn 7 = .ok (.getfield 18, 3) := by decide +kernel
theorem dX3_stepOn_10 : decode cX3_stepOn 10 = .ok (.putfield 9, 3) := by decide +kernel
theorem dX3_stepOn_13 : decode cX3_stepOn 13 = .ok (.aload_n 0, 1) := by decide +kernel
theorem dX3_stepOn_14 : decode cX3_stepOn 14 = .ok (.aload_n 1, 1) := by decide +kernel
theorem dX3_stepOn_15 : decode cX3_stepOn 15 = .ok (.putfield 18, 3) := by decide +kernel
theorem dX3_stepOn_18 : decode cX3_stepOn 18 = .ok (.aload_n 0, 1) := by decide +kernel
theorem dX3_stepOn_19 : decode cX3_stepOn 19 = .ok (.getfield 15, 3) := by decide +kernel
theorem dX3_stepOn_22 : decode cX3_stepOn 22 = .ok (.astore_n 1, 1) := by decide +kernel
theorem dX3_stepOn_23 : decode cX3_stepOn 23 = .ok (.aload_n 0, 1) := by decide +kernel
theorem dX3_stepOn_24 : decode cX3_stepOn 24 = .ok (.aload_n 0, 1) := by decide +kernel
theorem dX3_stepOn_25 : decode cX3_stepOn 25 = .ok (.getfield 21, 3) := by decide +kernel
theorem dX3_stepOn_28 : decode cX3_stepOn 28 = .ok (.putfield 15, 3) := by decide +kernel
theorem dX3_stepOn_31 : decode cX3_stepOn 31 = .ok (.aload_n 0, 1) := by decide +kernel
theorem dX3_stepOn_32 : decode cX3_stepOn 32 = .ok (.aload_n 1, 1) := by decide +kernel
theorem dX3_stepOn_33 : decode cX3_stepOn 33 = .ok (.putfield 21, 3) := by decide +kernel
theorem dX3_stepOn_36 : decode cX3_stepOn 36 = .ok (.return_, 1) := by decide +kernel
theorem dX4_init_0 : decode cX4_init 0 = .ok (.aload_n 0, 1) := by decide +kernel
theorem dX4_init_1 : decode cX4_init 1 = .ok (.iload_n 1, 1) := by decide +kernel
theorem dX4_init_2 : decode cX4_init 2 = .ok (.iload_n 2, 1) := by decide +kernel
theorem dX4_init_3 : decode cX4_init 3 = .ok (.iload_n 3, 1) := by decide +kernel
theorem dX4_init_4 : decode cX4_init 4 = .ok (.invokespecial 3, 3) := by decide +kernel
theorem dX4_init_7 : decode cX4_init 7 = .ok (.return_, 1) := by decide +kernel
theorem dX4_kind_0 : decode cX4_kind 0 = .ok (.iconst 1, 1) := by decide +kernel
theorem dX4_kind_1 : decode cX4_kind 1 = .ok (.ireturn, 1) := by decide +kernel
theorem dX4_changed_0 : decode cX4_changed 0 = .ok (.aload_n 0, 1) := by decide +kernel
theorem dX4_changed_1 : decode cX4_changed 1 = .ok (.getfield 9, 3) := by decide +kernel
theorem dX4_changed_4 : decode cX4_changed 4 = .ok (.ireturn, 1) := by decide +kernel
theorem dX5_init_0 : decode cX5_init 0 = .ok (.aload_n 0, 1) := by decide +kernel
theorem dX5_init_1 : decode cX5_init 1 = .ok (.invokespecial 3, 3) := by decide +kernel
theorem dX5_init_4 : decode cX5_init 4 = .ok (.aload_n 0, 1) := by decide +kernel
theorem dX5_init_5 : decode cX5_init 5 = .ok (.sipush 512, 3) := by decide +kernel
theorem dX5_init_8 : decode cX5_init 8 = .ok (.newarray .int, 2) := by decide +kernel
theorem dX5_init_10 : decode cX5_init 10 = .ok (.putfield 9, 3) := by decide +kernel
theorem dX5_init_13 : decode cX5_init 13 = .ok (.aload_n 0, 1) := by decide +kernel
theorem dX5_init_14 : decode cX5_init 14 = .ok (.sipush 512, 3) := by decide +kernel
theorem dX5_init_17 : decode cX5_init 17 = .ok (.newarray .int, 2) := by decide +kernel
theorem dX5_init_19 : decode cX5_init 19 = .ok (.putfield 15, 3) := by decide +kernel
theorem dX5_init_22 : decode cX5_init 22 = .ok (.aload_n 0, 1) := by decide +kernel
theorem dX5_init_23 : decode cX5_init 23 = .ok (.aload_n 1, 1) := by decide +kernel
theorem dX5_init_24 : decode cX5_init 24 = .ok (.putfield 18, 3) := by decide +kernel
theorem dX5_init_27 : decode cX5_init 27 = .ok (.return_, 1) := by decide +kernel
theorem dX5_fewest_0 : decode cX5_fewest 0 = .ok (.iload_n 1, 1) := by decide +kernel
theorem dX5_fewest_1 : decode cX5_fewest 1 = .ok (.iload_n 2, 1) := by decide +kernel
theorem dX5_fewest_2 : decode cX5_fewest 2 = .ok (.invokestatic 22, 3) := by decide +kernel
theorem dX5_fewest_5 : decode cX5_fewest 5 = .ok (.iload_n 3, 1) := by decide +kernel
theorem dX5_fewest_6 : decode cX5_fewest 6 = .ok (.if_icmp .ge 5, 3) := by decide +kernel
theorem dX5_fewest_9 : decode cX5_fewest 9 = .ok (.iconst (-1), 1) := by decide +kernel
theorem dX5_fewest_10 : decode cX5_fewest 10 = .ok (.ireturn, 1) := by decide +kernel
theorem dX5_fewest_11 : decode cX5_fewest 11 = .ok (.iconst 1, 1) := by decide +kernel
theorem dX5_fewest_12 : decode cX5_fewest 12 = .ok (.aload_n 0, 1) := by decide +kernel
theorem dX5_fewest_13 : decode cX5_fewest 13 = .ok (.getfield 18, 3) := by decide +kernel
theorem dX5_fewest_16 : decode cX5_fewest 16 = .ok (.getfield 26, 3) := by decide +kernel
theorem dX5_fewest_19 : decode cX5_fewest 19 = .ok (.ishl, 1) := by decide +kernel
theorem dX5_fewest_20 : decode cX5_fewest 20 = .ok (.istore 4, 2) := by decide +kernel
theorem dX5_fewest_22 : decode cX5_fewest 22 = .ok (.iconst 0, 1) := by decide +kernel
theorem dX5_fewest_23 : decode cX5_fewest 23 = .ok (.istore 5, 2) := by decide +kernel
theorem dX5_fewest_25 : decode cX5_fewest 25 = .ok (.iload 5, 2) := by decide +kernel
theorem dX5_fewest_27 : decode cX5_fewest 27 = .ok (.aload_n 0, 1) := by decide +kernel
theorem dX5_fewest_28 : decode cX5_fewest 28 = .ok (.getfield 18, 3) := by decide +kernel
theorem dX5_fewest_31 : decode cX5_fewest 31 = .ok (.getfield 26, 3) := by decide +kernel
theorem dX5_fewest_34 : decode cX5_fewest 34 = .ok (.if_icmp .gt 50, 3) := by decide +kernel
theorem dX5_fewest_37 : decode cX5_fewest 37 = .ok (.iconst 0, 1) := by decide +kernel
theorem dX5_fewest_38 : decode cX5_fewest 38 = .ok (.istore 6, 2) := by decide +kernel
theorem dX5_fewest_40 : decode cX5_fewest 40 = .ok (.iload 6, 2) := by decide +kernel
theorem dX5_fewest_42 : decode cX5_fewest 42 = .ok (.iload 4, 2) := by decide +kernel
theorem dX5_fewest_44 : decode cX5_fewest 44 = .ok (.if_icmp .ge 34, 3) := by decide +kernel
theorem dX5_fewest_47 : decode cX5_fewest 47 = .ok (.iload 6, 2) := by decide +kernel
theorem dX5_fewest_49 : decode cX5_fewest 49 = .ok (.invokestatic 32, 3) := by decide +kernel
theorem dX5_fewest_52 : decode cX5_fewest 52 = .ok (.iload 5, 2) := by decide +kernel
theorem dX5_fewest_54 : decode cX5_fewest 54 = .ok (.if_icmp .ne 18, 3) := by decide +kernel
theorem dX5_fewest_57 : decode cX5_fewest 57 = .ok (.aload_n 0, 1) := by decide +kernel
theorem dX5_fewest_58 : decode cX5_fewest 58 = .ok (.iload 6, 2) := by decide +kernel
theorem dX5_fewest_60 : decode cX5_fewest 60 = .ok (.iload_n 1, 1) := by decide +kernel
theorem dX5_fewest_61 : decode cX5_fewest 61 = .ok (.iload_n 2, 1) := by decide +kernel
theorem dX5_fewest_62 : decode cX5_fewest 62 = .ok (.iload_n 3, 1) := by decide +kernel
theorem dX5_fewest_63 : decode cX5_fewest 63 = .ok (.invokevirtual 38, 3) := by decide +kernel
theorem dX5_fewest_66 : decode cX5_fewest 66 = .ok (.ifCond .eq 6, 3) := by decide +kernel
theorem dX5_fewest_69 : decode cX5_fewest 69 = .ok (.iload 6, 2) := by decide +kernel
theorem dX5_fewest_71 : decode cX5_fewest 71 = .ok (.ireturn, 1) := by decide +kernel
theorem dX5_fewest_72 : decode cX5_fewest 72 = .ok (.iinc 6 1, 3) := by decide +kernel
theorem dX5_fewest_75 : decode cX5_fewest 75 = .ok (.goto (-35), 3) := by decide +kernel
theorem dX5_fewest_78 : decode cX5_fewest 78 = .ok (.iinc 5 1, 3) := by decide +kernel
theorem dX5_fewest_81 : decode cX5_fewest 81 = .ok (.goto (-56), 3) := by decide +kernel
theorem dX5_fewest_84 : decode cX5_fewest 84 = .ok (.iconst (-1), 1) := by decide +kernel
theorem dX5_fewest_85 : decode cX5_fewest 85 = .ok (.ireturn, 1) := by decide +kernel
theorem dX5_isSafeWithout_0 : decode cX5_isSafeWithout 0 = .ok (.aload_n 0, 1) := by decide +kernel
theorem dX5_isSafeWithout_1 : decode cX5_isSafeWithout 1 = .ok (.dup, 1) := by decide +kernel
theorem dX5_isSafeWithout_2 : decode cX5_isSafeWithout 2 = .ok (.getfield 42, 3) := by decide +kernel
theorem dX5_isSafeWithout_5 : decode cX5_isSafeWithout 5 = .ok (.iconst 1, 1) := by decide +kernel
theorem dX5_isSafeWithout_6 : decode cX5_isSafeWithout 6 = .ok (.iadd, 1) := by decide +kernel
theorem dX5_isSafeWithout_7 : decode cX5_isSafeWithout 7 = .ok (.putfield 42, 3) := by decide +kernel
theorem dX5_isSafeWithout_10 : decode cX5_isSafeWithout 10 = .ok (.aload_n 0, 1) := by decide +kernel
theorem dX5_isSafeWithout_11 : decode cX5_isSafeWithout 11 = .ok (.getfield 15, 3) := by decide +kernel
theorem dX5_isSafeWithout_14 : decode cX5_isSafeWithout 14 = .ok (.iload_n 2, 1) := by decide +kernel
theorem dX5_isSafeWithout_15 : decode cX5_isSafeWithout 15 = .ok (.aload_n 0, 1) := by decide +kernel
theorem dX5_isSafeWithout_16 : decode cX5_isSafeWithout 16 = .ok (.getfield 42, 3) := by decide +kernel
theorem dX5_isSafeWithout_19 : decode cX5_isSafeWithout 19 = .ok (.invokestatic 45, 3) := by decide +kernel
theorem dX5_isSafeWithout_22 : decode cX5_isSafeWithout 22 = .ok (.aload_n 0, 1) := by decide +kernel
theorem dX5_isSafeWithout_23 : decode cX5_isSafeWithout 23 = .ok (.getfield 9, 3) := by decide +kernel
theorem dX5_isSafeWithout_26 : decode cX5_isSafeWithout 26 = .ok (.iconst 0, 1) := by decide +kernel
theorem dX5_isSafeWithout_27 : decode cX5_isSafeWithout 27 = .ok (.iload_n 2, 1) := by decide +kernel
theorem dX5_isSafeWithout_28 : decode cX5_isSafeWithout 28 = .ok (.invokestatic 45, 3) := by decide +kernel
theorem dX5_isSafeWithout_31 : decode cX5_isSafeWithout 31 = .ok (.iconst 1, 1) := by decide +kernel
theorem dX5_isSafeWithout_32 : decode cX5_isSafeWithout 32 = .ok (.istore 5, 2) := by decide +kernel
theorem dX5_isSafeWithout_34 : decode cX5_isSafeWithout 34 = .ok (.iconst 0, 1) := by decide +kernel
theorem dX5_isSafeWithout_35 : decode cX5_isSafeWithout 35 = .ok (.istore 6, 2) := by decide +kernel
theorem dX5_isSafeWithout_37 : decode cX5_isSafeWithout 37 = .ok (.iload 6, 2) := by decide +kernel
theorem dX5_isSafeWithout_39 : decode cX5_isSafeWithout 39 = .ok (.iload 5, 2) := by decide +kernel
theorem dX5_isSafeWithout_41 : decode cX5_isSafeWithout 41 = .ok (.if_icmp .ge 140, 3) := by decide +kernel
theorem dX5_isSafeWithout_44 : decode cX5_isSafeWithout 44 = .ok (.iload 6, 2) := by decide +kernel
theorem dX5_isSafeWithout_46 : decode cX5_isSafeWithout 46 = .ok (.sipush 512, 3) := by decide +kernel
theorem dX5_isSafeWithout_49 : decode cX5_isSafeWithout 49 = .ok (.if_icmp .ge 132, 3) := by decide +kernel
theorem dX5_isSafeWithout_52 : decode cX5_isSafeWithout 52 = .ok (.aload_n 0, 1) := by decide +kernel
theorem dX5_isSafeWithout_53 : decode cX5_isSafeWithout 53 = .ok (.getfield 9, 3) := by decide +kernel
theorem dX5_isSafeWithout_56 : decode cX5_isSafeWithout 56 = .ok (.iload 6, 2) := by decide +kernel
theorem dX5_isSafeWithout_58 : decode cX5_isSafeWithout 58 = .ok (.invokestatic 49, 3) := by decide +kernel
theorem dX5_isSafeWithout_61 : decode cX5_isSafeWithout 61 = .ok (.istore 7, 2) := by decide +kernel
theorem dX5_isSafeWithout_63 : decode cX5_isSafeWithout 63 = .ok (.iconst 0, 1) := by decide +kernel
theorem dX5_isSafeWithout_64 : decode cX5_isSafeWithout 64 = .ok (.istore 8, 2) := by decide +kernel
theorem dX5_isSafeWithout_66 : decode cX5_isSafeWithout 66 = .ok (.iload 8, 2) := by decide +kernel
theorem dX5_isSafeWithout_68 : decode cX5_isSafeWithout 68 = .ok (.aload_n 0, 1) := by decide +kernel
theorem dX5_isSafeWithout_69 : decode cX5_isSafeWithout 69 = .ok (.getfield 18, 3) := by decide +kernel
theorem dX5_isSafeWithout_72 : decode cX5_isSafeWithout 72 = .ok (.getfield 26, 3) := by decide +kernel
theorem dX5_isSafeWithout_75 : decode cX5_isSafeWithout 75 = .ok (.if_icmp .ge 100, 3) := by decide +kernel
theorem dX5_isSafeWithout_78 : decode cX5_isSafeWithout 78 = .ok (.iload_n 1, 1) := by decide +kernel
theorem dX5_isSafeWithout_79 : decode cX5_isSafeWithout 79 = .ok (.iload 8, 2) := by decide +kernel
theorem dX5_isSafeWithout_81 : decode cX5_isSafeWithout 81 = .ok (.ishr, 1) := by decide +kernel
theorem dX5_isSafeWithout_82 : decode cX5_isSafeWithout 82 = .ok (.iconst 1, 1) := by decide +kernel
theorem dX5_isSafeWithout_83 : decode cX5_isSafeWithout 83 = .ok (.iand, 1) := by decide +kernel
theorem dX5_isSafeWithout_84 : decode cX5_isSafeWithout 84 = .ok (.iconst 1, 1) := by decide +kernel
theorem dX5_isSafeWithout_85 : decode cX5_isSafeWithout 85 = .ok (.if_icmp .ne 7, 3) := by decide +kernel
theorem dX5_isSafeWithout_88 : decode cX5_isSafeWithout 88 = .ok (.iconst 1, 1) := by decide +kernel
theorem dX5_isSafeWithout_89 : decode cX5_isSafeWithout 89 = .ok (.goto 4, 3) := by decide +kernel
theorem dX5_isSafeWithout_92 : decode cX5_isSafeWithout 92 = .ok (.iconst 0, 1) := by decide +kernel
theorem dX5_isSafeWithout_93 : decode cX5_isSafeWithout 93 = .ok (.istore 9, 2) := by decide +kernel
theorem dX5_isSafeWithout_95 : decode cX5_isSafeWithout 95 = .ok (.aload_n 0, 1) := by decide +kernel
theorem dX5_isSafeWithout_96 : decode cX5_isSafeWithout 96 = .ok (.getfield 18, 3) := by decide +kernel
theorem dX5_isSafeWithout_99 : decode cX5_isSafeWithout 99 = .ok (.iload 8, 2) := by decide +kernel
theorem dX5_isSafeWithout_101 : decode cX5_isSafeWithout 101 = .ok (.iload 7, 2) := by decide +kernel
theorem dX5_isSafeWithout_103 : decode cX5_isSafeWithout 103 = .ok (.invokevirtual 53, 3) := by decide +kernel
theorem dX5_isSafeWithout_106 : decode cX5_isSafeWithout 106 = .ok (.istore 10, 2) := by decide +kernel
theorem dX5_isSafeWithout_108 : decode cX5_isSafeWithout 108 = .ok (.iload 9, 2) := by decide +kernel
theorem dX5_isSafeWithout_110 : decode cX5_isSafeWithout 110 = .ok (.ifCond .ne 59, 3) := by decide +kernel
theorem dX5_isSafeWithout_113 : decode cX5_isSafeWithout 113 = .ok (.aload_n 0, 1) := by decide +kernel
theorem dX5_isSafeWithout_114 : decode cX5_isSafeWithout 114 = .ok (.getfield 15, 3) := by decide +kernel
theorem dX5_isSafeWithout_117 : decode cX5_isSafeWithout 117 = .ok (.iload 10, 2) := by decide +kernel
theorem dX5_isSafeWithout_119 : decode cX5_isSafeWithout 119 = .ok (.invokestatic 49, 3) := by decide +kernel
theorem dX5_isSafeWithout_122 : decode cX5_isSafeWithout 122 = .ok (.aload_n 0, 1) := by decide +kernel
theorem dX5_isSafeWithout_123 : decode cX5_isSafeWithout 123 = .ok (.getfield 42, 3) := by decide +kernel
theorem dX5_isSafeWithout_126 : decode cX5_isSafeWithout 126 = .ok (.if_icmp .eq 43, 3) := by decide +kernel
theorem dX5_isSafeWithout_129 : decode cX5_isSafeWithout 129 = .ok (.iload 10, 2) := by decide +kernel
theorem dX5_isSafeWithout_131 : decode cX5_isSafeWithout 131 = .ok (.iload_n 3, 1) := by decide +kernel
theorem dX5_isSafeWithout_132 : decode cX5_isSafeWithout 132 = .ok (.invokestatic 22, 3) := by decide +kernel
theorem dX5_isSafeWithout_135 : decode cX5_isSafeWithout 135 = .ok (.iload 4, 2) := by decide +kernel
theorem dX5_isSafeWithout_137 : decode cX5_isSafeWithout 137 = .ok (.if_icmp .ge 5, 3) := by decide +kernel
theorem dX5_isSafeWithout_140 : decode cX5_isSafeWithout 140 = .ok (.iconst 0, 1) := by decide +kernel
theorem dX5_isSafeWithout_141 : decode cX5_isSafeWithout 141 = .ok (.ireturn, 1) := by decide +kernel
theorem dX5_isSafeWithout_142 : decode cX5_isSafeWithout 142 = .ok (.aload_n 0, 1) := by decide +kernel
theorem dX5_isSafeWithout_143 : decode cX5_isSafeWithout 143 = .ok (.getfield 15, 3) := by decide +kernel
theorem dX5_isSafeWithout_146 : decode cX5_isSafeWithout 146 = .ok (.iload 10, 2) := by decide +kernel
theorem dX5_isSafeWithout_148 : decode cX5_isSafeWithout 148 = .ok (.aload_n 0, 1) := by decide +kernel
theorem dX5_isSafeWithout_149 : decode cX5_isSafeWithout 149 = .ok (.getfield 42, 3) := by decide +kernel
theorem dX5_isSafeWithout_152 : decode cX5_isSafeWithout 152 = .ok (.invokestatic 45, 3) := by decide +kernel
theorem dX5_isSafeWithout_155 : decode cX5_isSafeWithout 155 = .ok (.aload_n 0, 1) := by decide +kernel
theorem dX5_isSafeWithout_156 : decode cX5_isSafeWithout 156 = .ok (.getfield 9, 3) := by decide +kernel
theorem dX5_isSafeWithout_159 : decode cX5_isSafeWithout 159 = .ok (.iload 5, 2) := by decide +kernel
theorem dX5_isSafeWithout_161 : decode cX5_isSafeWithout 161 = .ok (.iload 10, 2) := by decide +kernel
theorem dX5_isSafeWithout_163 : decode cX5_isSafeWithout 163 = .ok (.invokestatic 45, 3) := by decide +kernel
theorem dX5_isSafeWithout_166 : decode cX5_isSafeWithout 166 = .ok (.iinc 5 1, 3) := by decide +kernel
theorem dX5_isSafeWithout_169 : decode cX5_isSafeWithout 169 = .ok (.iinc 8 1, 3) := by decide +kernel
theorem dX5_isSafeWithout_172 : decode cX5_isSafeWithout 172 = .ok (.goto (-106), 3) := by decide +kernel
theorem dX5_isSafeWithout_175 : decode cX5_isSafeWithout 175 = .ok (.iinc 6 1, 3) := by decide +kernel
theorem dX5_isSafeWithout_178 : decode cX5_isSafeWithout 178 = .ok (.goto (-141), 3) := by decide +kernel
theorem dX5_isSafeWithout_181 : decode cX5_isSafeWithout 181 = .ok (.iconst 1, 1) := by decide +kernel
theorem dX5_isSafeWithout_182 : decode cX5_isSafeWithout 182 = .ok (.ireturn, 1) := by decide +kernel
theorem dX6_init_0 : decode cX6_init 0 = .ok (.aload_n 0, 1) := by decide +kernel
theorem dX6_init_1 : decode cX6_init 1 = .ok (.iload_n 1, 1) := by decide +kernel
theorem dX6_init_2 : decode cX6_init 2 = .ok (.iload_n 2, 1) := by decide +kernel
theorem dX6_init_3 : decode cX6_init 3 = .ok (.iload_n 3, 1) := by decide +kernel
theorem dX6_init_4 : decode cX6_init 4 = .ok (.invokespecial 3, 3) := by decide +kernel
theorem dX6_init_7 : decode cX6_init 7 = .ok (.return_, 1) := by decide +kernel
theorem dX6_kind_0 : decode cX6_kind 0 = .ok (.iconst 3, 1) := by decide +kernel
theorem dX6_kind_1 : decode cX6_kind 1 = .ok (.ireturn, 1) := by decide +kernel
theorem dX6_stateAfter_0 : decode cX6_stateAfter 0 = .ok (.aload_n 0, 1) := by decide +kernel
theorem dX6_stateAfter_1 : decode cX6_stateAfter 1 = .ok (.getfield 9, 3) := by decide +kernel
theorem dX6_stateAfter_4 : decode cX6_stateAfter 4 = .ok (.iconst 1, 1) := by decide +kernel
theorem dX6_stateAfter_5 : decode cX6_stateAfter 5 = .ok (.iadd, 1) := by decide +kernel
theorem dX6_stateAfter_6 : decode cX6_stateAfter 6 = .ok (.iconst 3, 1) := by decide +kernel
theorem dX6_stateAfter_7 : decode cX6_stateAfter 7 = .ok (.irem, 1) := by decide +kernel
theorem dX6_stateAfter_8 : decode cX6_stateAfter 8 = .ok (.istore_n 2, 1) := by decide +kernel
theorem dX6_stateAfter_9 : decode cX6_stateAfter 9 = .ok (.iload_n 1, 1) := by decide +kernel
theorem dX6_stateAfter_10 : decode cX6_stateAfter 10 = .ok (.aload_n 0, 1) := by decide +kernel
theorem dX6_stateAfter_11 : decode cX6_stateAfter 11 = .ok (.getfield 9, 3) := by decide +kernel
theorem dX6_stateAfter_14 : decode cX6_stateAfter 14 = .ok (.invokestatic 15, 3) := by decide +kernel
theorem dX6_stateAfter_17 : decode cX6_stateAfter 17 = .ok (.istore_n 3, 1) := by decide +kernel
theorem dX6_stateAfter_18 : decode cX6_stateAfter 18 = .ok (.iload_n 1, 1) := by decide +kernel
theorem dX6_stateAfter_19 : decode cX6_stateAfter 19 = .ok (.iload_n 2, 1) := by decide +kernel
theorem dX6_stateAfter_20 : decode cX6_stateAfter 20 = .ok (.invokestatic 15, 3) := by decide +kernel
theorem dX6_stateAfter_23 : decode cX6_stateAfter 23 = .ok (.istore 4, 2) := by decide +kernel
theorem dX6_stateAfter_25 : decode cX6_stateAfter 25 = .ok (.iload_n 1, 1) := by decide +kernel
theorem dX6_stateAfter_26 : decode cX6_stateAfter 26 = .ok (.iload 4, 2) := by decide +kernel
theorem dX6_stateAfter_28 : decode cX6_stateAfter 28 = .ok (.iload_n 3, 1) := by decide +kernel
theorem dX6_stateAfter_29 : decode cX6_stateAfter 29 = .ok (.isub, 1) := by decide +kernel
theorem dX6_stateAfter_30 : decode cX6_stateAfter 30 = .ok (.iconst 3, 1) := by decide +kernel
theorem dX6_stateAfter_31 : decode cX6_stateAfter 31 = .ok (.aload_n 0, 1) := by decide +kernel
theorem dX6_stateAfter_32 : decode cX6_stateAfter 32 = .ok (.getfield 9, 3) := by decide +kernel
theorem dX6_stateAfter_35 : decode cX6_stateAfter 35 = .ok (.imul, 1) := by decide +kernel
theorem dX6_stateAfter_36 : decode cX6_stateAfter 36 = .ok (.ishl, 1) := by decide +kernel
theorem dX6_stateAfter_37 : decode cX6_stateAfter 37 = .ok (.iadd, 1) := by decide +kernel
theorem dX6_stateAfter_38 : decode cX6_stateAfter 38 = .ok (.iload_n 3, 1) := by decide +kernel
theorem dX6_stateAfter_39 : decode cX6_stateAfter 39 = .ok (.iload 4, 2) := by decide +kernel
theorem dX6_stateAfter_41 : decode cX6_stateAfter 41 = .ok (.isub, 1) := by decide +kernel
theorem dX6_stateAfter_42 : decode cX6_stateAfter 42 = .ok (.iconst 3, 1) := by decide +kernel
theorem dX6_stateAfter_43 : decode cX6_stateAfter 43 = .ok (.iload_n 2, 1) := by decide +kernel
theorem dX6_stateAfter_44 : decode cX6_stateAfter 44 = .ok (.imul, 1) := by decide +kernel
theorem dX6_stateAfter_45 : decode cX6_stateAfter 45 = .ok (.ishl, 1) := by decide +kernel
theorem dX6_stateAfter_46 : decode cX6_stateAfter 46 = .ok (.iadd, 1) := by decide +kernel
theorem dX6_stateAfter_47 : decode cX6_stateAfter 47 = .ok (.ireturn, 1) := by decide +kernel
theorem dX7_init_0 : decode cX7_init 0 = .ok (.aload_n 0, 1) := by decide +kernel
theorem dX7_init_1 : decode cX7_init 1 = .ok (.invokespecial 3, 3) := by decide +kernel
theorem dX7_init_4 : decode cX7_init 4 = .ok (.aload_n 0, 1) := by decide +kernel
theorem dX7_init_5 : decode cX7_init 5 = .ok (.iconst 4, 1) := by decide +kernel
theorem dX7_init_6 : decode cX7_init 6 = .ok (.newarray .int, 2) := by decide +kernel
theorem dX7_init_8 : decode cX7_init 8 = .ok (.putfield 9, 3) := by decide +kernel
theorem dX7_init_11 : decode cX7_init 11 = .ok (.aload_n 0, 1) := by decide +kernel
theorem dX7_init_12 : decode cX7_init 12 = .ok (.iconst 4, 1) := by decide +kernel
theorem dX7_init_13 : decode cX7_init 13 = .ok (.newarray .int, 2) := by decide +kernel
theorem dX7_init_15 : decode cX7_init 15 = .ok (.putfield 15, 3) := by decide +kernel
theorem dX7_init_18 : decode cX7_init 18 = .ok (.aload_n 0, 1) := by decide +kernel
theorem dX7_init_19 : decode cX7_init 19 = .ok (.iconst 4, 1) := by decide +kernel
theorem dX7_init_20 : decode cX7_init 20 = .ok (.newarray .int, 2) := by decide +kernel
theorem dX7_init_22 : decode cX7_init 22 = .ok (.putfield 18, 3) := by decide +kernel
theorem dX7_init_25 : decode cX7_init 25 = .ok (.aload_n 0, 1) := by decide +kernel
theorem dX7_init_26 : decode cX7_init 26 = .ok (.iconst 4, 1) := by decide +kernel
theorem dX7_init_27 : decode cX7_init 27 = .ok (.newarray .int, 2) := by decide +kernel
theorem dX7_init_29 : decode cX7_init 29 = .ok (.putfield 21, 3) := by decide +kernel
theorem dX7_init_32 : decode cX7_init 32 = .ok (.aload_n 0, 1) := by decide +kernel
theorem dX7_init_33 : decode cX7_init 33 = .ok (.iconst 4, 1) := by decide +kernel
theorem dX7_init_34 : decode cX7_init 34 = .ok (.newarray .int, 2) := by decide +kernel
theorem dX7_init_36 : decode cX7_init 36 = .ok (.putfield 24, 3) := by decide +kernel
theorem dX7_init_39 : decode cX7_init 39 = .ok (.return_, 1) := by decide +kernel
theorem dX7_empty_0 : decode cX7_empty 0 = .ok (.aload_n 0, 1) := by decide +kernel
theorem dX7_empty_1 : decode cX7_empty 1 = .ok (.iconst 0, 1) := by decide +kernel
theorem dX7_empty_2 : decode cX7_empty 2 = .ok (.putfield 27, 3) := by decide +kernel
theorem dX7_empty_5 : decode cX7_empty 5 = .ok (.aload_n 0, 1) := by decide +kernel
theorem dX7_empty_6 : decode cX7_empty 6 = .ok (.iconst 0, 1) := by decide +kernel
theorem dX7_empty_7 : decode cX7_empty 7 = .ok (.putfield 31, 3) := by decide +kernel
theorem dX7_empty_10 : decode cX7_empty 10 = .ok (.return_, 1) := by decide +kernel
theorem dX7_copyFrom_0 : decode cX7_copyFrom 0 = .ok (.aload_n 0, 1) := by decide +kernel
theorem dX7_copyFrom_1 : decode cX7_copyFrom 1 = .ok (.aload_n 1, 1) := by decide +kernel
theorem dX7_copyFrom_2 : decode cX7_copyFrom 2 = .ok (.getfield 27, 3) := by decide +kernel
theorem dX7_copyFrom_5 : decode cX7_copyFrom 5 = .ok (.putfield 27, 3) := by decide +kernel
theorem dX7_copyFrom_8 : decode cX7_copyFrom 8 = .ok (.aload_n 0, 1) := by decide +kernel
theorem dX7_copyFrom_9 : decode cX7_copyFrom 9 = .ok (.aload_n 1, 1) := by decide +kernel
theorem dX7_copyFrom_10 : decode cX7_copyFrom 10 = .ok (.getfield 31, 3) := by decide +kernel
theorem dX7_copyFrom_13 : decode cX7_copyFrom 13 = .ok (.putfield 31, 3) := by decide +kernel
theorem dX7_copyFrom_16 : decode cX7_copyFrom 16 = .ok (.iconst 0, 1) := by decide +kernel
theorem dX7_copyFrom_17 : decode cX7_copyFrom 17 = .ok (.istore_n 2, 1) := by decide +kernel
theorem dX7_copyFrom_18 : decode cX7_copyFrom 18 = .ok (.iload_n 2, 1) := by decide +kernel
theorem dX7_copyFrom_19 : decode cX7_copyFrom 19 = .ok (.iconst 4, 1) := by decide +kernel
theorem dX7_copyFrom_20 : decode cX7_copyFrom 20 = .ok (.if_icmp .ge 73, 3) := by decide +kernel
theorem dX7_copyFrom_23 : decode cX7_copyFrom 23 = .ok (.aload_n 0, 1) := by decide +kernel
theorem dX7_copyFrom_24 : decode cX7_copyFrom 24 = .ok (.getfield 9, 3) := by decide +kernel
theorem dX7_copyFrom_27 : decode cX7_copyFrom 27 = .ok (.iload_n 2, 1) := by decide +kernel
theorem dX7_copyFrom_28 : decode cX7_copyFrom 28 = .ok (.aload_n 1, 1) := by decide +kernel
theorem dX7_copyFrom_29 : decode cX7_copyFrom 29 = .ok (.getfield 9, 3) := by decide +kernel
theorem dX7_copyFrom_32 : decode cX7_copyFrom 32 = .ok (.iload_n 2, 1) := by decide +kernel
theorem dX7_copyFrom_33 : decode cX7_copyFrom 33 = .ok (.invokestatic 34, 3) := by decide +kernel
theorem dX7_copyFrom_36 : decode cX7_copyFrom 36 = .ok (.invokestatic 38, 3) := by decide +kernel
theorem dX7_copyFrom_39 : decode cX7_copyFrom 39 = .ok (.aload_n 0, 1) := by decide +kernel
theorem dX7_copyFrom_40 : decode cX7_copyFrom 40 = .ok (.getfield 15, 3) := by decide +kernel
theorem dX7_copyFrom_43 : decode cX7_copyFrom 43 = .ok (.iload_n 2, 1) := by decide +kernel
theorem dX7_copyFrom_44 : decode cX7_copyFrom 44 = .ok (.aload_n 1, 1) := by decide +kernel
theorem dX7_copyFrom_45 : decode cX7_copyFrom 45 = .ok (.getfield 15, 3) := by decide +kernel
theorem dX7_copyFrom_48 : decode cX7_copyFrom 48 = .ok (.iload_n 2, 1) := by decide +kernel
theorem dX7_copyFrom_49 : decode cX7_copyFrom 49 = .ok (.invokestatic 34, 3) := by decide +kernel
theorem dX7_copyFrom_52 : decode cX7_copyFrom 52 = .ok (.invokestatic 38, 3) := by decide +kernel
theorem dX7_copyFrom_55 : decode cX7_copyFrom 55 = .ok (.aload_n 0, 1) := by decide +kernel
theorem dX7_copyFrom_56 : decode cX7_copyFrom 56 = .ok (.getfield 18, 3) := by decide +kernel
theorem dX7_copyFrom_59 : decode cX7_copyFrom 59 = .ok (.iload_n 2, 1) := by decide +kernel
theorem dX7_copyFrom_60 : decode cX7_copyFrom 60 = .ok (.aload_n 1, 1) := by decide +kernel
theorem dX7_copyFrom_61 : decode cX7_copyFrom 61 = .ok (.getfield 18, 3) := by decide +kernel
theorem dX7_copyFrom_64 : decode cX7_copyFrom 64 = .ok (.iload_n 2, 1) := by decide +kernel
theorem dX7_copyFrom_65 : decode cX7_copyFrom 65 = .ok (.invokestatic 34, 3) := by decide +kernel
theorem dX7_copyFrom_68 : decode cX7_copyFrom 68 = .ok (.invokestatic 38, 3) := by decide +kernel
theorem dX7_copyFrom_71 : decode cX7_copyFrom 71 = .ok (.aload_n 0, 1) := by decide +kernel
theorem dX7_copyFrom_72 : decode cX7_copyFrom 72 = .ok (.getfield 21, 3) := by decide +kernel
theorem dX7_copyFrom_75 : decode cX7_copyFrom 75 = .ok (.iload_n 2, 1) := by decide +kernel
theorem dX7_copyFrom_76 : decode cX7_copyFrom 76 = .ok (.aload_n 1, 1) := by decide +kernel
theorem dX7_copyFrom_77 : decode cX7_copyFrom 77 = .ok (.getfield 21, 3) := by decide +kernel
theorem dX7_copyFrom_80 : decode cX7_copyFrom 80 = .ok (.iload_n 2, 1) := by decide +kernel
theorem dX7_copyFrom_81 : decode cX7_copyFrom 81 = .ok (.invokestatic 34, 3) := by decide +kernel
theorem dX7_copyFrom_84 : decode cX7_copyFrom 84 = .ok (.invokestatic 38, 3) := by decide +kernel
theorem dX7_copyFrom_87 : decode cX7_copyFrom 87 = .ok (.iinc 2 1, 3) := by decide +kernel
theorem dX7_copyFrom_90 : decode cX7_copyFrom 90 = .ok (.goto (-72), 3) := by decide +kernel
theorem dX7_copyFrom_93 : decode cX7_copyFrom 93 = .ok (.return_, 1) := by decide +kernel
theorem dX7_has_0 : decode cX7_has 0 = .ok (.iload_n 1, 1) := by decide +kernel
theorem dX7_has_1 : decode cX7_has 1 = .ok (.ifCond .lt 15, 3) := by decide +kernel
theorem dX7_has_4 : decode cX7_has 4 = .ok (.iload_n 1, 1) := by decide +kernel
theorem dX7_has_5 : decode cX7_has 5 = .ok (.aload_n 0, 1) := by decide +kernel
theorem dX7_has_6 : decode cX7_has 6 = .ok (.getfield 27, 3) := by decide +kernel
theorem dX7_has_9 : decode cX7_has 9 = .ok (.if_icmp .ge 7, 3) := by decide +kernel
theorem dX7_has_12 : decode cX7_has 12 = .ok (.iconst 1, 1) := by decide +kernel
theorem dX7_has_13 : decode cX7_has 13 = .ok (.goto 4, 3) := by decide +kernel
theorem dX7_has_16 : decode cX7_has 16 = .ok (.iconst 0, 1) := by decide +kernel
theorem dX7_has_17 : decode cX7_has 17 = .ok (.ireturn, 1) := by decide +kernel
theorem dX7_stateOf_0 : decode cX7_stateOf 0 = .ok (.aload_n 0, 1) := by decide +kernel
theorem dX7_stateOf_1 : decode cX7_stateOf 1 = .ok (.getfield 9, 3) := by decide +kernel
theorem dX7_stateOf_4 : decode cX7_stateOf 4 = .ok (.iload_n 1, 1) := by decide +kernel
theorem dX7_stateOf_5 : decode cX7_stateOf 5 = .ok (.invokestatic 34, 3) := by decide +kernel
theorem dX7_stateOf_8 : decode cX7_stateOf 8 = .ok (.ireturn, 1) := by decide +kernel
theorem dX7_holderOf_0 : decode cX7_holderOf 0 = .ok (.aload_n 0, 1) := by decide +kernel
theorem dX7_holderOf_1 : decode cX7_holderOf 1 = .ok (.getfield 15, 3) := by decide +kernel
theorem dX7_holderOf_4 : decode cX7_holderOf 4 = .ok (.iload_n 1, 1) := by decide +kernel
theorem dX7_holderOf_5 : decode cX7_holderOf 5 = .ok (.invokestatic 34, 3) := by decide +kernel
theorem dX7_holderOf_8 : decode cX7_holderOf 8 = .ok (.ireturn, 1) := by decide +kernel
theorem dX7_returnsOf_0 : decode cX7_returnsOf 0 = .ok (.aload_n 0, 1) := by decide +kernel
theorem dX7_returnsOf_1 : decode cX7_returnsOf 1 = .ok (.getfield 21, 3) := by decide +kernel
theorem dX7_returnsOf_4 : decode cX7_returnsOf 4 = .ok (.iload_n 1, 1) := by decide +kernel
theorem dX7_returnsOf_5 : decode cX7_returnsOf 5 = .ok (.invokestatic 34, 3) := by decide +kernel
theorem dX7_returnsOf_8 : decode cX7_returnsOf 8 = .ok (.ireturn, 1) := by decide +kernel
theorem dX7_isLent_0 : decode cX7_isLent 0 = .ok (.aload_n 0, 1) := by decide +kernel
theorem dX7_isLent_1 : decode cX7_isLent 1 = .ok (.getfield 15, 3) := by decide +kernel
theorem dX7_isLent_4 : decode cX7_isLent 4 = .ok (.iload_n 1, 1) := by decide +kernel
theorem dX7_isLent_5 : decode cX7_isLent 5 = .ok (.invokestatic 34, 3) := by decide +kernel
theorem dX7_isLent_8 : decode cX7_isLent 8 = .ok (.iconst (-1), 1) := by decide +kernel
theorem dX7_isLent_9 : decode cX7_isLent 9 = .ok (.if_icmp .eq 7, 3) := by decide +kernel
theorem dX7_isLent_12 : decode cX7_isLent 12 = .ok (.iconst 1, 1) := by decide +kernel
theorem dX7_isLent_13 : decode cX7_isLent 13 = .ok (.goto 4, 3) := by decide +kernel
theorem dX7_isLent_16 : decode cX7_isLent 16 = .ok (.iconst 0, 1) := by decide +kernel
theorem dX7_isLent_17 : decode cX7_isLent 17 = .ok (.ireturn, 1) := by decide +kernel
theorem dX7_stateAtHome_0 : decode cX7_stateAtHome 0 = .ok (.aload_n 0, 1) := by decide +kernel
theorem dX7_stateAtHome_1 : decode cX7_stateAtHome 1 = .ok (.getfield 9, 3) := by decide +kernel
theorem dX7_stateAtHome_4 : decode cX7_stateAtHome 4 = .ok (.iload_n 1, 1) := by decide +kernel
theorem dX7_stateAtHome_5 : decode cX7_stateAtHome 5 = .ok (.invokestatic 34, 3) := by decide +kernel
theorem dX7_stateAtHome_8 : decode cX7_stateAtHome 8 = .ok (.istore_n 3, 1) := by decide +kernel
theorem dX7_stateAtHome_9 : decode cX7_stateAtHome 9 = .ok (.aload_n 0, 1) := by decide +kernel
theorem dX7_stateAtHome_10 : decode cX7_stateAtHome 10 = .ok (.iload_n 1, 1) := by decide +kernel
theorem dX7_stateAtHome_11 : decode cX7_stateAtHome 11 = .ok (.invokevirtual 42, 3) := by decide +kernel
theorem dX7_stateAtHome_14 : decode cX7_stateAtHome 14 = .ok (.ifCond .eq 19, 3) := by decide +kernel
theorem dX7_stateAtHome_17 : decode cX7_stateAtHome 17 = .ok (.aload_n 2, 1) := by decide +kernel
theorem dX7_stateAtHome_18 : decode cX7_stateAtHome 18 = .ok (.aload_n 0, 1) := by decide +kernel
theorem dX7_stateAtHome_19 : decode cX7_stateAtHome 19 = .ok (.getfield 15, 3) := by decide +kernel
theorem dX7_stateAtHome_22 : decode cX7_stateAtHome 22 = .ok (.iload_n 1, 1) := by decide +kernel
theorem dX7_stateAtHome_23 : decode cX7_stateAtHome 23 = .ok (.invokestatic 34, 3) := by decide +kernel
theorem dX7_stateAtHome_26 : decode cX7_stateAtHome 26 = .ok (.iload_n 3, 1) := by decide +kernel
theorem dX7_stateAtHome_27 : decode cX7_stateAtHome 27 = .ok (.invokevirtual 46, 3) := by decide +kernel
theorem dX7_stateAtHome_30 : decode cX7_stateAtHome 30 = .ok (.goto 4, 3) := by decide +kernel
theorem dX7_stateAtHome_33 : decode cX7_stateAtHome 33 = .ok (.iload_n 3, 1) := by decide +kernel
theorem dX7_stateAtHome_34 : decode cX7_stateAtHome 34 = .ok (.ireturn, 1) := by decide +kernel
theorem dX7_add_0 : decode cX7_add 0 = .ok (.aload_n 0, 1) := by decide +kernel
theorem dX7_add_1 : decode cX7_add 1 = .ok (.getfield 27, 3) := by decide +kernel
theorem dX7_add_4 : decode cX7_add 4 = .ok (.istore_n 2, 1) := by decide +kernel
theorem dX7_add_5 : decode cX7_add 5 = .ok (.aload_n 0, 1) := by decide +kernel
theorem dX7_add_6 : decode cX7_add 6 = .ok (.getfield 9, 3) := by decide +kernel
theorem dX7_add_9 : decode cX7_add 9 = .ok (.iload_n 2, 1) := by decide +kernel
theorem dX7_add_10 : decode cX7_add 10 = .ok (.iload_n 1, 1) := by decide +kernel
theorem dX7_add_11 : decode cX7_add 11 = .ok (.invokestatic 38, 3) := by decide +kernel
theorem dX7_add_14 : decode cX7_add 14 = .ok (.aload_n 0, 1) := by decide +kernel
theorem dX7_add_15 : decode cX7_add 15 = .ok (.getfield 15, 3) := by decide +kernel
theorem dX7_add_18 : decode cX7_add 18 = .ok (.iload_n 2, 1) := by decide +kernel
theorem dX7_add_19 : decode cX7_add 19 = .ok (.iconst (-1), 1) := by decide +kernel
theorem dX7_add_20 : decode cX7_add 20 = .ok (.invokestatic 38, 3) := by decide +kernel
theorem dX7_add_23 : decode cX7_add 23 = .ok (.aload_n 0, 1) := by decide +kernel
theorem dX7_add_24 : decode cX7_add 24 = .ok (.getfield 18, 3) := by decide +kernel
theorem dX7_add_27 : decode cX7_add 27 = .ok (.iload_n 2, 1) := by decide +kernel
theorem dX7_add_28 : decode cX7_add 28 = .ok (.iconst 0, 1) := by decide +kernel
theorem dX7_add_29 : decode cX7_add 29 = .ok (.invokestatic 38, 3) := by decide +kernel
theorem dX7_add_32 : decode cX7_add 32 = .ok (.aload_n 0, 1) := by decide +kernel
theorem dX7_add_33 : decode cX7_add 33 = .ok (.getfield 21, 3) := by decide +kernel
theorem dX7_add_36 : decode cX7_add 36 = .ok (.iload_n 2, 1) := by decide +kernel
theorem dX7_add_37 : decode cX7_add 37 = .ok (.iconst 0, 1) := by decide +kernel
theorem dX7_add_38 : decode cX7_add 38 = .ok (.invokestatic 38, 3) := by decide +kernel
theorem dX7_add_41 : decode cX7_add 41 = .ok (.aload_n 0, 1) := by decide +kernel
theorem dX7_add_42 : decode cX7_add 42 = .ok (.dup, 1) := by decide +kernel
theorem dX7_add_43 : decode cX7_add 43 = .ok (.getfield 27, 3) := by decide +kernel
theorem dX7_add_46 : decode cX7_add 46 = .ok (.iconst 1, 1) := by decide +kernel
theorem dX7_add_47 : decode cX7_add 47 = .ok (.iadd, 1) := by decide +kernel
theorem dX7_add_48 : decode cX7_add 48 = .ok (.putfield 27, 3) := by decide +kernel
theorem dX7_add_51 : decode cX7_add 51 = .ok (.iload_n 2, 1) := by decide +kernel
theorem dX7_add_52 : decode cX7_add 52 = .ok (.ireturn, 1) := by decide +kernel
theorem dX7_give_0 : decode cX7_give 0 = .ok (.aload_n 0, 1) := by decide +kernel
theorem dX7_give_1 : decode cX7_give 1 = .ok (.getfield 15, 3) := by decide +kernel
theorem dX7_give_4 : decode cX7_give 4 = .ok (.iload_n 1, 1) := by decide +kernel
theorem dX7_give_5 : decode cX7_give 5 = .ok (.iload_n 2, 1) := by decide +kernel
theorem dX7_give_6 : decode cX7_give 6 = .ok (.invokestatic 38, 3) := by decide +kernel
theorem dX7_give_9 : decode cX7_give 9 = .ok (.aload_n 0, 1) := by decide +kernel
theorem dX7_give_10 : decode cX7_give 10 = .ok (.getfield 18, 3) := by decide +kernel
theorem dX7_give_13 : decode cX7_give 13 = .ok (.iload_n 1, 1) := by decide +kernel
theorem dX7_give_14 : decode cX7_give 14 = .ok (.iload_n 3, 1) := by decide +kernel
theorem dX7_give_15 : decode cX7_give 15 = .ok (.invokestatic 38, 3) := by decide +kernel
theorem dX7_give_18 : decode cX7_give 18 = .ok (.return_, 1) := by decide +kernel
theorem dX7_numberHeldBy_0 : decode cX7_numberHeldBy 0 = .ok (.iconst 0, 1) := by decide +kernel
theorem dX7_numberHeldBy_1 : decode cX7_numberHeldBy 1 = .ok (.istore_n 2, 1) := by decide +kernel
theorem dX7_numberHeldBy_2 : decode cX7_numberHeldBy 2 = .ok (.iload_n 2, 1) := by decide +kernel
theorem dX7_numberHeldBy_3 : decode cX7_numberHeldBy 3 = .ok (.aload_n 0, 1) := by decide +kernel
theorem dX7_numberHeldBy_4 : decode cX7_numberHeldBy 4 = .ok (.getfield 27, 3) := by decide +kernel
theorem dX7_numberHeldBy_7 : decode cX7_numberHeldBy 7 = .ok (.if_icmp .ge 23, 3) := by decide +kernel
theorem dX7_numberHeldBy_10 : decode cX7_numberHeldBy 10 = .ok (.aload_n 0, 1) := by decide +kernel
theorem dX7_numberHeldBy_11 : decode cX7_numberHeldBy 11 = .ok (.getfield 15, 3) := by decide +kernel
theorem dX7_numberHeldBy_14 : decode cX7_numberHeldBy 14 = .ok (.iload_n 2, 1) := by decide +kernel
theorem dX7_numberHeldBy_15 : decode cX7_numberHeldBy 15 = .ok (.invokestatic 34, 3) := by decide +kernel
theorem dX7_numberHeldBy_18 : decode cX7_numberHeldBy 18 = .ok (.iload_n 1, 1) := by decide +kernel
theorem dX7_numberHeldBy_19 : decode cX7_numberHeldBy 19 = .ok (.if_icmp .ne 5, 3) := by decide +kernel
theorem dX7_numberHeldBy_22 : decode cX7_numberHeldBy 22 = .ok (.iload_n 2, 1) := by decide +kernel
theorem dX7_numberHeldBy_23 : decode cX7_numberHeldBy 23 = .ok (.ireturn, 1) := by decide +kernel
theorem dX7_numberHeldBy_24 : decode cX7_numberHeldBy 24 = .ok (.iinc 2 1, 3) := by decide +kernel
theorem dX7_numberHeldBy_27 : decode cX7_numberHeldBy 27 = .ok (.goto (-25), 3) := by decide +kernel
theorem dX7_numberHeldBy_30 : decode cX7_numberHeldBy 30 = .ok (.iconst (-1), 1) := by decide +kernel
theorem dX7_numberHeldBy_31 : decode cX7_numberHeldBy 31 = .ok (.ireturn, 1) := by decide +kernel
theorem dX7_daysLeftAt_0 : decode cX7_daysLeftAt 0 = .ok (.aload_n 0, 1) := by decide +kernel
theorem dX7_daysLeftAt_1 : decode cX7_daysLeftAt 1 = .ok (.iload_n 1, 1) := by decide +kernel
theorem dX7_daysLeftAt_2 : decode cX7_daysLeftAt 2 = .ok (.invokevirtual 52, 3) := by decide +kernel
theorem dX7_daysLeftAt_5 : decode cX7_daysLeftAt 5 = .ok (.istore_n 2, 1) := by decide +kernel
theorem dX7_daysLeftAt_6 : decode cX7_daysLeftAt 6 = .ok (.iload_n 2, 1) := by decide +kernel
theorem dX7_daysLeftAt_7 : decode cX7_daysLeftAt 7 = .ok (.iconst (-1), 1) := by decide +kernel
theorem dX7_daysLeftAt_8 : decode cX7_daysLeftAt 8 = .ok (.if_icmp .ne 7, 3) := by decide +kernel
theorem dX7_daysLeftAt_11 : decode cX7_daysLeftAt 11 = .ok (.iconst 0, 1) := by decide +kernel
theorem dX7_daysLeftAt_12 : decode cX7_daysLeftAt 12 = .ok (.goto 11, 3) := by decide +kernel
theorem dX7_daysLeftAt_15 : decode cX7_daysLeftAt 15 = .ok (.aload_n 0, 1) := by decide +kernel
theorem dX7_daysLeftAt_16 : decode cX7_daysLeftAt 16 = .ok (.getfield 18, 3) := by decide +kernel
theorem dX7_daysLeftAt_19 : decode cX7_daysLeftAt 19 = .ok (.iload_n 2, 1) := by decide +kernel
theorem dX7_daysLeftAt_20 : decode cX7_daysLeftAt 20 = .ok (.invokestatic 34, 3) := by decide +kernel
theorem dX7_daysLeftAt_23 : decode cX7_daysLeftAt 23 = .ok (.ireturn, 1) := by decide +kernel
theorem dX7_passDay_0 : decode cX7_passDay 0 = .ok (.aload_n 0, 1) := by decide +kernel
theorem dX7_passDay_1 : decode cX7_passDay 1 = .ok (.dup, 1) := by decide +kernel
theorem dX7_passDay_2 : decode cX7_passDay 2 = .ok (.getfield 31, 3) := by decide +kernel
theorem dX7_passDay_5 : decode cX7_passDay 5 = .ok (.iconst 1, 1) := by decide +kernel
theorem dX7_passDay_6 : decode cX7_passDay 6 = .ok (.iadd, 1) := by decide +kernel
theorem dX7_passDay_7 : decode cX7_passDay 7 = .ok (.putfield 31, 3) := by decide +kernel
theorem dX7_passDay_10 : decode cX7_passDay 10 = .ok (.iconst 0, 1) := by decide +kernel
theorem dX7_passDay_11 : decode cX7_passDay 11 = .ok (.istore_n 2, 1) := by decide +kernel
theorem dX7_passDay_12 : decode cX7_passDay 12 = .ok (.iconst 0, 1) := by decide +kernel
theorem dX7_passDay_13 : decode cX7_passDay 13 = .ok (.istore_n 3, 1) := by decide +kernel
theorem dX7_passDay_14 : decode cX7_passDay 14 = .ok (.iload_n 3, 1) := by decide +kernel
theorem dX7_passDay_15 : decode cX7_passDay 15 = .ok (.aload_n 0, 1) := by decide +kernel
theorem dX7_passDay_16 : decode cX7_passDay 16 = .ok (.getfield 27, 3) := by decide +kernel
theorem dX7_passDay_19 : decode cX7_passDay 19 = .ok (.if_icmp .ge 55, 3) := by decide +kernel
theorem dX7_passDay_22 : decode cX7_passDay 22 = .ok (.aload_n 0, 1) := by decide +kernel
theorem dX7_passDay_23 : decode cX7_passDay 23 = .ok (.iload_n 3, 1) := by decide +kernel
theorem dX7_passDay_24 : decode cX7_passDay 24 = .ok (.invokevirtual 42, 3) := by decide +kernel
theorem dX7_passDay_27 : decode cX7_passDay 27 = .ok (.ifCond .eq 41, 3) := by decide +kernel
theorem dX7_passDay_30 : decode cX7_passDay 30 = .ok (.aload_n 0, 1) := by decide +kernel
theorem dX7_passDay_31 : decode cX7_passDay 31 = .ok (.getfield 18, 3) := by decide +kernel
theorem dX7_passDay_34 : decode cX7_passDay 34 = .ok (.iload_n 3, 1) := by decide +kernel
theorem dX7_passDay_35 : decode cX7_passDay 35 = .ok (.aload_n 0, 1) := by decide +kernel
theorem dX7_passDay_36 : decode cX7_passDay 36 = .ok (.getfield 18, 3) := by decide +kernel
theorem dX7_passDay_39 : decode cX7_passDay 39 = .ok (.iload_n 3, 1) := by decide +kernel
theorem dX7_passDay_40 : decode cX7_passDay 40 = .ok (.invokestatic 34, 3) := by decide +kernel
theorem dX7_passDay_43 : decode cX7_passDay 43 = .ok (.iconst 1, 1) := by decide +kernel
theorem dX7_passDay_44 : decode cX7_passDay 44 = .ok (.isub, 1) := by decide +kernel
theorem dX7_passDay_45 : decode cX7_passDay 45 = .ok (.invokestatic 38, 3) := by decide +kernel
theorem dX7_passDay_48 : decode cX7_passDay 48 = .ok (.aload_n 0, 1) := by decide +kernel
theorem dX7_passDay_49 : decode cX7_passDay 49 = .ok (.getfield 18, 3) := by decide +kernel
theorem dX7_passDay_52 : decode cX7_passDay 52 = .ok (.iload_n 3, 1) := by decide +kernel
theorem dX7_passDay_53 : decode cX7_passDay 53 = .ok (.invokestatic 34, 3) := by decide +kernel
theorem dX7_passDay_56 : decode cX7_passDay 56 = .ok (.ifCond .ne 12, 3) := by decide +kernel
theorem dX7_passDay_59 : decode cX7_passDay 59 = .ok (.aload_n 0, 1) := by decide +kernel
theorem dX7_passDay_60 : decode cX7_passDay 60 = .ok (.iload_n 3, 1) := by decide +kernel
theorem dX7_passDay_61 : decode cX7_passDay 61 = .ok (.aload_n 1, 1) := by decide +kernel
theorem dX7_passDay_62 : decode cX7_passDay 62 = .ok (.invokevirtual 56, 3) := by decide +kernel
theorem dX7_passDay_65 : decode cX7_passDay 65 = .ok (.iinc 2 1, 3) := by decide +kernel
theorem dX7_passDay_68 : decode cX7_passDay 68 = .ok (.iinc 3 1, 3) := by decide +kernel
theorem dX7_passDay_71 : decode cX7_passDay 71 = .ok (.goto (-57), 3) := by decide +kernel
theorem dX7_passDay_74 : decode cX7_passDay 74 = .ok (.iload_n 2, 1) := by decide +kernel
theorem dX7_passDay_75 : decode cX7_passDay 75 = .ok (.ireturn, 1) := by decide +kernel
theorem dX7_howManyLent_0 : decode cX7_howManyLent 0 = .ok (.iconst 0, 1) := by decide +kernel
theorem dX7_howManyLent_1 : decode cX7_howManyLent 1 = .ok (.istore_n 1, 1) := by decide +kernel
theorem dX7_howManyLent_2 : decode cX7_howManyLent 2 = .ok (.iconst 0, 1) := by decide +kernel
theorem dX7_howManyLent_3 : decode cX7_howManyLent 3 = .ok (.istore_n 2, 1) := by decide +kernel
theorem dX7_howManyLent_4 : decode cX7_howManyLent 4 = .ok (.iload_n 2, 1) := by decide +kernel
theorem dX7_howManyLent_5 : decode cX7_howManyLent 5 = .ok (.aload_n 0, 1) := by decide +kernel
theorem dX7_howManyLent_6 : decode cX7_howManyLent 6 = .ok (.getfield 27, 3) := by decide +kernel
theorem dX7_howManyLent_9 : decode cX7_howManyLent 9 = .ok (.if_icmp .ge 20, 3) := by decide +kernel
theorem dX7_howManyLent_12 : decode cX7_howManyLent 12 = .ok (.aload_n 0, 1) := by decide +kernel
theorem dX7_howManyLent_13 : decode cX7_howManyLent 13 = .ok (.iload_n 2, 1) := by decide +kernel
theorem dX7_howManyLent_14 : decode cX7_howManyLent 14 = .ok (.invokevirtual 42, 3) := by decide +kernel
theorem dX7_howManyLent_17 : decode cX7_howManyLent 17 = .ok (.ifCond .eq 6, 3) := by decide +kernel
theorem dX7_howManyLent_20 : decode cX7_howManyLent 20 = .ok (.iinc 1 1, 3) := by decide +kernel
theorem dX7_howManyLent_23 : decode cX7_howManyLent 23 = .ok (.iinc 2 1, 3) := by decide +kernel
theorem dX7_howManyLent_26 : decode cX7_howManyLent 26 = .ok (.goto (-22), 3) := by decide +kernel
theorem dX7_howManyLent_29 : decode cX7_howManyLent 29 = .ok (.iload_n 1, 1) := by decide +kernel
theorem dX7_howManyLent_30 : decode cX7_howManyLent 30 = .ok (.ireturn, 1) := by decide +kernel
theorem dX7_traitsTogether_0 : decode cX7_traitsTogether 0 = .ok (.aload_n 0, 1) := by decide +kernel
theorem dX7_traitsTogether_1 : decode cX7_traitsTogether 1 = .ok (.aload_n 0, 1) := by decide +kernel
theorem dX7_traitsTogether_2 : decode cX7_traitsTogether 2 = .ok (.getfield 9, 3) := by decide +kernel
theorem dX7_traitsTogether_5 : decode cX7_traitsTogether 5 = .ok (.invokevirtual 60, 3) := by decide +kernel
theorem dX7_traitsTogether_8 : decode cX7_traitsTogether 8 = .ok (.ireturn, 1) := by decide +kernel
theorem dX7_dreamYears_0 : decode cX7_dreamYears 0 = .ok (.aload_n 0, 1) := by decide +kernel
theorem dX7_dreamYears_1 : decode cX7_dreamYears 1 = .ok (.iload_n 3, 1) := by decide +kernel
theorem dX7_dreamYears_2 : decode cX7_dreamYears 2 = .ok (.putfield 64, 3) := by decide +kernel
theorem dX7_dreamYears_5 : decode cX7_dreamYears 5 = .ok (.iconst 0, 1) := by decide +kernel
theorem dX7_dreamYears_6 : decode cX7_dreamYears 6 = .ok (.istore 4, 2) := by decide +kernel
theorem dX7_dreamYears_8 : decode cX7_dreamYears 8 = .ok (.iload 4, 2) := by decide +kernel
theorem dX7_dreamYears_10 : decode cX7_dreamYears 10 = .ok (.aload_n 0, 1) := by decide +kernel
theorem dX7_dreamYears_11 : decode cX7_dreamYears 11 = .ok (.getfield 27, 3) := by decide +kernel
theorem dX7_dreamYears_14 : decode cX7_dreamYears 14 = .ok (.if_icmp .ge 25, 3) := by decide +kernel
theorem dX7_dreamYears_17 : decode cX7_dreamYears 17 = .ok (.aload_n 0, 1) := by decide +kernel
theorem dX7_dreamYears_18 : decode cX7_dreamYears 18 = .ok (.getfield 24, 3) := by decide +kernel
theorem dX7_dreamYears_21 : decode cX7_dreamYears 21 = .ok (.iload 4, 2) := by decide +kernel
theorem dX7_dreamYears_23 : decode cX7_dreamYears 23 = .ok (.aload_n 0, 1) := by decide +kernel
theorem dX7_dreamYears_24 : decode cX7_dreamYears 24 = .ok (.iload 4, 2) := by decide +kernel
theorem dX7_dreamYears_26 : decode cX7_dreamYears 26 = .ok (.aload_n 1, 1) := by decide +kernel
theorem dX7_dreamYears_27 : decode cX7_dreamYears 27 = .ok (.invokevirtual 67, 3) := by decide +kernel
theorem dX7_dreamYears_30 : decode cX7_dreamYears 30 = .ok (.invokestatic 38, 3) := by decide +kernel
theorem dX7_dreamYears_33 : decode cX7_dreamYears 33 = .ok (.iinc 4 1, 3) := by decide +kernel
theorem dX7_dreamYears_36 : decode cX7_dreamYears 36 = .ok (.goto (-28), 3) := by decide +kernel
theorem dX7_dreamYears_39 : decode cX7_dreamYears 39 = .ok (.iconst 0, 1) := by decide +kernel
theorem dX7_dreamYears_40 : decode cX7_dreamYears 40 = .ok (.istore 4, 2) := by decide +kernel
theorem dX7_dreamYears_42 : decode cX7_dreamYears 42 = .ok (.iload 4, 2) := by decide +kernel
theorem dX7_dreamYears_44 : decode cX7_dreamYears 44 = .ok (.iload_n 2, 1) := by decide +kernel
theorem dX7_dreamYears_45 : decode cX7_dreamYears 45 = .ok (.if_icmp .ge 53, 3) := by decide +kernel
theorem dX7_dreamYears_48 : decode cX7_dreamYears 48 = .ok (.aload_n 0, 1) := by decide +kernel
theorem dX7_dreamYears_49 : decode cX7_dreamYears 49 = .ok (.aload_n 0, 1) := by decide +kernel
theorem dX7_dreamYears_50 : decode cX7_dreamYears 50 = .ok (.getfield 27, 3) := by decide +kernel
theorem dX7_dreamYears_53 : decode cX7_dreamYears 53 = .ok (.invokevirtual 71, 3) := by decide +kernel
theorem dX7_dreamYears_56 : decode cX7_dreamYears 56 = .ok (.istore 5, 2) := by decide +kernel
theorem dX7_dreamYears_58 : decode cX7_dreamYears 58 = .ok (.aload_n 0, 1) := by decide +kernel
theorem dX7_dreamYears_59 : decode cX7_dreamYears 59 = .ok (.aload_n 1, 1) := by decide +kernel
theorem dX7_dreamYears_60 : decode cX7_dreamYears 60 = .ok (.getfield 74, 3) := by decide +kernel
theorem dX7_dreamYears_63 : decode cX7_dreamYears 63 = .ok (.invokevirtual 71, 3) := by decide +kernel
theorem dX7_dreamYears_66 : decode cX7_dreamYears 66 = .ok (.istore 6, 2) := by decide +kernel
theorem dX7_dreamYears_68 : decode cX7_dreamYears 68 = .ok (.aload_n 0, 1) := by decide +kernel
theorem dX7_dreamYears_69 : decode cX7_dreamYears 69 = .ok (.getfield 24, 3) := by decide +kernel
theorem dX7_dreamYears_72 : decode cX7_dreamYears 72 = .ok (.iload 5, 2) := by decide +kernel
theorem dX7_dreamYears_74 : decode cX7_dreamYears 74 = .ok (.aload_n 1, 1) := by decide +kernel
theorem dX7_dreamYears_75 : decode cX7_dreamYears 75 = .ok (.iload 6, 2) := by decide +kernel
theorem dX7_dreamYears_77 : decode cX7_dreamYears 77 = .ok (.aload_n 0, 1) := by decide +kernel
theorem dX7_dreamYears_78 : decode cX7_dreamYears 78 = .ok (.getfield 24, 3) := by decide +kernel
theorem dX7_dreamYears_81 : decode cX7_dreamYears 81 = .ok (.iload 5, 2) := by decide +kernel
theorem dX7_dreamYears_83 : decode cX7_dreamYears 83 = .ok (.invokestatic 34, 3) := by decide +kernel
theorem dX7_dreamYears_86 : decode cX7_dreamYears 86 = .ok (.invokevirtual 46, 3) := by decide +kernel
theorem dX7_dreamYears_89 : decode cX7_dreamYears 89 = .ok (.invokestatic 38, 3) := by decide +kernel
theorem dX7_dreamYears_92 : decode cX7_dreamYears 92 = .ok (.iinc 4 1, 3) := by decide +kernel
theorem dX7_dreamYears_95 : decode cX7_dreamYears 95 = .ok (.goto (-53), 3) := by decide +kernel
theorem dX7_dreamYears_98 : decode cX7_dreamYears 98 = .ok (.return_, 1) := by decide +kernel
theorem dX7_stateOfFirstThen_0 : decode cX7_stateOfFirstThen 0 = .ok (.aload_n 0, 1) := by decide +kernel
theorem dX7_stateOfFirstThen_1 : decode cX7_stateOfFirstThen 1 = .ok (.getfield 24, 3) := by decide +kernel
theorem dX7_stateOfFirstThen_4 : decode cX7_stateOfFirstThen 4 = .ok (.iconst 0, 1) := by decide +kernel
theorem dX7_stateOfFirstThen_5 : decode cX7_stateOfFirstThen 5 = .ok (.invokestatic 34, 3) := by decide +kernel
theorem dX7_stateOfFirstThen_8 : decode cX7_stateOfFirstThen 8 = .ok (.ireturn, 1) := by decide +kernel
theorem dX7_traitsTogetherThen_0 : decode cX7_traitsTogetherThen 0 = .ok (.aload_n 0, 1) := by decide +kernel
theorem dX7_traitsTogetherThen_1 : decode cX7_traitsTogetherThen 1 = .ok (.aload_n 0, 1) := by decide +kernel
theorem dX7_traitsTogetherThen_2 : decode cX7_traitsTogetherThen 2 = .ok (.getfield 24, 3) := by decide +kernel
theorem dX7_traitsTogetherThen_5 : decode cX7_traitsTogetherThen 5 = .ok (.invokevirtual 60, 3) := by decide +kernel
theorem dX7_traitsTogetherThen_8 : decode cX7_traitsTogetherThen 8 = .ok (.ireturn, 1) := by decide +kernel
theorem dX7_takeBack_0 : decode cX7_takeBack 0 = .ok (.aload_n 0, 1) := by decide +kernel
theorem dX7_takeBack_1 : decode cX7_takeBack 1 = .ok (.getfield 9, 3) := by decide +kernel
theorem dX7_takeBack_4 : decode cX7_takeBack 4 = .ok (.iload_n 1, 1) := by decide +kernel
theorem dX7_takeBack_5 : decode cX7_takeBack 5 = .ok (.aload_n 0, 1) := by decide +kernel
theorem dX7_takeBack_6 : decode cX7_takeBack 6 = .ok (.iload_n 1, 1) := by decide +kernel
theorem dX7_takeBack_7 : decode cX7_takeBack 7 = .ok (.aload_n 2, 1) := by decide +kernel
theorem dX7_takeBack_8 : decode cX7_takeBack 8 = .ok (.invokevirtual 67, 3) := by decide +kernel
theorem dX7_takeBack_11 : decode cX7_takeBack 11 = .ok (.invokestatic 38, 3) := by decide +kernel
theorem dX7_takeBack_14 : decode cX7_takeBack 14 = .ok (.aload_n 0, 1) := by decide +kernel
theorem dX7_takeBack_15 : decode cX7_takeBack 15 = .ok (.getfield 15, 3) := by decide +kernel
theorem dX7_takeBack_18 : decode cX7_takeBack 18 = .ok (.iload_n 1, 1) := by decide +kernel
theorem dX7_takeBack_19 : decode cX7_takeBack 19 = .ok (.iconst (-1), 1) := by decide +kernel
theorem dX7_takeBack_20 : decode cX7_takeBack 20 = .ok (.invokestatic 38, 3) := by decide +kernel
theorem dX7_takeBack_23 : decode cX7_takeBack 23 = .ok (.aload_n 0, 1) := by decide +kernel
theorem dX7_takeBack_24 : decode cX7_takeBack 24 = .ok (.getfield 21, 3) := by decide +kernel
theorem dX7_takeBack_27 : decode cX7_takeBack 27 = .ok (.iload_n 1, 1) := by decide +kernel
theorem dX7_takeBack_28 : decode cX7_takeBack 28 = .ok (.aload_n 0, 1) := by decide +kernel
theorem dX7_takeBack_29 : decode cX7_takeBack 29 = .ok (.getfield 21, 3) := by decide +kernel
theorem dX7_takeBack_32 : decode cX7_takeBack 32 = .ok (.iload_n 1, 1) := by decide +kernel
theorem dX7_takeBack_33 : decode cX7_takeBack 33 = .ok (.invokestatic 34, 3) := by decide +kernel
theorem dX7_takeBack_36 : decode cX7_takeBack 36 = .ok (.iconst 1, 1) := by decide +kernel
theorem dX7_takeBack_37 : decode cX7_takeBack 37 = .ok (.iadd, 1) := by decide +kernel
theorem dX7_takeBack_38 : decode cX7_takeBack 38 = .ok (.invokestatic 38, 3) := by decide +kernel
theorem dX7_takeBack_41 : decode cX7_takeBack 41 = .ok (.return_, 1) := by decide +kernel
theorem dX7_traitsOf_0 : decode cX7_traitsOf 0 = .ok (.iconst 0, 1) := by decide +kernel
theorem dX7_traitsOf_1 : decode cX7_traitsOf 1 = .ok (.istore_n 2, 1) := by decide +kernel
theorem dX7_traitsOf_2 : decode cX7_traitsOf 2 = .ok (.iconst 0, 1) := by decide +kernel
theorem dX7_traitsOf_3 : decode cX7_traitsOf 3 = .ok (.istore_n 3, 1) := by decide +kernel
theorem dX7_traitsOf_4 : decode cX7_traitsOf 4 = .ok (.iload_n 3, 1) := by decide +kernel
theorem dX7_traitsOf_5 : decode cX7_traitsOf 5 = .ok (.aload_n 0, 1) := by decide +kernel
theorem dX7_traitsOf_6 : decode cX7_traitsOf 6 = .ok (.getfield 27, 3) := by decide +kernel
theorem dX7_traitsOf_9 : decode cX7_traitsOf 9 = .ok (.if_icmp .ge 20, 3) := by decide +kernel
theorem dX7_traitsOf_12 : decode cX7_traitsOf 12 = .ok (.iload_n 2, 1) := by decide +kernel
theorem dX7_traitsOf_13 : decode cX7_traitsOf 13 = .ok (.aload_n 1, 1) := by decide +kernel
theorem dX7_traitsOf_14 : decode cX7_traitsOf 14 = .ok (.iload_n 3, 1) := by decide +kernel
theorem dX7_traitsOf_15 : decode cX7_traitsOf 15 = .ok (.invokestatic 34, 3) := by decide +kernel
theorem dX7_traitsOf_18 : decode cX7_traitsOf 18 = .ok (.invokestatic 75, 3) := by decide +kernel
theorem dX7_traitsOf_21 : decode cX7_traitsOf 21 = .ok (.iadd, 1) := by decide +kernel
theorem dX7_traitsOf_22 : decode cX7_traitsOf 22 = .ok (.istore_n 2, 1) := by decide +kernel
theorem dX7_traitsOf_23 : decode cX7_traitsOf 23 = .ok (.iinc 3 1, 3) := by decide +kernel
theorem dX7_traitsOf_26 : decode cX7_traitsOf 26 = .ok (.goto (-22), 3) := by decide +kernel
theorem dX7_traitsOf_29 : decode cX7_traitsOf 29 = .ok (.iload_n 2, 1) := by decide +kernel
theorem dX7_traitsOf_30 : decode cX7_traitsOf 30 = .ok (.ireturn, 1) := by decide +kernel
theorem dX7_drawOf_0 : decode cX7_drawOf 0 = .ok (.aload_n 0, 1) := by decide +kernel
theorem dX7_drawOf_1 : decode cX7_drawOf 1 = .ok (.ldc2_w 78, 3) := by decide +kernel
theorem dX7_drawOf_4 : decode cX7_drawOf 4 = .ok (.aload_n 0, 1) := by decide +kernel
theorem dX7_drawOf_5 : decode cX7_drawOf 5 = .ok (.getfield 64, 3) := by decide +kernel
theorem dX7_drawOf_8 : decode cX7_drawOf 8 = .ok (.i2l, 1) := by decide +kernel
theorem dX7_drawOf_9 : decode cX7_drawOf 9 = .ok (.lmul, 1) := by decide +kernel
theorem dX7_drawOf_10 : decode cX7_drawOf 10 = .ok (.ldc2_w 80, 3) := by decide +kernel
theorem dX7_drawOf_13 : decode cX7_drawOf 13 = .ok (.ladd, 1) := by decide +kernel
theorem dX7_drawOf_14 : decode cX7_drawOf 14 = .ok (.ldc2_w 82, 3) := by decide +kernel
theorem dX7_drawOf_17 : decode cX7_drawOf 17 = .ok (.land, 1) := by decide +kernel
theorem dX7_drawOf_18 : decode cX7_drawOf 18 = .ok (.l2i, 1) := by decide +kernel
theorem dX7_drawOf_19 : decode cX7_drawOf 19 = .ok (.putfield 64, 3) := by decide +kernel
theorem dX7_drawOf_22 : decode cX7_drawOf 22 = .ok (.iload_n 1, 1) := by decide +kernel
theorem dX7_drawOf_23 : decode cX7_drawOf 23 = .ok (.ifCond .le 15, 3) := by decide +kernel
theorem dX7_drawOf_26 : decode cX7_drawOf 26 = .ok (.aload_n 0, 1) := by decide +kernel
theorem dX7_drawOf_27 : decode cX7_drawOf 27 = .ok (.getfield 64, 3) := by decide +kernel
theorem dX7_drawOf_30 : decode cX7_drawOf 30 = .ok (.ldc 84, 2) := by decide +kernel
theorem dX7_drawOf_32 : decode cX7_drawOf 32 = .ok (.idiv, 1) := by decide +kernel
theorem dX7_drawOf_33 : decode cX7_drawOf 33 = .ok (.iload_n 1, 1) := by decide +kernel
theorem dX7_drawOf_34 : decode cX7_drawOf 34 = .ok (.irem, 1) := by decide +kernel
theorem dX7_drawOf_35 : decode cX7_drawOf 35 = .ok (.goto 4, 3) := by decide +kernel
theorem dX7_drawOf_38 : decode cX7_drawOf 38 = .ok (.iconst 0, 1) := by decide +kernel
theorem dX7_drawOf_39 : decode cX7_drawOf 39 = .ok (.ireturn, 1) := by decide +kernel
theorem dX8_init_0 : decode cX8_init 0 = .ok (.aload_n 0, 1) := by decide +kernel
theorem dX8_init_1 : decode cX8_init 1 = .ok (.invokespecial 3, 3) := by decide +kernel
theorem dX8_init_4 : decode cX8_init 4 = .ok (.aload_n 0, 1) := by decide +kernel
theorem dX8_init_5 : decode cX8_init 5 = .ok (.bipush 6, 2) := by decide +kernel
theorem dX8_init_7 : decode cX8_init 7 = .ok (.anewarray 9, 3) := by decide +kernel
theorem dX8_init_10 : decode cX8_init 10 = .ok (.putfield 11, 3) := by decide +kernel
theorem dX8_init_13 : decode cX8_init 13 = .ok (.aload_n 0, 1) := by decide +kernel
theorem dX8_init_14 : decode cX8_init 14 = .ok (.sipush 3072, 3) := by decide +kernel
theorem dX8_init_17 : decode cX8_init 17 = .ok (.newarray .int, 2) := by decide +kernel
theorem dX8_init_19 : decode cX8_init 19 = .ok (.putfield 17, 3) := by decide +kernel
theorem dX8_init_22 : decode cX8_init 22 = .ok (.aload_n 0, 1) := by decide +kernel
theorem dX8_init_23 : decode cX8_init 23 = .ok (.sipush 512, 3) := by decide +kernel
theorem dX8_init_26 : decode cX8_init 26 = .ok (.newarray .int, 2) := by decide +kernel
theorem dX8_init_28 : decode cX8_init 28 = .ok (.putfield 21, 3) := by decide +kernel
theorem dX8_init_31 : decode cX8_init 31 = .ok (.aload_n 0, 1) := by decide +kernel
theorem dX8_init_32 : decode cX8_init 32 = .ok (.sipush 512, 3) := by decide +kernel
theorem dX8_init_35 : decode cX8_init 35 = .ok (.newarray .int, 2) := by decide +kernel
theorem dX8_init_37 : decode cX8_init 37 = .ok (.putfield 24, 3) := by decide +kernel
theorem dX8_init_40 : decode cX8_init 40 = .ok (.return_, 1) := by decide +kernel
theorem dX8_read_0 : decode cX8_read 0 = .ok (.aload_n 0, 1) := by decide +kernel
theorem dX8_read_1 : decode cX8_read 1 = .ok (.aload_n 1, 1) := by decide +kernel
theorem dX8_read_2 : decode cX8_read 2 = .ok (.invokevirtual 27, 3) := by decide +kernel
theorem dX8_read_5 : decode cX8_read 5 = .ok (.aload_n 0, 1) := by decide +kernel
theorem dX8_read_6 : decode cX8_read 6 = .ok (.getfield 11, 3) := by decide +kernel
theorem dX8_read_9 : decode cX8_read 9 = .ok (.arraylength, 1) := by decide +kernel
theorem dX8_read_10 : decode cX8_read 10 = .ok (.invokestatic 32, 3) := by decide +kernel
theorem dX8_read_13 : decode cX8_read 13 = .ok (.putfield 38, 3) := by decide +kernel
theorem dX8_read_16 : decode cX8_read 16 = .ok (.iconst 0, 1) := by decide +kernel
theorem dX8_read_17 : decode cX8_read 17 = .ok (.istore_n 2, 1) := by decide +kernel
theorem dX8_read_18 : decode cX8_read 18 = .ok (.iload_n 2, 1) := by decide +kernel
theorem dX8_read_19 : decode cX8_read 19 = .ok (.aload_n 0, 1) := by decide +kernel
theorem dX8_read_20 : decode cX8_read 20 = .ok (.getfield 38, 3) := by decide +kernel
theorem dX8_read_23 : decode cX8_read 23 = .ok (.if_icmp .ge 69, 3) := by decide +kernel
theorem dX8_read_26 : decode cX8_read 26 = .ok (.iload_n 2, 1) := by decide +kernel
theorem dX8_read_27 : decode cX8_read 27 = .ok (.aload_n 0, 1) := by decide +kernel
theorem dX8_read_28 : decode cX8_read 28 = .ok (.getfield 11, 3) := by decide +kernel
theorem dX8_read_31 : decode cX8_read 31 = .ok (.arraylength, 1) := by decide +kernel
theorem dX8_read_32 : decode cX8_read 32 = .ok (.if_icmp .ge 60, 3) := by decide +kernel
theorem dX8_read_35 : decode cX8_read 35 = .ok (.aload_n 1, 1) := by decide +kernel
theorem dX8_read_36 : decode cX8_read 36 = .ok (.iload_n 2, 1) := by decide +kernel
theorem dX8_read_37 : decode cX8_read 37 = .ok (.invokevirtual 42, 3) := by decide +kernel
theorem dX8_read_40 : decode cX8_read 40 = .ok (.astore_n 3, 1) := by decide +kernel
theorem dX8_read_41 : decode cX8_read 41 = .ok (.aload_n 0, 1) := by decide +kernel
theorem dX8_read_42 : decode cX8_read 42 = .ok (.getfield 11, 3) := by decide +kernel
theorem dX8_read_45 : decode cX8_read 45 = .ok (.iload_n 2, 1) := by decide +kernel
theorem dX8_read_46 : decode cX8_read 46 = .ok (.aload_n 3, 1) := by decide +kernel
theorem dX8_read_47 : decode cX8_read 47 = .ok (.aastore, 1) := by decide +kernel
theorem dX8_read_48 : decode cX8_read 48 = .ok (.iconst 0, 1) := by decide +kernel
theorem dX8_read_49 : decode cX8_read 49 = .ok (.istore 4, 2) := by decide +kernel
theorem dX8_read_51 : decode cX8_read 51 = .ok (.iload 4, 2) := by decide +kernel
theorem dX8_read_53 : decode cX8_read 53 = .ok (.sipush 512, 3) := by decide +kernel
theorem dX8_read_56 : decode cX8_read 56 = .ok (.if_icmp .ge 30, 3) := by decide +kernel
theorem dX8_read_59 : decode cX8_read 59 = .ok (.aload_n 0, 1) := by decide +kernel
theorem dX8_read_60 : decode cX8_read 60 = .ok (.getfield 17, 3) := by decide +kernel
theorem dX8_read_63 : decode cX8_read 63 = .ok (.iload_n 2, 1) := by decide +kernel
theorem dX8_read_64 : decode cX8_read 64 = .ok (.sipush 512, 3) := by decide +kernel
theorem dX8_read_67 : decode cX8_read 67 = .ok (.imul, 1) := by decide +kernel
theorem dX8_read_68 : decode cX8_read 68 = .ok (.iload 4, 2) := by decide +kernel
theorem dX8_read_70 : decode cX8_read 70 = .ok (.iadd, 1) := by decide +kernel
theorem dX8_read_71 : decode cX8_read 71 = .ok (.aload_n 3, 1) := by decide +kernel
theorem dX8_read_72 : decode cX8_read 72 = .ok (.iload 4, 2) := by decide +kernel
theorem dX8_read_74 : decode cX8_read 74 = .ok (.invokevirtual 46, 3) := by decide +kernel
theorem dX8_read_77 : decode cX8_read 77 = .ok (.invokestatic 50, 3) := by decide +kernel
theorem dX8_read_80 : decode cX8_read 80 = .ok (.iinc 4 1, 3) := by decide +kernel
theorem dX8_read_83 : decode cX8_read 83 = .ok (.goto (-32), 3) := by decide +kernel
theorem dX8_read_86 : decode cX8_read 86 = .ok (.iinc 2 1, 3) := by decide +kernel
theorem dX8_read_89 : decode cX8_read 89 = .ok (.goto (-71), 3) := by decide +kernel
theorem dX8_read_92 : decode cX8_read 92 = .ok (.return_, 1) := by decide +kernel
theorem dX8_borrowerAt_0 : decode cX8_borrowerAt 0 = .ok (.iload_n 1, 1) := by decide +kernel
theorem dX8_borrowerAt_1 : decode cX8_borrowerAt 1 = .ok (.ifCond .lt 29, 3) := by decide +kernel
theorem dX8_borrowerAt_4 : decode cX8_borrowerAt 4 = .ok (.iload_n 1, 1) := by decide +kernel
theorem dX8_borrowerAt_5 : decode cX8_borrowerAt 5 = .ok (.aload_n 0, 1) := by decide +kernel
theorem dX8_borrowerAt_6 : decode cX8_borrowerAt 6 = .ok (.getfield 38, 3) := by decide +kernel
theorem dX8_borrowerAt_9 : decode cX8_borrowerAt 9 = .ok (.if_icmp .ge 21, 3) := by decide +kernel
theorem dX8_borrowerAt_12 : decode cX8_borrowerAt 12 = .ok (.iload_n 1, 1) := by decide +kernel
theorem dX8_borrowerAt_13 : decode cX8_borrowerAt 13 = .ok (.aload_n 0, 1) := by decide +kernel
theorem dX8_borrowerAt_14 : decode cX8_borrowerAt 14 = .ok (.getfield 11, 3) := by decide +kernel
theorem dX8_borrowerAt_17 : decode cX8_borrowerAt 17 = .ok (.arraylength, 1) := by decide +kernel
theorem dX8_borrowerAt_18 : decode cX8_borrowerAt 18 = .ok (.if_icmp .ge 12, 3) := by decide +kernel
theorem dX8_borrowerAt_21 : decode cX8_borrowerAt 21 = .ok (.aload_n 0, 1) := by decide +kernel
theorem dX8_borrowerAt_22 : decode cX8_borrowerAt 22 = .ok (.getfield 11, 3) := by decide +kernel
theorem dX8_borrowerAt_25 : decode cX8_borrowerAt 25 = .ok (.iload_n 1, 1) := by decide +kernel
theorem dX8_borrowerAt_26 : decode cX8_borrowerAt 26 = .ok (.aaload, 1) := by decide +kernel
theorem dX8_borrowerAt_27 : decode cX8_borrowerAt 27 = .ok (.goto 4, 3) := by decide +kernel
theorem dX8_borrowerAt_30 : decode cX8_borrowerAt 30 = .ok (.aconst_null, 1) := by decide +kernel
theorem dX8_borrowerAt_31 : decode cX8_borrowerAt 31 = .ok (.areturn, 1) := by decide +kernel
theorem dX8_daysOf_0 : decode cX8_daysOf 0 = .ok (.aload_n 0, 1) := by decide +kernel
theorem dX8_daysOf_1 : decode cX8_daysOf 1 = .ok (.iload_n 1, 1) := by decide +kernel
theorem dX8_daysOf_2 : decode cX8_daysOf 2 = .ok (.invokevirtual 54, 3) := by decide +kernel
theorem dX8_daysOf_5 : decode cX8_daysOf 5 = .ok (.astore_n 2, 1) := by decide +kernel
theorem dX8_daysOf_6 : decode cX8_daysOf 6 = .ok (.aload_n 2, 1) := by decide +kernel
theorem dX8_daysOf_7 : decode cX8_daysOf 7 = .ok (.ifnonnull 7, 3) := by decide +kernel
theorem dX8_daysOf_10 : decode cX8_daysOf 10 = .ok (.iconst 1, 1) := by decide +kernel
theorem dX8_daysOf_11 : decode cX8_daysOf 11 = .ok (.goto 7, 3) := by decide +kernel
theorem dX8_daysOf_14 : decode cX8_daysOf 14 = .ok (.aload_n 2, 1) := by decide +kernel
theorem dX8_daysOf_15 : decode cX8_daysOf 15 = .ok (.getfield 57, 3) := by decide +kernel
theorem dX8_daysOf_18 : decode cX8_daysOf 18 = .ok (.ireturn, 1) := by decide +kernel
theorem dX8_after_0 : decode cX8_after 0 = .ok (.iload_n 1, 1) := by decide +kernel
theorem dX8_after_1 : decode cX8_after 1 = .ok (.sipush 512, 3) := by decide +kernel
theorem dX8_after_4 : decode cX8_after 4 = .ok (.imul, 1) := by decide +kernel
theorem dX8_after_5 : decode cX8_after 5 = .ok (.iload_n 2, 1) := by decide +kernel
theorem dX8_after_6 : decode cX8_after 6 = .ok (.iadd, 1) := by decide +kernel
theorem dX8_after_7 : decode cX8_after 7 = .ok (.istore_n 3, 1) := by decide +kernel
theorem dX8_after_8 : decode cX8_after 8 = .ok (.iload_n 3, 1) := by decide +kernel
theorem dX8_after_9 : decode cX8_after 9 = .ok (.ifCond .lt 21, 3) := by decide +kernel
theorem dX8_after_12 : decode cX8_after 12 = .ok (.iload_n 3, 1) := by decide +kernel
theorem dX8_after_13 : decode cX8_after 13 = .ok (.aload_n 0, 1) := by decide +kernel
theorem dX8_after_14 : decode cX8_after 14 = .ok (.getfield 17, 3) := by decide +kernel
theorem dX8_after_17 : decode cX8_after 17 = .ok (.arraylength, 1) := by decide +kernel
theorem dX8_after_18 : decode cX8_after 18 = .ok (.if_icmp .ge 12, 3) := by decide +kernel
theorem dX8_after_21 : decode cX8_after 21 = .ok (.aload_n 0, 1) := by decide +kernel
theorem dX8_after_22 : decode cX8_after 22 = .ok (.getfield 17, 3) := by decide +kernel
theorem dX8_after_25 : decode cX8_after 25 = .ok (.iload_n 3, 1) := by decide +kernel
theorem dX8_after_26 : decode cX8_after 26 = .ok (.iaload, 1) := by decide +kernel
theorem dX8_after_27 : decode cX8_after 27 = .ok (.goto 4, 3) := by decide +kernel
theorem dX8_after_30 : decode cX8_after 30 = .ok (.iconst 0, 1) := by decide +kernel
theorem dX8_after_31 : decode cX8_after 31 = .ok (.ireturn, 1) := by decide +kernel
theorem dX8_endOf_0 : decode cX8_endOf 0 = .ok (.iload_n 2, 1) := by decide +kernel
theorem dX8_endOf_1 : decode cX8_endOf 1 = .ok (.istore_n 3, 1) := by decide +kernel
theorem dX8_endOf_2 : decode cX8_endOf 2 = .ok (.iconst 0, 1) := by decide +kernel
theorem dX8_endOf_3 : decode cX8_endOf 3 = .ok (.istore 4, 2) := by decide +kernel
theorem dX8_endOf_5 : decode cX8_endOf 5 = .ok (.iload 4, 2) := by decide +kernel
theorem dX8_endOf_7 : decode cX8_endOf 7 = .ok (.aload_n 1, 1) := by decide +kernel
theorem dX8_endOf_8 : decode cX8_endOf 8 = .ok (.getfield 60, 3) := by decide +kernel
theorem dX8_endOf_11 : decode cX8_endOf 11 = .ok (.if_icmp .ge 21, 3) := by decide +kernel
theorem dX8_endOf_14 : decode cX8_endOf 14 = .ok (.aload_n 0, 1) := by decide +kernel
theorem dX8_endOf_15 : decode cX8_endOf 15 = .ok (.aload_n 1, 1) := by decide +kernel
theorem dX8_endOf_16 : decode cX8_endOf 16 = .ok (.iload 4, 2) := by decide +kernel
theorem dX8_endOf_18 : decode cX8_endOf 18 = .ok (.invokevirtual 63, 3) := by decide +kernel
theorem dX8_endOf_21 : decode cX8_endOf 21 = .ok (.iload_n 3, 1) := by decide +kernel
theorem dX8_endOf_22 : decode cX8_endOf 22 = .ok (.invokevirtual 66, 3) := by decide +kernel
theorem dX8_endOf_25 : decode cX8_endOf 25 = .ok (.istore_n 3, 1) := by decide +kernel
theorem dX8_endOf_26 : decode cX8_endOf 26 = .ok (.iinc 4 1, 3) := by decide +kernel
theorem dX8_endOf_29 : decode cX8_endOf 29 = .ok (.goto (-24), 3) := by decide +kernel
theorem dX8_endOf_32 : decode cX8_endOf 32 = .ok (.iload_n 3, 1) := by decide +kernel
theorem dX8_endOf_33 : decode cX8_endOf 33 = .ok (.ireturn, 1) := by decide +kernel
theorem dX8_timesUntilBack_0 : decode cX8_timesUntilBack 0 = .ok (.iconst 0, 1) := by decide +kernel
theorem dX8_timesUntilBack_1 : decode cX8_timesUntilBack 1 = .ok (.istore_n 2, 1) := by decide +kernel
theorem dX8_timesUntilBack_2 : decode cX8_timesUntilBack 2 = .ok (.iload_n 2, 1) := by decide +kernel
theorem dX8_timesUntilBack_3 : decode cX8_timesUntilBack 3 = .ok (.sipush 512, 3) := by decide +kernel
theorem dX8_timesUntilBack_6 : decode cX8_timesUntilBack 6 = .ok (.if_icmp .ge 32, 3) := by decide +kernel
theorem dX8_timesUntilBack_9 : decode cX8_timesUntilBack 9 = .ok (.aload_n 0, 1) := by decide +kernel
theorem dX8_timesUntilBack_10 : decode cX8_timesUntilBack 10 = .ok (.getfield 21, 3) := by decide +kernel
theorem dX8_timesUntilBack_13 : decode cX8_timesUntilBack 13 = .ok (.iload_n 2, 1) := by decide +kernel
theorem dX8_timesUntilBack_14 : decode cX8_timesUntilBack 14 = .ok (.aload_n 0, 1) := by decide +kernel
theorem dX8_timesUntilBack_15 : decode cX8_timesUntilBack 15 = .ok (.aload_n 1, 1) := by decide +kernel
theorem dX8_timesUntilBack_16 : decode cX8_timesUntilBack 16 = .ok (.iload_n 2, 1) := by decide +kernel
theorem dX8_timesUntilBack_17 : decode cX8_timesUntilBack 17 = .ok (.invokevirtual 69, 3) := by decide +kernel
theorem dX8_timesUntilBack_20 : decode cX8_timesUntilBack 20 = .ok (.invokestatic 50, 3) := by decide +kernel
theorem dX8_timesUntilBack_23 : decode cX8_timesUntilBack 23 = .ok (.aload_n 0, 1) := by decide +kernel
theorem dX8_timesUntilBack_24 : decode cX8_timesUntilBack 24 = .ok (.getfield 24, 3) := by decide +kernel
theorem dX8_timesUntilBack_27 : decode cX8_timesUntilBack 27 = .ok (.iload_n 2, 1) := by decide +kernel
theorem dX8_timesUntilBack_28 : decode cX8_timesUntilBack 28 = .ok (.iload_n 2, 1) := by decide +kernel
theorem dX8_timesUntilBack_29 : decode cX8_timesUntilBack 29 = .ok (.invokestatic 50, 3) := by decide +kernel
theorem dX8_timesUntilBack_32 : decode cX8_timesUntilBack 32 = .ok (.iinc 2 1, 3) := by decide +kernel
theorem dX8_timesUntilBack_35 : decode cX8_timesUntilBack 35 = .ok (.goto (-33), 3) := by decide +kernel
theorem dX8_timesUntilBack_38 : decode cX8_timesUntilBack 38 = .ok (.iconst 1, 1) := by decide +kernel
theorem dX8_timesUntilBack_39 : decode cX8_timesUntilBack 39 = .ok (.istore_n 2, 1) := by decide +kernel
theorem dX8_timesUntilBack_40 : decode cX8_timesUntilBack 40 = .ok (.iload_n 2, 1) := by decide +kernel
theorem dX8_timesUntilBack_41 : decode cX8_timesUntilBack 41 = .ok (.bipush 60, 2) := by decide +kernel
theorem dX8_timesUntilBack_43 : decode cX8_timesUntilBack 43 = .ok (.if_icmp .gt 18, 3) := by decide +kernel
theorem dX8_timesUntilBack_46 : decode cX8_timesUntilBack 46 = .ok (.aload_n 0, 1) := by decide +kernel
theorem dX8_timesUntilBack_47 : decode cX8_timesUntilBack 47 = .ok (.invokevirtual 73, 3) := by decide +kernel
theorem dX8_timesUntilBack_50 : decode cX8_timesUntilBack 50 = .ok (.ifCond .eq 5, 3) := by decide +kernel
theorem dX8_timesUntilBack_53 : decode cX8_timesUntilBack 53 = .ok (.iload_n 2, 1) := by decide +kernel
theorem dX8_timesUntilBack_54 : decode cX8_timesUntilBack 54 = .ok (.ireturn, 1) := by decide +kernel
theorem dX8_timesUntilBack_55 : decode cX8_timesUntilBack 55 = .ok (.iinc 2 1, 3) := by decide +kernel
theorem dX8_timesUntilBack_58 : decode cX8_timesUntilBack 58 = .ok (.goto (-18), 3) := by decide +kernel
theorem dX8_timesUntilBack_61 : decode cX8_timesUntilBack 61 = .ok (.iconst (-1), 1) := by decide +kernel
theorem dX8_timesUntilBack_62 : decode cX8_timesUntilBack 62 = .ok (.ireturn, 1) := by decide +kernel
theorem dX8_areAllBackAfterOneMore_0 : decode cX8_areAllBackAfterOneMore 0 = .ok (.iconst 1, 1) := by decide +kernel
theorem dX8_areAllBackAfterOneMore_1 : decode cX8_areAllBackAfterOneMore 1 = .ok (.istore_n 1, 1) := by decide +kernel
theorem dX8_areAllBackAfterOneMore_2 : decode cX8_areAllBackAfterOneMore 2 = .ok (.iconst 0, 1) := by decide +kernel
theorem dX8_areAllBackAfterOneMore_3 : decode cX8_areAllBackAfterOneMore 3 = .ok (.istore_n 2, 1) := by decide +kernel
theorem dX8_areAllBackAfterOneMore_4 : decode cX8_areAllBackAfterOneMore 4 = .ok (.iload_n 2, 1) := by decide +kernel
theorem dX8_areAllBackAfterOneMore_5 : decode cX8_areAllBackAfterOneMore 5 = .ok (.sipush 512, 3) := by decide +kernel
theorem dX8_areAllBackAfterOneMore_8 : decode cX8_areAllBackAfterOneMore 8 = .ok (.if_icmp .ge 49, 3) := by decide +kernel
theorem dX8_areAllBackAfterOneMore_11 : decode cX8_areAllBackAfterOneMore 11 = .ok (.aload_n 0, 1) := by decide +kernel
theorem dX8_areAllBackAfterOneMore_12 : decode cX8_areAllBackAfterOneMore 12 = .ok (.getfield 21, 3) := by decide +kernel
theorem dX8_areAllBackAfterOneMore_15 : decode cX8_areAllBackAfterOneMore 15 = .ok (.aload_n 0, 1) := by decide +kernel
theorem dX8_areAllBackAfterOneMore_16 : decode cX8_areAllBackAfterOneMore 16 = .ok (.getfield 24, 3) := by decide +kernel
theorem dX8_areAllBackAfterOneMore_19 : decode cX8_areAllBackAfterOneMore 19 = .ok (.iload_n 2, 1) := by decide +kernel
theorem dX8_areAllBackAfterOneMore_20 : decode cX8_areAllBackAfterOneMore 20 = .ok (.invokestatic 77, 3) := by decide +kernel
theorem dX8_areAllBackAfterOneMore_23 : decode cX8_areAllBackAfterOneMore 23 = .ok (.invokestatic 77, 3) := by decide +kernel
theorem dX8_areAllBackAfterOneMore_26 : decode cX8_areAllBackAfterOneMore 26 = .ok (.istore_n 3, 1) := by decide +kernel
theorem dX8_areAllBackAfterOneMore_27 : decode cX8_areAllBackAfterOneMore 27 = .ok (.aload_n 0, 1) := by decide +kernel
theorem dX8_areAllBackAfterOneMore_28 : decode cX8_areAllBackAfterOneMore 28 = .ok (.getfield 24, 3) := by decide +kernel
theorem dX8_areAllBackAfterOneMore_31 : decode cX8_areAllBackAfterOneMore 31 = .ok (.iload_n 2, 1) := by decide +kernel
theorem dX8_areAllBackAfterOneMore_32 : decode cX8_areAllBackAfterOneMore 32 = .ok (.iload_n 3, 1) := by decide +kernel
theorem dX8_areAllBackAfterOneMore_33 : decode cX8_areAllBackAfterOneMore 33 = .ok (.invokestatic 50, 3) := by decide +kernel
theorem dX8_areAllBackAfterOneMore_36 : decode cX8_areAllBackAfterOneMore 36 = .ok (.iload_n 1, 1) := by decide +kernel
theorem dX8_areAllBackAfterOneMore_37 : decode cX8_areAllBackAfterOneMore 37 = .ok (.ifCond .eq 12, 3) := by decide +kernel
theorem dX8_areAllBackAfterOneMore_40 : decode cX8_areAllBackAfterOneMore 40 = .ok (.iload_n 3, 1) := by decide +kernel
theorem dX8_areAllBackAfterOneMore_41 : decode cX8_areAllBackAfterOneMore 41 = .ok (.iload_n 2, 1) := by decide +kernel
theorem dX8_areAllBackAfterOneMore_42 : decode cX8_areAllBackAfterOneMore 42 = .ok (.if_icmp .ne 7, 3) := by decide +kernel
theorem dX8_areAllBackAfterOneMore_45 : decode cX8_areAllBackAfterOneMore 45 = .ok (.iconst 1, 1) := by decide +kernel
theorem dX8_areAllBackAfterOneMore_46 : decode cX8_areAllBackAfterOneMore 46 = .ok (.goto 4, 3) := by decide +kernel
theorem dX8_areAllBackAfterOneMore_49 : decode cX8_areAllBackAfterOneMore 49 = .ok (.iconst 0, 1) := by decide +kernel
theorem dX8_areAllBackAfterOneMore_50 : decode cX8_areAllBackAfterOneMore 50 = .ok (.istore_n 1, 1) := by decide +kernel
theorem dX8_areAllBackAfterOneMore_51 : decode cX8_areAllBackAfterOneMore 51 = .ok (.iinc 2 1, 3) := by decide +kernel
theorem dX8_areAllBackAfterOneMore_54 : decode cX8_areAllBackAfterOneMore 54 = .ok (.goto (-50), 3) := by decide +kernel
theorem dX8_areAllBackAfterOneMore_57 : decode cX8_areAllBackAfterOneMore 57 = .ok (.iload_n 1, 1) := by decide +kernel
theorem dX8_areAllBackAfterOneMore_58 : decode cX8_areAllBackAfterOneMore 58 = .ok (.ireturn, 1) := by decide +kernel
theorem dX9_init_0 : decode cX9_init 0 = .ok (.aload_n 0, 1) := by decide +kernel
theorem dX9_init_1 : decode cX9_init 1 = .ok (.iload_n 1, 1) := by decide +kernel
theorem dX9_init_2 : decode cX9_init 2 = .ok (.iload_n 2, 1) := by decide +kernel
theorem dX9_init_3 : decode cX9_init 3 = .ok (.iload_n 3, 1) := by decide +kernel
theorem dX9_init_4 : decode cX9_init 4 = .ok (.invokespecial 3, 3) := by decide +kernel
theorem dX9_init_7 : decode cX9_init 7 = .ok (.return_, 1) := by decide +kernel
theorem dX9_kind_0 : decode cX9_kind 0 = .ok (.iconst 2, 1) := by decide +kernel
theorem dX9_kind_1 : decode cX9_kind 1 = .ok (.ireturn, 1) := by decide +kernel
theorem dX9_changed_0 : decode cX9_changed 0 = .ok (.bipush 7, 2) := by decide +kernel
theorem dX9_changed_2 : decode cX9_changed 2 = .ok (.iload_n 1, 1) := by decide +kernel
theorem dX9_changed_3 : decode cX9_changed 3 = .ok (.isub, 1) := by decide +kernel
theorem dX9_changed_4 : decode cX9_changed 4 = .ok (.ireturn, 1) := by decide +kernel
theorem dX10_init_0 : decode cX10_init 0 = .ok (.aload_n 0, 1) := by decide +kernel
theorem dX10_init_1 : decode cX10_init 1 = .ok (.invokespecial 3, 3) := by decide +kernel
theorem dX10_init_4 : decode cX10_init 4 = .ok (.aload_n 0, 1) := by decide +kernel
theorem dX10_init_5 : decode cX10_init 5 = .ok (.sipush 512, 3) := by decide +kernel
theorem dX10_init_8 : decode cX10_init 8 = .ok (.newarray .int, 2) := by decide +kernel
theorem dX10_init_10 : decode cX10_init 10 = .ok (.putfield 9, 3) := by decide +kernel
theorem dX10_init_13 : decode cX10_init 13 = .ok (.aload_n 0, 1) := by decide +kernel
theorem dX10_init_14 : decode cX10_init 14 = .ok (.sipush 512, 3) := by decide +kernel
theorem dX10_init_17 : decode cX10_init 17 = .ok (.newarray .int, 2) := by decide +kernel
theorem dX10_init_19 : decode cX10_init 19 = .ok (.putfield 15, 3) := by decide +kernel
theorem dX10_init_22 : decode cX10_init 22 = .ok (.aload_n 0, 1) := by decide +kernel
theorem dX10_init_23 : decode cX10_init 23 = .ok (.sipush 512, 3) := by decide +kernel
theorem dX10_init_26 : decode cX10_init 26 = .ok (.newarray .int, 2) := by decide +kernel
theorem dX10_init_28 : decode cX10_init 28 = .ok (.putfield 18, 3) := by decide +kernel
theorem dX10_init_31 : decode cX10_init 31 = .ok (.aload_n 0, 1) := by decide +kernel
theorem dX10_init_32 : decode cX10_init 32 = .ok (.bipush 6, 2) := by decide +kernel
theorem dX10_init_34 : decode cX10_init 34 = .ok (.newarray .int, 2) := by decide +kernel
theorem dX10_init_36 : decode cX10_init 36 = .ok (.putfield 21, 3) := by decide +kernel
theorem dX10_init_39 : decode cX10_init 39 = .ok (.aload_n 0, 1) := by decide +kernel
theorem dX10_init_40 : decode cX10_init 40 = .ok (.bipush 6, 2) := by decide +kernel
theorem dX10_init_42 : decode cX10_init 42 = .ok (.newarray .int, 2) := by decide +kernel
theorem dX10_init_44 : decode cX10_init 44 = .ok (.putfield 24, 3) := by decide +kernel
theorem dX10_init_47 : decode cX10_init 47 = .ok (.aload_n 0, 1) := by decide +kernel
theorem dX10_init_48 : decode cX10_init 48 = .ok (.iconst (-1), 1) := by decide +kernel
theorem dX10_init_49 : decode cX10_init 49 = .ok (.putfield 27, 3) := by decide +kernel
theorem dX10_init_52 : decode cX10_init 52 = .ok (.aload_n 0, 1) := by decide +kernel
theorem dX10_init_53 : decode cX10_init 53 = .ok (.aload_n 1, 1) := by decide +kernel
theorem dX10_init_54 : decode cX10_init 54 = .ok (.putfield 31, 3) := by decide +kernel
theorem dX10_init_57 : decode cX10_init 57 = .ok (.aload_n 0, 1) := by decide +kernel
theorem dX10_init_58 : decode cX10_init 58 = .ok (.iload_n 2, 1) := by decide +kernel
theorem dX10_init_59 : decode cX10_init 59 = .ok (.putfield 35, 3) := by decide +kernel
theorem dX10_init_62 : decode cX10_init 62 = .ok (.return_, 1) := by decide +kernel
theorem dX10_forget_0 : decode cX10_forget 0 = .ok (.aload_n 0, 1) := by decide +kernel
theorem dX10_forget_1 : decode cX10_forget 1 = .ok (.iconst (-1), 1) := by decide +kernel
theorem dX10_forget_2 : decode cX10_forget 2 = .ok (.putfield 27, 3) := by decide +kernel
theorem dX10_forget_5 : decode cX10_forget 5 = .ok (.return_, 1) := by decide +kernel
theorem dX10_costOf_0 : decode cX10_costOf 0 = .ok (.aload_n 0, 1) := by decide +kernel
theorem dX10_costOf_1 : decode cX10_costOf 1 = .ok (.getfield 9, 3) := by decide +kernel
theorem dX10_costOf_4 : decode cX10_costOf 4 = .ok (.iload_n 1, 1) := by decide +kernel
theorem dX10_costOf_5 : decode cX10_costOf 5 = .ok (.invokestatic 39, 3) := by decide +kernel
theorem dX10_costOf_8 : decode cX10_costOf 8 = .ok (.ireturn, 1) := by decide +kernel
theorem dX10_firstTo_0 : decode cX10_firstTo 0 = .ok (.aload_n 0, 1) := by decide +kernel
theorem dX10_firstTo_1 : decode cX10_firstTo 1 = .ok (.getfield 15, 3) := by decide +kernel
theorem dX10_firstTo_4 : decode cX10_firstTo 4 = .ok (.iload_n 1, 1) := by decide +kernel
theorem dX10_firstTo_5 : decode cX10_firstTo 5 = .ok (.invokestatic 39, 3) := by decide +kernel
theorem dX10_firstTo_8 : decode cX10_firstTo 8 = .ok (.ireturn, 1) := by decide +kernel
theorem dX10_searchFrom_0 : decode cX10_searchFrom 0 = .ok (.iload_n 1, 1) := by decide +kernel
theorem dX10_searchFrom_1 : decode cX10_searchFrom 1 = .ok (.aload_n 0, 1) := by decide +kernel
theorem dX10_searchFrom_2 : decode cX10_searchFrom 2 = .ok (.getfield 27, 3) := by decide +kernel
theorem dX10_searchFrom_5 : decode cX10_searchFrom 5 = .ok (.if_icmp .ne 4, 3) := by decide +kernel
theorem dX10_searchFrom_8 : decode cX10_searchFrom 8 = .ok (.return_, 1) := by decide +kernel
theorem dX10_searchFrom_9 : decode cX10_searchFrom 9 = .ok (.aload_n 0, 1) := by decide +kernel
theorem dX10_searchFrom_10 : decode cX10_searchFrom 10 = .ok (.iload_n 1, 1) := by decide +kernel
theorem dX10_searchFrom_11 : decode cX10_searchFrom 11 = .ok (.invokevirtual 43, 3) := by decide +kernel
theorem dX10_searchFrom_14 : decode cX10_searchFrom 14 = .ok (.iconst 0, 1) := by decide +kernel
theorem dX10_searchFrom_15 : decode cX10_searchFrom 15 = .ok (.istore_n 2, 1) := by decide +kernel
theorem dX10_searchFrom_16 : decode cX10_searchFrom 16 = .ok (.iconst 1, 1) := by decide +kernel
theorem dX10_searchFrom_17 : decode cX10_searchFrom 17 = .ok (.istore_n 3, 1) := by decide +kernel
theorem dX10_searchFrom_18 : decode cX10_searchFrom 18 = .ok (.iload_n 3, 1) := by decide +kernel
theorem dX10_searchFrom_19 : decode cX10_searchFrom 19 = .ok (.sipush 2560, 3) := by decide +kernel
theorem dX10_searchFrom_22 : decode cX10_searchFrom 22 = .ok (.if_icmp .gt 66, 3) := by decide +kernel
theorem dX10_searchFrom_25 : decode cX10_searchFrom 25 = .ok (.iload_n 3, 1) := by decide +kernel
theorem dX10_searchFrom_26 : decode cX10_searchFrom 26 = .ok (.iload_n 2, 1) := by decide +kernel
theorem dX10_searchFrom_27 : decode cX10_searchFrom 27 = .ok (.iconst 5, 1) := by decide +kernel
theorem dX10_searchFrom_28 : decode cX10_searchFrom 28 = .ok (.iadd, 1) := by decide +kernel
theorem dX10_searchFrom_29 : decode cX10_searchFrom 29 = .ok (.if_icmp .gt 59, 3) := by decide +kernel
theorem dX10_searchFrom_32 : decode cX10_searchFrom 32 = .ok (.aload_n 0, 1) := by decide +kernel
theorem dX10_searchFrom_33 : decode cX10_searchFrom 33 = .ok (.getfield 47, 3) := by decide +kernel
theorem dX10_searchFrom_36 : decode cX10_searchFrom 36 = .ok (.istore 4, 2) := by decide +kernel
theorem dX10_searchFrom_38 : decode cX10_searchFrom 38 = .ok (.aload_n 0, 1) := by decide +kernel
theorem dX10_searchFrom_39 : decode cX10_searchFrom 39 = .ok (.iload_n 3, 1) := by decide +kernel
theorem dX10_searchFrom_40 : decode cX10_searchFrom 40 = .ok (.invokevirtual 50, 3) := by decide +kernel
theorem dX10_searchFrom_43 : decode cX10_searchFrom 43 = .ok (.aload_n 0, 1) := by decide +kernel
theorem dX10_searchFrom_44 : decode cX10_searchFrom 44 = .ok (.getfield 21, 3) := by decide +kernel
theorem dX10_searchFrom_47 : decode cX10_searchFrom 47 = .ok (.iload_n 3, 1) := by decide +kernel
theorem dX10_searchFrom_48 : decode cX10_searchFrom 48 = .ok (.bipush 6, 2) := by decide +kernel
theorem dX10_searchFrom_50 : decode cX10_searchFrom 50 = .ok (.irem, 1) := by decide +kernel
theorem dX10_searchFrom_51 : decode cX10_searchFrom 51 = .ok (.iload 4, 2) := by decide +kernel
theorem dX10_searchFrom_53 : decode cX10_searchFrom 53 = .ok (.invokestatic 53, 3) := by decide +kernel
theorem dX10_searchFrom_56 : decode cX10_searchFrom 56 = .ok (.aload_n 0, 1) := by decide +kernel
theorem dX10_searchFrom_57 : decode cX10_searchFrom 57 = .ok (.getfield 24, 3) := by decide +kernel
theorem dX10_searchFrom_60 : decode cX10_searchFrom 60 = .ok (.iload_n 3, 1) := by decide +kernel
theorem dX10_searchFrom_61 : decode cX10_searchFrom 61 = .ok (.bipush 6, 2) := by decide +kernel
theorem dX10_searchFrom_63 : decode cX10_searchFrom 63 = .ok (.irem, 1) := by decide +kernel
theorem dX10_searchFrom_64 : decode cX10_searchFrom 64 = .ok (.aload_n 0, 1) := by decide +kernel
theorem dX10_searchFrom_65 : decode cX10_searchFrom 65 = .ok (.getfield 47, 3) := by decide +kernel
theorem dX10_searchFrom_68 : decode cX10_searchFrom 68 = .ok (.invokestatic 53, 3) := by decide +kernel
theorem dX10_searchFrom_71 : decode cX10_searchFrom 71 = .ok (.aload_n 0, 1) := by decide +kernel
theorem dX10_searchFrom_72 : decode cX10_searchFrom 72 = .ok (.getfield 47, 3) := by decide +kernel
theorem dX10_searchFrom_75 : decode cX10_searchFrom 75 = .ok (.iload 4, 2) := by decide +kernel
theorem dX10_searchFrom_77 : decode cX10_searchFrom 77 = .ok (.if_icmp .le 5, 3) := by decide +kernel
theorem dX10_searchFrom_80 : decode cX10_searchFrom 80 = .ok (.iload_n 3, 1) := by decide +kernel
theorem dX10_searchFrom_81 : decode cX10_searchFrom 81 = .ok (.istore_n 2, 1) := by decide +kernel
theorem dX10_searchFrom_82 : decode cX10_searchFrom 82 = .ok (.iinc 3 1, 3) := by decide +kernel
theorem dX10_searchFrom_85 : decode cX10_searchFrom 85 = .ok (.goto (-67), 3) := by decide +kernel
theorem dX10_searchFrom_88 : decode cX10_searchFrom 88 = .ok (.return_, 1) := by decide +kernel
theorem dX10_begin_0 : decode cX10_begin 0 = .ok (.aload_n 0, 1) := by decide +kernel
theorem dX10_begin_1 : decode cX10_begin 1 = .ok (.iload_n 1, 1) := by decide +kernel
theorem dX10_begin_2 : decode cX10_begin 2 = .ok (.putfield 27, 3) := by decide +kernel
theorem dX10_begin_5 : decode cX10_begin 5 = .ok (.aload_n 0, 1) := by decide +kernel
theorem dX10_begin_6 : decode cX10_begin 6 = .ok (.getfield 9, 3) := by decide +kernel
theorem dX10_begin_9 : decode cX10_begin 9 = .ok (.iconst (-1), 1) := by decide +kernel
theorem dX10_begin_10 : decode cX10_begin 10 = .ok (.invokestatic 57, 3) := by decide +kernel
theorem dX10_begin_13 : decode cX10_begin 13 = .ok (.aload_n 0, 1) := by decide +kernel
theorem dX10_begin_14 : decode cX10_begin 14 = .ok (.getfield 15, 3) := by decide +kernel
theorem dX10_begin_17 : decode cX10_begin 17 = .ok (.iconst (-1), 1) := by decide +kernel
theorem dX10_begin_18 : decode cX10_begin 18 = .ok (.invokestatic 57, 3) := by decide +kernel
theorem dX10_begin_21 : decode cX10_begin 21 = .ok (.aload_n 0, 1) := by decide +kernel
theorem dX10_begin_22 : decode cX10_begin 22 = .ok (.getfield 21, 3) := by decide +kernel
theorem dX10_begin_25 : decode cX10_begin 25 = .ok (.iconst 0, 1) := by decide +kernel
theorem dX10_begin_26 : decode cX10_begin 26 = .ok (.invokestatic 57, 3) := by decide +kernel
theorem dX10_begin_29 : decode cX10_begin 29 = .ok (.aload_n 0, 1) := by decide +kernel
theorem dX10_begin_30 : decode cX10_begin 30 = .ok (.getfield 24, 3) := by decide +kernel
theorem dX10_begin_33 : decode cX10_begin 33 = .ok (.iconst 0, 1) := by decide +kernel
theorem dX10_begin_34 : decode cX10_begin 34 = .ok (.invokestatic 57, 3) := by decide +kernel
theorem dX10_begin_37 : decode cX10_begin 37 = .ok (.aload_n 0, 1) := by decide +kernel
theorem dX10_begin_38 : decode cX10_begin 38 = .ok (.getfield 9, 3) := by decide +kernel
theorem dX10_begin_41 : decode cX10_begin 41 = .ok (.iload_n 1, 1) := by decide +kernel
theorem dX10_begin_42 : decode cX10_begin 42 = .ok (.iconst 0, 1) := by decide +kernel
theorem dX10_begin_43 : decode cX10_begin 43 = .ok (.invokestatic 53, 3) := by decide +kernel
theorem dX10_begin_46 : decode cX10_begin 46 = .ok (.aload_n 0, 1) := by decide +kernel
theorem dX10_begin_47 : decode cX10_begin 47 = .ok (.getfield 18, 3) := by decide +kernel
theorem dX10_begin_50 : decode cX10_begin 50 = .ok (.iconst 0, 1) := by decide +kernel
theorem dX10_begin_51 : decode cX10_begin 51 = .ok (.iload_n 1, 1) := by decide +kernel
theorem dX10_begin_52 : decode cX10_begin 52 = .ok (.invokestatic 53, 3) := by decide +kernel
theorem dX10_begin_55 : decode cX10_begin 55 = .ok (.aload_n 0, 1) := by decide +kernel
theorem dX10_begin_56 : decode cX10_begin 56 = .ok (.getfield 24, 3) := by decide +kernel
theorem dX10_begin_59 : decode cX10_begin 59 = .ok (.iconst 0, 1) := by decide +kernel
theorem dX10_begin_60 : decode cX10_begin 60 = .ok (.iconst 1, 1) := by decide +kernel
theorem dX10_begin_61 : decode cX10_begin 61 = .ok (.invokestatic 53, 3) := by decide +kernel
theorem dX10_begin_64 : decode cX10_begin 64 = .ok (.aload_n 0, 1) := by decide +kernel
theorem dX10_begin_65 : decode cX10_begin 65 = .ok (.iconst 1, 1) := by decide +kernel
theorem dX10_begin_66 : decode cX10_begin 66 = .ok (.putfield 47, 3) := by decide +kernel
theorem dX10_begin_69 : decode cX10_begin 69 = .ok (.return_, 1) := by decide +kernel
theorem dX10_addAllOf_0 : decode cX10_addAllOf 0 = .ok (.iconst 0, 1) := by decide +kernel
theorem dX10_addAllOf_1 : decode cX10_addAllOf 1 = .ok (.istore_n 2, 1) := by decide +kernel
theorem dX10_addAllOf_2 : decode cX10_addAllOf 2 = .ok (.iload_n 2, 1) := by decide +kernel
theorem dX10_addAllOf_3 : decode cX10_addAllOf 3 = .ok (.aload_n 0, 1) := by decide +kernel
theorem dX10_addAllOf_4 : decode cX10_addAllOf 4 = .ok (.getfield 31, 3) := by decide +kernel
theorem dX10_addAllOf_7 : decode cX10_addAllOf 7 = .ok (.getfield 61, 3) := by decide +kernel
theorem dX10_addAllOf_10 : decode cX10_addAllOf 10 = .ok (.if_icmp .ge 92, 3) := by decide +kernel
theorem dX10_addAllOf_13 : decode cX10_addAllOf 13 = .ok (.aload_n 0, 1) := by decide +kernel
theorem dX10_addAllOf_14 : decode cX10_addAllOf 14 = .ok (.getfield 35, 3) := by decide +kernel
theorem dX10_addAllOf_17 : decode cX10_addAllOf 17 = .ok (.ifCond .eq 14, 3) := by decide +kernel
theorem dX10_addAllOf_20 : decode cX10_addAllOf 20 = .ok (.aload_n 0, 1) := by decide +kernel
theorem dX10_addAllOf_21 : decode cX10_addAllOf 21 = .ok (.getfield 31, 3) := by decide +kernel
theorem dX10_addAllOf_24 : decode cX10_addAllOf 24 = .ok (.iload_n 2, 1) := by decide +kernel
theorem dX10_addAllOf_25 : decode cX10_addAllOf 25 = .ok (.invokevirtual 66, 3) := by decide +kernel
theorem dX10_addAllOf_28 : decode cX10_addAllOf 28 = .ok (.goto 4, 3) := by decide +kernel
theorem dX10_addAllOf_31 : decode cX10_addAllOf 31 = .ok (.iconst 1, 1) := by decide +kernel
theorem dX10_addAllOf_32 : decode cX10_addAllOf 32 = .ok (.istore_n 3, 1) := by decide +kernel
theorem dX10_addAllOf_33 : decode cX10_addAllOf 33 = .ok (.iload_n 3, 1) := by decide +kernel
theorem dX10_addAllOf_34 : decode cX10_addAllOf 34 = .ok (.iload_n 1, 1) := by decide +kernel
theorem dX10_addAllOf_35 : decode cX10_addAllOf 35 = .ok (.if_icmp .gt 61, 3) := by decide +kernel
theorem dX10_addAllOf_38 : decode cX10_addAllOf 38 = .ok (.iload_n 1, 1) := by decide +kernel
theorem dX10_addAllOf_39 : decode cX10_addAllOf 39 = .ok (.iload_n 3, 1) := by decide +kernel
theorem dX10_addAllOf_40 : decode cX10_addAllOf 40 = .ok (.isub, 1) := by decide +kernel
theorem dX10_addAllOf_41 : decode cX10_addAllOf 41 = .ok (.bipush 6, 2) := by decide +kernel
theorem dX10_addAllOf_43 : decode cX10_addAllOf 43 = .ok (.irem, 1) := by decide +kernel
theorem dX10_addAllOf_44 : decode cX10_addAllOf 44 = .ok (.istore 4, 2) := by decide +kernel
theorem dX10_addAllOf_46 : decode cX10_addAllOf 46 = .ok (.aload_n 0, 1) := by decide +kernel
theorem dX10_addAllOf_47 : decode cX10_addAllOf 47 = .ok (.getfield 24, 3) := by decide +kernel
theorem dX10_addAllOf_50 : decode cX10_addAllOf 50 = .ok (.iload 4, 2) := by decide +kernel
theorem dX10_addAllOf_52 : decode cX10_addAllOf 52 = .ok (.invokestatic 39, 3) := by decide +kernel
theorem dX10_addAllOf_55 : decode cX10_addAllOf 55 = .ok (.istore 5, 2) := by decide +kernel
theorem dX10_addAllOf_57 : decode cX10_addAllOf 57 = .ok (.aload_n 0, 1) := by decide +kernel
theorem dX10_addAllOf_58 : decode cX10_addAllOf 58 = .ok (.getfield 21, 3) := by decide +kernel
theorem dX10_addAllOf_61 : decode cX10_addAllOf 61 = .ok (.iload 4, 2) := by decide +kernel
theorem dX10_addAllOf_63 : decode cX10_addAllOf 63 = .ok (.invokestatic 39, 3) := by decide +kernel
theorem dX10_addAllOf_66 : decode cX10_addAllOf 66 = .ok (.istore 6, 2) := by decide +kernel
theorem dX10_addAllOf_68 : decode cX10_addAllOf 68 = .ok (.iload 6, 2) := by decide +kernel
theorem dX10_addAllOf_70 : decode cX10_addAllOf 70 = .ok (.iload 5, 2) := by decide +kernel
theorem dX10_addAllOf_72 : decode cX10_addAllOf 72 = .ok (.if_icmp .ge 24, 3) := by decide +kernel
theorem dX10_addAllOf_75 : decode cX10_addAllOf 75 = .ok (.aload_n 0, 1) := by decide +kernel
theorem dX10_addAllOf_76 : decode cX10_addAllOf 76 = .ok (.aload_n 0, 1) := by decide +kernel
theorem dX10_addAllOf_77 : decode cX10_addAllOf 77 = .ok (.getfield 18, 3) := by decide +kernel
theorem dX10_addAllOf_80 : decode cX10_addAllOf 80 = .ok (.iload 6, 2) := by decide +kernel
theorem dX10_addAllOf_82 : decode cX10_addAllOf 82 = .ok (.invokestatic 39, 3) := by decide +kernel
theorem dX10_addAllOf_85 : decode cX10_addAllOf 85 = .ok (.iload_n 2, 1) := by decide +kernel
theorem dX10_addAllOf_86 : decode cX10_addAllOf 86 = .ok (.iload_n 1, 1) := by decide +kernel
theorem dX10_addAllOf_87 : decode cX10_addAllOf 87 = .ok (.invokevirtual 70, 3) := by decide +kernel
theorem dX10_addAllOf_90 : decode cX10_addAllOf 90 = .ok (.iinc 6 1, 3) := by decide +kernel
theorem dX10_addAllOf_93 : decode cX10_addAllOf 93 = .ok (.goto (-25), 3) := by decide +kernel
theorem dX10_addAllOf_96 : decode cX10_addAllOf 96 = .ok (.iinc 2 1, 3) := by decide +kernel
theorem dX10_addAllOf_99 : decode cX10_addAllOf 99 = .ok (.goto (-97), 3) := by decide +kernel
theorem dX10_addAllOf_102 : decode cX10_addAllOf 102 = .ok (.return_, 1) := by decide +kernel
theorem dX10_addLoan_0 : decode cX10_addLoan 0 = .ok (.aload_n 0, 1) := by decide +kernel
theorem dX10_addLoan_1 : decode cX10_addLoan 1 = .ok (.getfield 31, 3) := by decide +kernel
theorem dX10_addLoan_4 : decode cX10_addLoan 4 = .ok (.iload_n 2, 1) := by decide +kernel
theorem dX10_addLoan_5 : decode cX10_addLoan 5 = .ok (.iload_n 1, 1) := by decide +kernel
theorem dX10_addLoan_6 : decode cX10_addLoan 6 = .ok (.invokevirtual 74, 3) := by decide +kernel
theorem dX10_addLoan_9 : decode cX10_addLoan 9 = .ok (.istore 4, 2) := by decide +kernel
theorem dX10_addLoan_11 : decode cX10_addLoan 11 = .ok (.iload_n 1, 1) := by decide +kernel
theorem dX10_addLoan_12 : decode cX10_addLoan 12 = .ok (.aload_n 0, 1) := by decide +kernel
theorem dX10_addLoan_13 : decode cX10_addLoan 13 = .ok (.getfield 27, 3) := by decide +kernel
theorem dX10_addLoan_16 : decode cX10_addLoan 16 = .ok (.if_icmp .ne 7, 3) := by decide +kernel
theorem dX10_addLoan_19 : decode cX10_addLoan 19 = .ok (.iload_n 2, 1) := by decide +kernel
theorem dX10_addLoan_20 : decode cX10_addLoan 20 = .ok (.goto 11, 3) := by decide +kernel
theorem dX10_addLoan_23 : decode cX10_addLoan 23 = .ok (.aload_n 0, 1) := by decide +kernel
theorem dX10_addLoan_24 : decode cX10_addLoan 24 = .ok (.getfield 15, 3) := by decide +kernel
theorem dX10_addLoan_27 : decode cX10_addLoan 27 = .ok (.iload_n 1, 1) := by decide +kernel
theorem dX10_addLoan_28 : decode cX10_addLoan 28 = .ok (.invokestatic 39, 3) := by decide +kernel
theorem dX10_addLoan_31 : decode cX10_addLoan 31 = .ok (.istore 5, 2) := by decide +kernel
theorem dX10_addLoan_33 : decode cX10_addLoan 33 = .ok (.aload_n 0, 1) := by decide +kernel
theorem dX10_addLoan_34 : decode cX10_addLoan 34 = .ok (.getfield 9, 3) := by decide +kernel
theorem dX10_addLoan_37 : decode cX10_addLoan 37 = .ok (.iload 4, 2) := by decide +kernel
theorem dX10_addLoan_39 : decode cX10_addLoan 39 = .ok (.invokestatic 39, 3) := by decide +kernel
theorem dX10_addLoan_42 : decode cX10_addLoan 42 = .ok (.istore 6, 2) := by decide +kernel
theorem dX10_addLoan_44 : decode cX10_addLoan 44 = .ok (.iload 6, 2) := by decide +kernel
theorem dX10_addLoan_46 : decode cX10_addLoan 46 = .ok (.iconst (-1), 1) := by decide +kernel
theorem dX10_addLoan_47 : decode cX10_addLoan 47 = .ok (.if_icmp .ne 50, 3) := by decide +kernel
theorem dX10_addLoan_50 : decode cX10_addLoan 50 = .ok (.aload_n 0, 1) := by decide +kernel
theorem dX10_addLoan_51 : decode cX10_addLoan 51 = .ok (.getfield 9, 3) := by decide +kernel
theorem dX10_addLoan_54 : decode cX10_addLoan 54 = .ok (.iload 4, 2) := by decide +kernel
theorem dX10_addLoan_56 : decode cX10_addLoan 56 = .ok (.iload_n 3, 1) := by decide +kernel
theorem dX10_addLoan_57 : decode cX10_addLoan 57 = .ok (.invokestatic 53, 3) := by decide +kernel
theorem dX10_addLoan_60 : decode cX10_addLoan 60 = .ok (.aload_n 0, 1) := by decide +kernel
theorem dX10_addLoan_61 : decode cX10_addLoan 61 = .ok (.getfield 15, 3) := by decide +kernel
theorem dX10_addLoan_64 : decode cX10_addLoan 64 = .ok (.iload 4, 2) := by decide +kernel
theorem dX10_addLoan_66 : decode cX10_addLoan 66 = .ok (.iload 5, 2) := by decide +kernel
theorem dX10_addLoan_68 : decode cX10_addLoan 68 = .ok (.invokestatic 53, 3) := by decide +kernel
theorem dX10_addLoan_71 : decode cX10_addLoan 71 = .ok (.aload_n 0, 1) := by decide +kernel
theorem dX10_addLoan_72 : decode cX10_addLoan 72 = .ok (.getfield 18, 3) := by decide +kernel
theorem dX10_addLoan_75 : decode cX10_addLoan 75 = .ok (.aload_n 0, 1) := by decide +kernel
theorem dX10_addLoan_76 : decode cX10_addLoan 76 = .ok (.getfield 47, 3) := by decide +kernel
theorem dX10_addLoan_79 : decode cX10_addLoan 79 = .ok (.iload 4, 2) := by decide +kernel
theorem dX10_addLoan_81 : decode cX10_addLoan 81 = .ok (.invokestatic 53, 3) := by decide +kernel
theorem dX10_addLoan_84 : decode cX10_addLoan 84 = .ok (.aload_n 0, 1) := by decide +kernel
theorem dX10_addLoan_85 : decode cX10_addLoan 85 = .ok (.dup, 1) := by decide +kernel
theorem dX10_addLoan_86 : decode cX10_addLoan 86 = .ok (.getfield 47, 3) := by decide +kernel
theorem dX10_addLoan_89 : decode cX10_addLoan 89 = .ok (.iconst 1, 1) := by decide +kernel
theorem dX10_addLoan_90 : decode cX10_addLoan 90 = .ok (.iadd, 1) := by decide +kernel
theorem dX10_addLoan_91 : decode cX10_addLoan 91 = .ok (.putfield 47, 3) := by decide +kernel
theorem dX10_addLoan_94 : decode cX10_addLoan 94 = .ok (.goto 34, 3) := by decide +kernel
theorem dX10_addLoan_97 : decode cX10_addLoan 97 = .ok (.iload 6, 2) := by decide +kernel
theorem dX10_addLoan_99 : decode cX10_addLoan 99 = .ok (.iload_n 3, 1) := by decide +kernel
theorem dX10_addLoan_100 : decode cX10_addLoan 100 = .ok (.if_icmp .ne 28, 3) := by decide +kernel
theorem dX10_addLoan_103 : decode cX10_addLoan 103 = .ok (.iload 5, 2) := by decide +kernel
theorem dX10_addLoan_105 : decode cX10_addLoan 105 = .ok (.aload_n 0, 1) := by decide +kernel
theorem dX10_addLoan_106 : decode cX10_addLoan 106 = .ok (.getfield 15, 3) := by decide +kernel
theorem dX10_addLoan_109 : decode cX10_addLoan 109 = .ok (.iload 4, 2) := by decide +kernel
theorem dX10_addLoan_111 : decode cX10_addLoan 111 = .ok (.invokestatic 39, 3) := by decide +kernel
theorem dX10_addLoan_114 : decode cX10_addLoan 114 = .ok (.if_icmp .ge 14, 3) := by decide +kernel
theorem dX10_addLoan_117 : decode cX10_addLoan 117 = .ok (.aload_n 0, 1) := by decide +kernel
theorem dX10_addLoan_118 : decode cX10_addLoan 118 = .ok (.getfield 15, 3) := by decide +kernel
theorem dX10_addLoan_121 : decode cX10_addLoan 121 = .ok (.iload 4, 2) := by decide +kernel
theorem dX10_addLoan_123 : decode cX10_addLoan 123 = .ok (.iload 5, 2) := by decide +kernel
theorem dX10_addLoan_125 : decode cX10_addLoan 125 = .ok (.invokestatic 53, 3) := by decide +kernel
theorem dX10_addLoan_128 : decode cX10_addLoan 128 = .ok (.return_, 1) := by decide +kernel
theorem dX11_init_0 : decode cX11_init 0 = .ok (.aload_n 0, 1) := by decide +kernel
theorem dX11_init_1 : decode cX11_init 1 = .ok (.invokespecial 1, 3) := by decide +kernel
theorem dX11_init_4 : decode cX11_init 4 = .ok (.aload_n 0, 1) := by decide +kernel
theorem dX11_init_5 : decode cX11_init 5 = .ok (.new 7, 3) := by decide +kernel
theorem dX11_init_8 : decode cX11_init 8 = .ok (.dup, 1) := by decide +kernel
theorem dX11_init_9 : decode cX11_init 9 = .ok (.invokespecial 9, 3) := by decide +kernel
theorem dX11_init_12 : decode cX11_init 12 = .ok (.putfield 10, 3) := by decide +kernel
theorem dX11_init_15 : decode cX11_init 15 = .ok (.aload_n 0, 1) := by decide +kernel
theorem dX11_init_16 : decode cX11_init 16 = .ok (.new 16, 3) := by decide +kernel
theorem dX11_init_19 : decode cX11_init 19 = .ok (.dup, 1) := by decide +kernel
theorem dX11_init_20 : decode cX11_init 20 = .ok (.invokespecial 18, 3) := by decide +kernel
theorem dX11_init_23 : decode cX11_init 23 = .ok (.putfield 19, 3) := by decide +kernel
theorem dX11_init_26 : decode cX11_init 26 = .ok (.aload_n 0, 1) := by decide +kernel
theorem dX11_init_27 : decode cX11_init 27 = .ok (.new 23, 3) := by decide +kernel
theorem dX11_init_30 : decode cX11_init 30 = .ok (.dup, 1) := by decide +kernel
theorem dX11_init_31 : decode cX11_init 31 = .ok (.invokespecial 25, 3) := by decide +kernel
theorem dX11_init_34 : decode cX11_init 34 = .ok (.putfield 26, 3) := by decide +kernel
theorem dX11_init_37 : decode cX11_init 37 = .ok (.aload_n 0, 1) := by decide +kernel
theorem dX11_init_38 : decode cX11_init 38 = .ok (.new 23, 3) := by decide +kernel
theorem dX11_init_41 : decode cX11_init 41 = .ok (.dup, 1) := by decide +kernel
theorem dX11_init_42 : decode cX11_init 42 = .ok (.invokespecial 25, 3) := by decide +kernel
theorem dX11_init_45 : decode cX11_init 45 = .ok (.putfield 30, 3) := by decide +kernel
theorem dX11_init_48 : decode cX11_init 48 = .ok (.aload_n 0, 1) := by decide +kernel
theorem dX11_init_49 : decode cX11_init 49 = .ok (.new 33, 3) := by decide +kernel
theorem dX11_init_52 : decode cX11_init 52 = .ok (.dup, 1) := by decide +kernel
theorem dX11_init_53 : decode cX11_init 53 = .ok (.aload_n 0, 1) := by decide +kernel
theorem dX11_init_54 : decode cX11_init 54 = .ok (.getfield 19, 3) := by decide +kernel
theorem dX11_init_57 : decode cX11_init 57 = .ok (.iconst 0, 1) := by decide +kernel
theorem dX11_init_58 : decode cX11_init 58 = .ok (.invokespecial 35, 3) := by decide +kernel
theorem dX11_init_61 : decode cX11_init 61 = .ok (.putfield 38, 3) := by decide +kernel
theorem dX11_init_64 : decode cX11_init 64 = .ok (.aload_n 0, 1) := by decide +kernel
theorem dX11_init_65 : decode cX11_init 65 = .ok (.new 33, 3) := by decide +kernel
theorem dX11_init_68 : decode cX11_init 68 = .ok (.dup, 1) := by decide +kernel
theorem dX11_init_69 : decode cX11_init 69 = .ok (.aload_n 0, 1) := by decide +kernel
theorem dX11_init_70 : decode cX11_init 70 = .ok (.getfield 19, 3) := by decide +kernel
theorem dX11_init_73 : decode cX11_init 73 = .ok (.iconst 1, 1) := by decide +kernel
theorem dX11_init_74 : decode cX11_init 74 = .ok (.invokespecial 35, 3) := by decide +kernel
theorem dX11_init_77 : decode cX11_init 77 = .ok (.putfield 42, 3) := by decide +kernel
theorem dX11_init_80 : decode cX11_init 80 = .ok (.aload_n 0, 1) := by decide +kernel
theorem dX11_init_81 : decode cX11_init 81 = .ok (.new 45, 3) := by decide +kernel
theorem dX11_init_84 : decode cX11_init 84 = .ok (.dup, 1) := by decide +kernel
theorem dX11_init_85 : decode cX11_init 85 = .ok (.aload_n 0, 1) := by decide +kernel
theorem dX11_init_86 : decode cX11_init 86 = .ok (.getfield 19, 3) := by decide +kernel
theorem dX11_init_89 : decode cX11_init 89 = .ok (.invokespecial 47, 3) := by decide +kernel
theorem dX11_init_92 : decode cX11_init 92 = .ok (.putfield 50, 3) := by decide +kernel
theorem dX11_init_95 : decode cX11_init 95 = .ok (.aload_n 0, 1) := by decide +kernel
theorem dX11_init_96 : decode cX11_init 96 = .ok (.new 54, 3) := by decide +kernel
theorem dX11_init_99 : decode cX11_init 99 = .ok (.dup, 1) := by decide +kernel
theorem dX11_init_100 : decode cX11_init 100 = .ok (.aload_n 0, 1) := by decide +kernel
theorem dX11_init_101 : decode cX11_init 101 = .ok (.getfield 19, 3) := by decide +kernel
theorem dX11_init_104 : decode cX11_init 104 = .ok (.invokespecial 56, 3) := by decide +kernel
theorem dX11_init_107 : decode cX11_init 107 = .ok (.putfield 57, 3) := by decide +kernel
theorem dX11_init_110 : decode cX11_init 110 = .ok (.return_, 1) := by decide +kernel
theorem dX11_letter_0 : decode cX11_letter 0 = .ok (.iload_n 1, 1) := by decide +kernel
theorem dX11_letter_1 : decode cX11_letter 1 = .ok (.bipush 32, 2) := by decide +kernel
theorem dX11_letter_3 : decode cX11_letter 3 = .ok (.if_icmp .lt 9, 3) := by decide +kernel
theorem dX11_letter_6 : decode cX11_letter 6 = .ok (.iload_n 1, 1) := by decide +kernel
theorem dX11_letter_7 : decode cX11_letter 7 = .ok (.bipush 126, 2) := by decide +kernel
theorem dX11_letter_9 : decode cX11_letter 9 = .ok (.if_icmp .le 6, 3) := by decide +kernel
theorem dX11_letter_12 : decode cX11_letter 12 = .ok (.bipush (-102), 2) := by decide +kernel
theorem dX11_letter_14 : decode cX11_letter 14 = .ok (.ireturn, 1) := by decide +kernel
theorem dX11_letter_15 : decode cX11_letter 15 = .ok (.aload_n 0, 1) := by decide +kernel
theorem dX11_letter_16 : decode cX11_letter 16 = .ok (.getfield 10, 3) := by decide +kernel
theorem dX11_letter_19 : decode cX11_letter 19 = .ok (.getfield 61, 3) := by decide +kernel
theorem dX11_letter_22 : decode cX11_letter 22 = .ok (.bipush 30, 2) := by decide +kernel
theorem dX11_letter_24 : decode cX11_letter 24 = .ok (.if_icmp .lt 6, 3) := by decide +kernel
theorem dX11_letter_27 : decode cX11_letter 27 = .ok (.bipush (-104), 2) := by decide +kernel
theorem dX11_letter_29 : decode cX11_letter 29 = .ok (.ireturn, 1) := by decide +kernel
theorem dX11_letter_30 : decode cX11_letter 30 = .ok (.aload_n 0, 1) := by decide +kernel
theorem dX11_letter_31 : decode cX11_letter 31 = .ok (.getfield 10, 3) := by decide +kernel
theorem dX11_letter_34 : decode cX11_letter 34 = .ok (.iload_n 1, 1) := by decide +kernel
theorem dX11_letter_35 : decode cX11_letter 35 = .ok (.invokevirtual 65, 3) := by decide +kernel
theorem dX11_letter_38 : decode cX11_letter 38 = .ok (.aload_n 0, 1) := by decide +kernel
theorem dX11_letter_39 : decode cX11_letter 39 = .ok (.getfield 10, 3) := by decide +kernel
theorem dX11_letter_42 : decode cX11_letter 42 = .ok (.getfield 61, 3) := by decide +kernel
theorem dX11_letter_45 : decode cX11_letter 45 = .ok (.ireturn, 1) := by decide +kernel
theorem dX11_blank_0 : decode cX11_blank 0 = .ok (.aload_n 0, 1) := by decide +kernel
theorem dX11_blank_1 : decode cX11_blank 1 = .ok (.getfield 10, 3) := by decide +kernel
theorem dX11_blank_4 : decode cX11_blank 4 = .ok (.getfield 61, 3) := by decide +kernel
theorem dX11_blank_7 : decode cX11_blank 7 = .ok (.istore_n 1, 1) := by decide +kernel
theorem dX11_blank_8 : decode cX11_blank 8 = .ok (.aload_n 0, 1) := by decide +kernel
theorem dX11_blank_9 : decode cX11_blank 9 = .ok (.getfield 10, 3) := by decide +kernel
theorem dX11_blank_12 : decode cX11_blank 12 = .ok (.iconst 0, 1) := by decide +kernel
theorem dX11_blank_13 : decode cX11_blank 13 = .ok (.putfield 61, 3) := by decide +kernel
theorem dX11_blank_16 : decode cX11_blank 16 = .ok (.iload_n 1, 1) := by decide +kernel
theorem dX11_blank_17 : decode cX11_blank 17 = .ok (.ireturn, 1) := by decide +kernel
theorem dX11_fault_0 : decode cX11_fault 0 = .ok (.iload_n 1, 1) := by decide +kernel
theorem dX11_fault_1 : decode cX11_fault 1 = .ok (.ifCond .ne 11, 3) := by decide +kernel
theorem dX11_fault_4 : decode cX11_fault 4 = .ok (.aload_n 0, 1) := by decide +kernel
theorem dX11_fault_5 : decode cX11_fault 5 = .ok (.getfield 10, 3) := by decide +kernel
theorem dX11_fault_8 : decode cX11_fault 8 = .ok (.invokevirtual 69, 3) := by decide +kernel
theorem dX11_fault_11 : decode cX11_fault 11 = .ok (.ireturn, 1) := by decide +kernel
theorem dX11_fault_12 : decode cX11_fault 12 = .ok (.iload_n 1, 1) := by decide +kernel
theorem dX11_fault_13 : decode cX11_fault 13 = .ok (.iconst 1, 1) := by decide +kernel
theorem dX11_fault_14 : decode cX11_fault 14 = .ok (.if_icmp .ne 18, 3) := by decide +kernel
theorem dX11_fault_17 : decode cX11_fault 17 = .ok (.aload_n 0, 1) := by decide +kernel
theorem dX11_fault_18 : decode cX11_fault 18 = .ok (.getfield 10, 3) := by decide +kernel
theorem dX11_fault_21 : decode cX11_fault 21 = .ok (.aload_n 0, 1) := by decide +kernel
theorem dX11_fault_22 : decode cX11_fault 22 = .ok (.getfield 19, 3) := by decide +kernel
theorem dX11_fault_25 : decode cX11_fault 25 = .ok (.getfield 73, 3) := by decide +kernel
theorem dX11_fault_28 : decode cX11_fault 28 = .ok (.invokevirtual 76, 3) := by decide +kernel
theorem dX11_fault_31 : decode cX11_fault 31 = .ok (.ireturn, 1) := by decide +kernel
theorem dX11_fault_32 : decode cX11_fault 32 = .ok (.bipush (-102), 2) := by decide +kernel
theorem dX11_fault_34 : decode cX11_fault 34 = .ok (.ireturn, 1) := by decide +kernel
theorem dX11_town_0 : decode cX11_town 0 = .ok (.aload_n 0, 1) := by decide +kernel
theorem dX11_town_1 : decode cX11_town 1 = .ok (.getfield 10, 3) := by decide +kernel
theorem dX11_town_4 : decode cX11_town 4 = .ok (.invokevirtual 80, 3) := by decide +kernel
theorem dX11_town_7 : decode cX11_town 7 = .ok (.ifCond .ne 6, 3) := by decide +kernel
theorem dX11_town_10 : decode cX11_town 10 = .ok (.bipush (-103), 2) := by decide +kernel
theorem dX11_town_12 : decode cX11_town 12 = .ok (.ireturn, 1) := by decide +kernel
theorem dX11_town_13 : decode cX11_town 13 = .ok (.aload_n 0, 1) := by decide +kernel
theorem dX11_town_14 : decode cX11_town 14 = .ok (.getfield 19, 3) := by decide +kernel
theorem dX11_town_17 : decode cX11_town 17 = .ok (.aload_n 0, 1) := by decide +kernel
theorem dX11_town_18 : decode cX11_town 18 = .ok (.getfield 10, 3) := by decide +kernel
theorem dX11_town_21 : decode cX11_town 21 = .ok (.invokevirtual 84, 3) := by decide +kernel
theorem dX11_town_24 : decode cX11_town 24 = .ok (.aload_n 0, 1) := by decide +kernel
theorem dX11_town_25 : decode cX11_town 25 = .ok (.getfield 10, 3) := by decide +kernel
theorem dX11_town_28 : decode cX11_town 28 = .ok (.iconst 0, 1) := by decide +kernel
theorem dX11_town_29 : decode cX11_town 29 = .ok (.putfield 61, 3) := by decide +kernel
theorem dX11_town_32 : decode cX11_town 32 = .ok (.aload_n 0, 1) := by decide +kernel
theorem dX11_town_33 : decode cX11_town 33 = .ok (.getfield 26, 3) := by decide +kernel
theorem dX11_town_36 : decode cX11_town 36 = .ok (.invokevirtual 88, 3) := by decide +kernel
theorem dX11_town_39 : decode cX11_town 39 = .ok (.aload_n 0, 1) := by decide +kernel
theorem dX11_town_40 : decode cX11_town 40 = .ok (.getfield 38, 3) := by decide +kernel
theorem dX11_town_43 : decode cX11_town 43 = .ok (.invokevirtual 91, 3) := by decide +kernel
theorem dX11_town_46 : decode cX11_town 46 = .ok (.aload_n 0, 1) := by decide +kernel
theorem dX11_town_47 : decode cX11_town 47 = .ok (.getfield 42, 3) := by decide +kernel
theorem dX11_town_50 : decode cX11_town 50 = .ok (.invokevirtual 91, 3) := by decide +kernel
theorem dX11_town_53 : decode cX11_town 53 = .ok (.aload_n 0, 1) := by decide +kernel
theorem dX11_town_54 : decode cX11_town 54 = .ok (.iconst 0, 1) := by decide +kernel
theorem dX11_town_55 : decode cX11_town 55 = .ok (.putfield 94, 3) := by decide +kernel
theorem dX11_town_58 : decode cX11_town 58 = .ok (.aload_n 0, 1) := by decide +kernel
theorem dX11_town_59 : decode cX11_town 59 = .ok (.dup, 1) := by decide +kernel
theorem dX11_town_60 : decode cX11_town 60 = .ok (.getfield 98, 3) := by decide +kernel
theorem dX11_town_63 : decode cX11_town 63 = .ok (.iconst 1, 1) := by decide +kernel
theorem dX11_town_64 : decode cX11_town 64 = .ok (.iadd, 1) := by decide +kernel
theorem dX11_town_65 : decode cX11_town 65 = .ok (.putfield 98, 3) := by decide +kernel
theorem dX11_town_68 : decode cX11_town 68 = .ok (.aload_n 0, 1) := by decide +kernel
theorem dX11_town_69 : decode cX11_town 69 = .ok (.getfield 19, 3) := by decide +kernel
theorem dX11_town_72 : decode cX11_town 72 = .ok (.getfield 73, 3) := by decide +kernel
theorem dX11_town_75 : decode cX11_town 75 = .ok (.ireturn, 1) := by decide +kernel
theorem dX11_about_0 : decode cX11_about 0 = .ok (.aload_n 0, 1) := by decide +kernel
theorem dX11_about_1 : decode cX11_about 1 = .ok (.getfield 19, 3) := by decide +kernel
theorem dX11_about_4 : decode cX11_about 4 = .ok (.iload_n 1, 1) := by decide +kernel
theorem dX11_about_5 : decode cX11_about 5 = .ok (.invokevirtual 101, 3) := by decide +kernel
theorem dX11_about_8 : decode cX11_about 8 = .ok (.astore_n 3, 1) := by decide +kernel
theorem dX11_about_9 : decode cX11_about 9 = .ok (.aload_n 3, 1) := by decide +kernel
theorem dX11_about_10 : decode cX11_about 10 = .ok (.ifnonnull 6, 3) := by decide +kernel
theorem dX11_about_13 : decode cX11_about 13 = .ok (.bipush (-101), 2) := by decide +kernel
theorem dX11_about_15 : decode cX11_about 15 = .ok (.ireturn, 1) := by decide +kernel
theorem dX11_about_16 : decode cX11_about 16 = .ok (.iload_n 2, 1) := by decide +kernel
theorem dX11_about_17 : decode cX11_about 17 = .ok (.tableswitch 77 0 5 #[39, 44, 49, 54, 59, 68], 39) := by decide +kernel
theorem dX11_about_56 : decode cX11_about 56 = .ok (.aload_n 3, 1) := by decide +kernel
theorem dX11_about_57 : decode cX11_about 57 = .ok (.invokevirtual 105, 3) := by decide +kernel
theorem dX11_about_60 : decode cX11_about 60 = .ok (.ireturn, 1) := by decide +kernel
theorem dX11_about_61 : decode cX11_about 61 = .ok (.aload_n 3, 1) := by decide +kernel
theorem dX11_about_62 : decode cX11_about 62 = .ok (.getfield 110, 3) := by decide +kernel
theorem dX11_about_65 : decode cX11_about 65 = .ok (.ireturn, 1) := by decide +kernel
theorem dX11_about_66 : decode cX11_about 66 = .ok (.aload_n 3, 1) := by decide +kernel
theorem dX11_about_67 : decode cX11_about 67 = .ok (.getfield 113, 3) := by decide +kernel
theorem dX11_about_70 : decode cX11_about 70 = .ok (.ireturn, 1) := by decide +kernel
theorem dX11_about_71 : decode cX11_about 71 = .ok (.aload_n 3, 1) := by decide +kernel
theorem dX11_about_72 : decode cX11_about 72 = .ok (.getfield 116, 3) := by decide +kernel
theorem dX11_about_75 : decode cX11_about 75 = .ok (.ireturn, 1) := by decide +kernel
theorem dX11_about_76 : decode cX11_about 76 = .ok (.aload_n 0, 1) := by decide +kernel
theorem dX11_about_77 : decode cX11_about 77 = .ok (.getfield 26, 3) := by decide +kernel
theorem dX11_about_80 : decode cX11_about 80 = .ok (.iload_n 1, 1) := by decide +kernel
theorem dX11_about_81 : decode cX11_about 81 = .ok (.invokevirtual 119, 3) := by decide +kernel
theorem dX11_about_84 : decode cX11_about 84 = .ok (.ireturn, 1) := by decide +kernel
theorem dX11_about_85 : decode cX11_about 85 = .ok (.aload_n 0, 1) := by decide +kernel
theorem dX11_about_86 : decode cX11_about 86 = .ok (.getfield 26, 3) := by decide +kernel
theorem dX11_about_89 : decode cX11_about 89 = .ok (.iload_n 1, 1) := by decide +kernel
theorem dX11_about_90 : decode cX11_about 90 = .ok (.invokevirtual 122, 3) := by decide +kernel
theorem dX11_about_93 : decode cX11_about 93 = .ok (.ireturn, 1) := by decide +kernel
theorem dX11_about_94 : decode cX11_about 94 = .ok (.bipush (-102), 2) := by decide +kernel
theorem dX11_about_96 : decode cX11_about 96 = .ok (.ireturn, 1) := by decide +kernel
theorem dX11_as_0 : decode cX11_as 0 = .ok (.aload_n 0, 1) := by decide +kernel
theorem dX11_as_1 : decode cX11_as 1 = .ok (.getfield 19, 3) := by decide +kernel
theorem dX11_as_4 : decode cX11_as 4 = .ok (.iload_n 1, 1) := by decide +kernel
theorem dX11_as_5 : decode cX11_as 5 = .ok (.invokevirtual 101, 3) := by decide +kernel
theorem dX11_as_8 : decode cX11_as 8 = .ok (.astore_n 3, 1) := by decide +kernel
theorem dX11_as_9 : decode cX11_as 9 = .ok (.aload_n 3, 1) := by decide +kernel
theorem dX11_as_10 : decode cX11_as 10 = .ok (.ifnonnull 6, 3) := by decide +kernel
theorem dX11_as_13 : decode cX11_as 13 = .ok (.bipush (-101), 2) := by decide +kernel
theorem dX11_as_15 : decode cX11_as 15 = .ok (.ireturn, 1) := by decide +kernel
theorem dX11_as_16 : decode cX11_as 16 = .ok (.iload_n 2, 1) := by decide +kernel
theorem dX11_as_17 : decode cX11_as 17 = .ok (.ifCond .lt 8, 3) := by decide +kernel
theorem dX11_as_20 : decode cX11_as 20 = .ok (.iload_n 2, 1) := by decide +kernel
theorem dX11_as_21 : decode cX11_as 21 = .ok (.iconst 4, 1) := by decide +kernel
theorem dX11_as_22 : decode cX11_as 22 = .ok (.if_icmp .le 6, 3) := by decide +kernel
theorem dX11_as_25 : decode cX11_as 25 = .ok (.bipush (-102), 2) := by decide +kernel
theorem dX11_as_27 : decode cX11_as 27 = .ok (.ireturn, 1) := by decide +kernel
theorem dX11_as_28 : decode cX11_as 28 = .ok (.aload_n 3, 1) := by decide +kernel
theorem dX11_as_29 : decode cX11_as 29 = .ok (.iload_n 2, 1) := by decide +kernel
theorem dX11_as_30 : decode cX11_as 30 = .ok (.invokestatic 125, 3) := by decide +kernel
theorem dX11_as_33 : decode cX11_as 33 = .ok (.ifCond .eq 7, 3) := by decide +kernel
theorem dX11_as_36 : decode cX11_as 36 = .ok (.iload_n 1, 1) := by decide +kernel
theorem dX11_as_37 : decode cX11_as 37 = .ok (.goto 4, 3) := by decide +kernel
theorem dX11_as_40 : decode cX11_as 40 = .ok (.iconst (-1), 1) := by decide +kernel
theorem dX11_as_41 : decode cX11_as 41 = .ok (.ireturn, 1) := by decide +kernel
theorem dX11_thing_0 : decode cX11_thing 0 = .ok (.iload_n 1, 1) := by decide +kernel
theorem dX11_thing_1 : decode cX11_thing 1 = .ok (.invokestatic 129, 3) := by decide +kernel
theorem dX11_thing_4 : decode cX11_thing 4 = .ok (.ifCond .ne 6, 3) := by decide +kernel
theorem dX11_thing_7 : decode cX11_thing 7 = .ok (.bipush (-102), 2) := by decide +kernel
theorem dX11_thing_9 : decode cX11_thing 9 = .ok (.ireturn, 1) := by decide +kernel
theorem dX11_thing_10 : decode cX11_thing 10 = .ok (.aload_n 0, 1) := by decide +kernel
theorem dX11_thing_11 : decode cX11_thing 11 = .ok (.getfield 19, 3) := by decide +kernel
theorem dX11_thing_14 : decode cX11_thing 14 = .ok (.getfield 73, 3) := by decide +kernel
theorem dX11_thing_17 : decode cX11_thing 17 = .ok (.ifCond .ne 6, 3) := by decide +kernel
theorem dX11_thing_20 : decode cX11_thing 20 = .ok (.bipush (-103), 2) := by decide +kernel
theorem dX11_thing_22 : decode cX11_thing 22 = .ok (.ireturn, 1) := by decide +kernel
theorem dX11_thing_23 : decode cX11_thing 23 = .ok (.aload_n 0, 1) := by decide +kernel
theorem dX11_thing_24 : decode cX11_thing 24 = .ok (.getfield 26, 3) := by decide +kernel
theorem dX11_thing_27 : decode cX11_thing 27 = .ok (.getfield 133, 3) := by decide +kernel
theorem dX11_thing_30 : decode cX11_thing 30 = .ok (.iconst 4, 1) := by decide +kernel
theorem dX11_thing_31 : decode cX11_thing 31 = .ok (.if_icmp .lt 6, 3) := by decide +kernel
theorem dX11_thing_34 : decode cX11_thing 34 = .ok (.bipush (-104), 2) := by decide +kernel
theorem dX11_thing_36 : decode cX11_thing 36 = .ok (.ireturn, 1) := by decide +kernel
theorem dX11_thing_37 : decode cX11_thing 37 = .ok (.aload_n 0, 1) := by decide +kernel
theorem dX11_thing_38 : decode cX11_thing 38 = .ok (.getfield 26, 3) := by decide +kernel
theorem dX11_thing_41 : decode cX11_thing 41 = .ok (.iload_n 1, 1) := by decide +kernel
theorem dX11_thing_42 : decode cX11_thing 42 = .ok (.invokevirtual 134, 3) := by decide +kernel
theorem dX11_thing_45 : decode cX11_thing 45 = .ok (.ireturn, 1) := by decide +kernel
theorem dX11_thingOf_0 : decode cX11_thingOf 0 = .ok (.aload_n 0, 1) := by decide +kernel
theorem dX11_thingOf_1 : decode cX11_thingOf 1 = .ok (.getfield 26, 3) := by decide +kernel
theorem dX11_thingOf_4 : decode cX11_thingOf 4 = .ok (.iload_n 1, 1) := by decide +kernel
theorem dX11_thingOf_5 : decode cX11_thingOf 5 = .ok (.invokevirtual 136, 3) := by decide +kernel
theorem dX11_thingOf_8 : decode cX11_thingOf 8 = .ok (.ifCond .ne 6, 3) := by decide +kernel
theorem dX11_thingOf_11 : decode cX11_thingOf 11 = .ok (.bipush (-101), 2) := by decide +kernel
theorem dX11_thingOf_13 : decode cX11_thingOf 13 = .ok (.ireturn, 1) := by decide +kernel
theorem dX11_thingOf_14 : decode cX11_thingOf 14 = .ok (.iload_n 2, 1) := by decide +kernel
theorem dX11_thingOf_15 : decode cX11_thingOf 15 = .ok (.tableswitch 94 0 6 #[41, 41, 41, 54, 63, 72, 81], 41) := by decide +kernel
theorem dX11_thingOf_56 : decode cX11_thingOf 56 = .ok (.aload_n 0, 1) := by decide +kernel
theorem dX11_thingOf_57 : decode cX11_thingOf 57 = .ok (.getfield 26, 3) := by decide +kernel
theorem dX11_thingOf_60 : decode cX11_thingOf 60 = .ok (.iload_n 1, 1) := by decide +kernel
theorem dX11_thingOf_61 : decode cX11_thingOf 61 = .ok (.invokevirtual 139, 3) := by decide +kernel
theorem dX11_thingOf_64 : decode cX11_thingOf 64 = .ok (.iload_n 2, 1) := by decide +kernel
theorem dX11_thingOf_65 : decode cX11_thingOf 65 = .ok (.invokestatic 142, 3) := by decide +kernel
theorem dX11_thingOf_68 : decode cX11_thingOf 68 = .ok (.ireturn, 1) := by decide +kernel
theorem dX11_thingOf_69 : decode cX11_thingOf 69 = .ok (.aload_n 0, 1) := by decide +kernel
theorem dX11_thingOf_70 : decode cX11_thingOf 70 = .ok (.getfield 26, 3) := by decide +kernel
theorem dX11_thingOf_73 : decode cX11_thingOf 73 = .ok (.iload_n 1, 1) := by decide +kernel
theorem dX11_thingOf_74 : decode cX11_thingOf 74 = .ok (.invokevirtual 139, 3) := by decide +kernel
theorem dX11_thingOf_77 : decode cX11_thingOf 77 = .ok (.ireturn, 1) := by decide +kernel
theorem dX11_thingOf_78 : decode cX11_thingOf 78 = .ok (.aload_n 0, 1) := by decide +kernel
theorem dX11_thingOf_79 : decode cX11_thingOf 79 = .ok (.getfield 26, 3) := by decide +kernel
theorem dX11_thingOf_82 : decode cX11_thingOf 82 = .ok (.iload_n 1, 1) := by decide +kernel
theorem dX11_thingOf_83 : decode cX11_thingOf 83 = .ok (.invokevirtual 146, 3) := by decide +kernel
theorem dX11_thingOf_86 : decode cX11_thingOf 86 = .ok (.ireturn, 1) := by decide +kernel
theorem dX11_thingOf_87 : decode cX11_thingOf 87 = .ok (.aload_n 0, 1) := by decide +kernel
theorem dX11_thingOf_88 : decode cX11_thingOf 88 = .ok (.getfield 26, 3) := by decide +kernel
theorem dX11_thingOf_91 : decode cX11_thingOf 91 = .ok (.iload_n 1, 1) := by decide +kernel
theorem dX11_thingOf_92 : decode cX11_thingOf 92 = .ok (.invokevirtual 149, 3) := by decide +kernel
theorem dX11_thingOf_95 : decode cX11_thingOf 95 = .ok (.ireturn, 1) := by decide +kernel
theorem dX11_thingOf_96 : decode cX11_thingOf 96 = .ok (.aload_n 0, 1) := by decide +kernel
theorem dX11_thingOf_97 : decode cX11_thingOf 97 = .ok (.getfield 26, 3) := by decide +kernel
theorem dX11_thingOf_100 : decode cX11_thingOf 100 = .ok (.iload_n 1, 1) := by decide +kernel
theorem dX11_thingOf_101 : decode cX11_thingOf 101 = .ok (.aload_n 0, 1) := by decide +kernel
theorem dX11_thingOf_102 : decode cX11_thingOf 102 = .ok (.getfield 19, 3) := by decide +kernel
theorem dX11_thingOf_105 : decode cX11_thingOf 105 = .ok (.invokevirtual 152, 3) := by decide +kernel
theorem dX11_thingOf_108 : decode cX11_thingOf 108 = .ok (.ireturn, 1) := by decide +kernel
theorem dX11_thingOf_109 : decode cX11_thingOf 109 = .ok (.bipush (-102), 2) := by decide +kernel
theorem dX11_thingOf_111 : decode cX11_thingOf 111 = .ok (.ireturn, 1) := by decide +kernel
theorem dX11_lend_0 : decode cX11_lend 0 = .ok (.aload_n 0, 1) := by decide +kernel
theorem dX11_lend_1 : decode cX11_lend 1 = .ok (.getfield 19, 3) := by decide +kernel
theorem dX11_lend_4 : decode cX11_lend 4 = .ok (.iload_n 2, 1) := by decide +kernel
theorem dX11_lend_5 : decode cX11_lend 5 = .ok (.invokevirtual 101, 3) := by decide +kernel
theorem dX11_lend_8 : decode cX11_lend 8 = .ok (.astore_n 3, 1) := by decide +kernel
theorem dX11_lend_9 : decode cX11_lend 9 = .ok (.aload_n 0, 1) := by decide +kernel
theorem dX11_lend_10 : decode cX11_lend 10 = .ok (.getfield 26, 3) := by decide +kernel
theorem dX11_lend_13 : decode cX11_lend 13 = .ok (.iload_n 1, 1) := by decide +kernel
theorem dX11_lend_14 : decode cX11_lend 14 = .ok (.invokevirtual 136, 3) := by decide +kernel
theorem dX11_lend_17 : decode cX11_lend 17 = .ok (.ifCond .eq 7, 3) := by decide +kernel
theorem dX11_lend_20 : decode cX11_lend 20 = .ok (.aload_n 3, 1) := by decide +kernel
theorem dX11_lend_21 : decode cX11_lend 21 = .ok (.ifnonnull 6, 3) := by decide +kernel
theorem dX11_lend_24 : decode cX11_lend 24 = .ok (.bipush (-101), 2) := by decide +kernel
theorem dX11_lend_26 : decode cX11_lend 26 = .ok (.ireturn, 1) := by decide +kernel
theorem dX11_lend_27 : decode cX11_lend 27 = .ok (.aload_n 0, 1) := by decide +kernel
theorem dX11_lend_28 : decode cX11_lend 28 = .ok (.getfield 26, 3) := by decide +kernel
theorem dX11_lend_31 : decode cX11_lend 31 = .ok (.iload_n 1, 1) := by decide +kernel
theorem dX11_lend_32 : decode cX11_lend 32 = .ok (.invokevirtual 156, 3) := by decide +kernel
theorem dX11_lend_35 : decode cX11_lend 35 = .ok (.ifCond .ne 15, 3) := by decide +kernel
theorem dX11_lend_38 : decode cX11_lend 38 = .ok (.aload_n 0, 1) := by decide +kernel
theorem dX11_lend_39 : decode cX11_lend 39 = .ok (.getfield 26, 3) := by decide +kernel
theorem dX11_lend_42 : decode cX11_lend 42 = .ok (.iload_n 2, 1) := by decide +kernel
theorem dX11_lend_43 : decode cX11_lend 43 = .ok (.invokevirtual 119, 3) := by decide +kernel
theorem dX11_lend_46 : decode cX11_lend 46 = .ok (.iconst (-1), 1) := by decide +kernel
theorem dX11_lend_47 : decode cX11_lend 47 = .ok (.if_icmp .eq 6, 3) := by decide +kernel
theorem dX11_lend_50 : decode cX11_lend 50 = .ok (.bipush (-103), 2) := by decide +kernel
theorem dX11_lend_52 : decode cX11_lend 52 = .ok (.ireturn, 1) := by decide +kernel
theorem dX11_lend_53 : decode cX11_lend 53 = .ok (.aload_n 0, 1) := by decide +kernel
theorem dX11_lend_54 : decode cX11_lend 54 = .ok (.getfield 26, 3) := by decide +kernel
theorem dX11_lend_57 : decode cX11_lend 57 = .ok (.iload_n 1, 1) := by decide +kernel
theorem dX11_lend_58 : decode cX11_lend 58 = .ok (.iload_n 2, 1) := by decide +kernel
theorem dX11_lend_59 : decode cX11_lend 59 = .ok (.aload_n 3, 1) := by decide +kernel
theorem dX11_lend_60 : decode cX11_lend 60 = .ok (.getfield 116, 3) := by decide +kernel
theorem dX11_lend_63 : decode cX11_lend 63 = .ok (.invokevirtual 159, 3) := by decide +kernel
theorem dX11_lend_66 : decode cX11_lend 66 = .ok (.aload_n 3, 1) := by decide +kernel
theorem dX11_lend_67 : decode cX11_lend 67 = .ok (.getfield 116, 3) := by decide +kernel
theorem dX11_lend_70 : decode cX11_lend 70 = .ok (.ireturn, 1) := by decide +kernel
theorem dX11_day_0 : decode cX11_day 0 = .ok (.aload_n 0, 1) := by decide +kernel
theorem dX11_day_1 : decode cX11_day 1 = .ok (.getfield 19, 3) := by decide +kernel
theorem dX11_day_4 : decode cX11_day 4 = .ok (.getfield 73, 3) := by decide +kernel
theorem dX11_day_7 : decode cX11_day 7 = .ok (.ifCond .ne 6, 3) := by decide +kernel
theorem dX11_day_10 : decode cX11_day 10 = .ok (.bipush (-103), 2) := by decide +kernel
theorem dX11_day_12 : decode cX11_day 12 = .ok (.ireturn, 1) := by decide +kernel
theorem dX11_day_13 : decode cX11_day 13 = .ok (.aload_n 0, 1) := by decide +kernel
theorem dX11_day_14 : decode cX11_day 14 = .ok (.getfield 26, 3) := by decide +kernel
theorem dX11_day_17 : decode cX11_day 17 = .ok (.aload_n 0, 1) := by decide +kernel
theorem dX11_day_18 : decode cX11_day 18 = .ok (.getfield 19, 3) := by decide +kernel
theorem dX11_day_21 : decode cX11_day 21 = .ok (.invokevirtual 163, 3) := by decide +kernel
theorem dX11_day_24 : decode cX11_day 24 = .ok (.ireturn, 1) := by decide +kernel
theorem dX11_by_0 : decode cX11_by 0 = .ok (.aload_n 0, 1) := by decide +kernel
theorem dX11_by_1 : decode cX11_by 1 = .ok (.getfield 19, 3) := by decide +kernel
theorem dX11_by_4 : decode cX11_by 4 = .ok (.iload_n 1, 1) := by decide +kernel
theorem dX11_by_5 : decode cX11_by 5 = .ok (.invokevirtual 101, 3) := by decide +kernel
theorem dX11_by_8 : decode cX11_by 8 = .ok (.ifnonnull 6, 3) := by decide +kernel
theorem dX11_by_11 : decode cX11_by 11 = .ok (.bipush (-101), 2) := by decide +kernel
theorem dX11_by_13 : decode cX11_by 13 = .ok (.ireturn, 1) := by decide +kernel
theorem dX11_by_14 : decode cX11_by 14 = .ok (.iload_n 2, 1) := by decide +kernel
theorem dX11_by_15 : decode cX11_by 15 = .ok (.invokestatic 129, 3) := by decide +kernel
theorem dX11_by_18 : decode cX11_by 18 = .ok (.ifCond .ne 6, 3) := by decide +kernel
theorem dX11_by_21 : decode cX11_by 21 = .ok (.bipush (-102), 2) := by decide +kernel
theorem dX11_by_23 : decode cX11_by 23 = .ok (.ireturn, 1) := by decide +kernel
theorem dX11_by_24 : decode cX11_by 24 = .ok (.aload_n 0, 1) := by decide +kernel
theorem dX11_by_25 : decode cX11_by 25 = .ok (.getfield 19, 3) := by decide +kernel
theorem dX11_by_28 : decode cX11_by 28 = .ok (.iload_n 1, 1) := by decide +kernel
theorem dX11_by_29 : decode cX11_by 29 = .ok (.iload_n 2, 1) := by decide +kernel
theorem dX11_by_30 : decode cX11_by 30 = .ok (.invokevirtual 167, 3) := by decide +kernel
theorem dX11_by_33 : decode cX11_by 33 = .ok (.ireturn, 1) := by decide +kernel
theorem dX11_wished_0 : decode cX11_wished 0 = .ok (.aload_n 0, 1) := by decide +kernel
theorem dX11_wished_1 : decode cX11_wished 1 = .ok (.getfield 26, 3) := by decide +kernel
theorem dX11_wished_4 : decode cX11_wished 4 = .ok (.iload_n 1, 1) := by decide +kernel
theorem dX11_wished_5 : decode cX11_wished 5 = .ok (.invokevirtual 136, 3) := by decide +kernel
theorem dX11_wished_8 : decode cX11_wished 8 = .ok (.ifCond .ne 6, 3) := by decide +kernel
theorem dX11_wished_11 : decode cX11_wished 11 = .ok (.bipush (-101), 2) := by decide +kernel
theorem dX11_wished_13 : decode cX11_wished 13 = .ok (.ireturn, 1) := by decide +kernel
theorem dX11_wished_14 : decode cX11_wished 14 = .ok (.iload_n 2, 1) := by decide +kernel
theorem dX11_wished_15 : decode cX11_wished 15 = .ok (.invokestatic 129, 3) := by decide +kernel
theorem dX11_wished_18 : decode cX11_wished 18 = .ok (.ifCond .eq 12, 3) := by decide +kernel
theorem dX11_wished_21 : decode cX11_wished 21 = .ok (.iload_n 3, 1) := by decide +kernel
theorem dX11_wished_22 : decode cX11_wished 22 = .ok (.ifCond .lt 8, 3) := by decide +kernel
theorem dX11_wished_25 : decode cX11_wished 25 = .ok (.iload_n 3, 1) := by decide +kernel
theorem dX11_wished_26 : decode cX11_wished 26 = .ok (.iconst 3, 1) := by decide +kernel
theorem dX11_wished_27 : decode cX11_wished 27 = .ok (.if_icmp .le 6, 3) := by decide +kernel
theorem dX11_wished_30 : decode cX11_wished 30 = .ok (.bipush (-102), 2) := by decide +kernel
theorem dX11_wished_32 : decode cX11_wished 32 = .ok (.ireturn, 1) := by decide +kernel
theorem dX11_wished_33 : decode cX11_wished 33 = .ok (.iload_n 3, 1) := by decide +kernel
theorem dX11_wished_34 : decode cX11_wished 34 = .ok (.iconst 2, 1) := by decide +kernel
theorem dX11_wished_35 : decode cX11_wished 35 = .ok (.if_icmp .ge 10, 3) := by decide +kernel
theorem dX11_wished_38 : decode cX11_wished 38 = .ok (.aload_n 0, 1) := by decide +kernel
theorem dX11_wished_39 : decode cX11_wished 39 = .ok (.getfield 38, 3) := by decide +kernel
theorem dX11_wished_42 : decode cX11_wished 42 = .ok (.goto 7, 3) := by decide +kernel
theorem dX11_wished_45 : decode cX11_wished 45 = .ok (.aload_n 0, 1) := by decide +kernel
theorem dX11_wished_46 : decode cX11_wished 46 = .ok (.getfield 42, 3) := by decide +kernel
theorem dX11_wished_49 : decode cX11_wished 49 = .ok (.astore 4, 2) := by decide +kernel
theorem dX11_wished_51 : decode cX11_wished 51 = .ok (.aload 4, 2) := by decide +kernel
theorem dX11_wished_53 : decode cX11_wished 53 = .ok (.aload_n 0, 1) := by decide +kernel
theorem dX11_wished_54 : decode cX11_wished 54 = .ok (.getfield 26, 3) := by decide +kernel
theorem dX11_wished_57 : decode cX11_wished 57 = .ok (.iload_n 1, 1) := by decide +kernel
theorem dX11_wished_58 : decode cX11_wished 58 = .ok (.aload_n 0, 1) := by decide +kernel
theorem dX11_wished_59 : decode cX11_wished 59 = .ok (.getfield 19, 3) := by decide +kernel
theorem dX11_wished_62 : decode cX11_wished 62 = .ok (.invokevirtual 152, 3) := by decide +kernel
theorem dX11_wished_65 : decode cX11_wished 65 = .ok (.invokevirtual 170, 3) := by decide +kernel
theorem dX11_wished_68 : decode cX11_wished 68 = .ok (.iload_n 3, 1) := by decide +kernel
theorem dX11_wished_69 : decode cX11_wished 69 = .ok (.iconst 2, 1) := by decide +kernel
theorem dX11_wished_70 : decode cX11_wished 70 = .ok (.irem, 1) := by decide +kernel
theorem dX11_wished_71 : decode cX11_wished 71 = .ok (.ifCond .ne 12, 3) := by decide +kernel
theorem dX11_wished_74 : decode cX11_wished 74 = .ok (.aload 4, 2) := by decide +kernel
theorem dX11_wished_76 : decode cX11_wished 76 = .ok (.iload_n 2, 1) := by decide +kernel
theorem dX11_wished_77 : decode cX11_wished 77 = .ok (.invokevirtual 173, 3) := by decide +kernel
theorem dX11_wished_80 : decode cX11_wished 80 = .ok (.goto 9, 3) := by decide +kernel
theorem dX11_wished_83 : decode cX11_wished 83 = .ok (.aload 4, 2) := by decide +kernel
theorem dX11_wished_85 : decode cX11_wished 85 = .ok (.iload_n 2, 1) := by decide +kernel
theorem dX11_wished_86 : decode cX11_wished 86 = .ok (.invokevirtual 176, 3) := by decide +kernel
theorem dX11_wished_89 : decode cX11_wished 89 = .ok (.ireturn, 1) := by decide +kernel
theorem dX11_reach_0 : decode cX11_reach 0 = .ok (.aload_n 0, 1) := by decide +kernel
theorem dX11_reach_1 : decode cX11_reach 1 = .ok (.getfield 26, 3) := by decide +kernel
theorem dX11_reach_4 : decode cX11_reach 4 = .ok (.iload_n 1, 1) := by decide +kernel
theorem dX11_reach_5 : decode cX11_reach 5 = .ok (.invokevirtual 136, 3) := by decide +kernel
theorem dX11_reach_8 : decode cX11_reach 8 = .ok (.ifCond .ne 6, 3) := by decide +kernel
theorem dX11_reach_11 : decode cX11_reach 11 = .ok (.bipush (-101), 2) := by decide +kernel
theorem dX11_reach_13 : decode cX11_reach 13 = .ok (.ireturn, 1) := by decide +kernel
theorem dX11_reach_14 : decode cX11_reach 14 = .ok (.aload_n 0, 1) := by decide +kernel
theorem dX11_reach_15 : decode cX11_reach 15 = .ok (.getfield 38, 3) := by decide +kernel
theorem dX11_reach_18 : decode cX11_reach 18 = .ok (.aload_n 0, 1) := by decide +kernel
theorem dX11_reach_19 : decode cX11_reach 19 = .ok (.getfield 26, 3) := by decide +kernel
theorem dX11_reach_22 : decode cX11_reach 22 = .ok (.iload_n 1, 1) := by decide +kernel
theorem dX11_reach_23 : decode cX11_reach 23 = .ok (.aload_n 0, 1) := by decide +kernel
theorem dX11_reach_24 : decode cX11_reach 24 = .ok (.getfield 19, 3) := by decide +kernel
theorem dX11_reach_27 : decode cX11_reach 27 = .ok (.invokevirtual 152, 3) := by decide +kernel
theorem dX11_reach_30 : decode cX11_reach 30 = .ok (.invokevirtual 170, 3) := by decide +kernel
theorem dX11_reach_33 : decode cX11_reach 33 = .ok (.aload_n 0, 1) := by decide +kernel
theorem dX11_reach_34 : decode cX11_reach 34 = .ok (.getfield 38, 3) := by decide +kernel
theorem dX11_reach_37 : decode cX11_reach 37 = .ok (.getfield 179, 3) := by decide +kernel
theorem dX11_reach_40 : decode cX11_reach 40 = .ok (.ireturn, 1) := by decide +kernel
theorem dX11_spoilers_0 : decode cX11_spoilers 0 = .ok (.aload_n 0, 1) := by decide +kernel
theorem dX11_spoilers_1 : decode cX11_spoilers 1 = .ok (.getfield 26, 3) := by decide +kernel
theorem dX11_spoilers_4 : decode cX11_spoilers 4 = .ok (.iload_n 1, 1) := by decide +kernel
theorem dX11_spoilers_5 : decode cX11_spoilers 5 = .ok (.invokevirtual 136, 3) := by decide +kernel
theorem dX11_spoilers_8 : decode cX11_spoilers 8 = .ok (.ifCond .ne 6, 3) := by decide +kernel
theorem dX11_spoilers_11 : decode cX11_spoilers 11 = .ok (.bipush (-101), 2) := by decide +kernel
theorem dX11_spoilers_13 : decode cX11_spoilers 13 = .ok (.ireturn, 1) := by decide +kernel
theorem dX11_spoilers_14 : decode cX11_spoilers 14 = .ok (.iload_n 2, 1) := by decide +kernel
theorem dX11_spoilers_15 : decode cX11_spoilers 15 = .ok (.ifCond .lt 19, 3) := by decide +kernel
theorem dX11_spoilers_18 : decode cX11_spoilers 18 = .ok (.iload_n 2, 1) := by decide +kernel
theorem dX11_spoilers_19 : decode cX11_spoilers 19 = .ok (.iconst 3, 1) := by decide +kernel
theorem dX11_spoilers_20 : decode cX11_spoilers 20 = .ok (.if_icmp .ge 14, 3) := by decide +kernel
theorem dX11_spoilers_23 : decode cX11_spoilers 23 = .ok (.iload_n 3, 1) := by decide +kernel
theorem dX11_spoilers_24 : decode cX11_spoilers 24 = .ok (.iconst 1, 1) := by decide +kernel
theorem dX11_spoilers_25 : decode cX11_spoilers 25 = .ok (.if_icmp .lt 9, 3) := by decide +kernel
theorem dX11_spoilers_28 : decode cX11_spoilers 28 = .ok (.iload_n 3, 1) := by decide +kernel
theorem dX11_spoilers_29 : decode cX11_spoilers 29 = .ok (.bipush 7, 2) := by decide +kernel
theorem dX11_spoilers_31 : decode cX11_spoilers 31 = .ok (.if_icmp .le 6, 3) := by decide +kernel
theorem dX11_spoilers_34 : decode cX11_spoilers 34 = .ok (.bipush (-102), 2) := by decide +kernel
theorem dX11_spoilers_36 : decode cX11_spoilers 36 = .ok (.ireturn, 1) := by decide +kernel
theorem dX11_spoilers_37 : decode cX11_spoilers 37 = .ok (.aload_n 0, 1) := by decide +kernel
theorem dX11_spoilers_38 : decode cX11_spoilers 38 = .ok (.getfield 50, 3) := by decide +kernel
theorem dX11_spoilers_41 : decode cX11_spoilers 41 = .ok (.aload_n 0, 1) := by decide +kernel
theorem dX11_spoilers_42 : decode cX11_spoilers 42 = .ok (.getfield 26, 3) := by decide +kernel
theorem dX11_spoilers_45 : decode cX11_spoilers 45 = .ok (.iload_n 1, 1) := by decide +kernel
theorem dX11_spoilers_46 : decode cX11_spoilers 46 = .ok (.aload_n 0, 1) := by decide +kernel
theorem dX11_spoilers_47 : decode cX11_spoilers 47 = .ok (.getfield 19, 3) := by decide +kernel
theorem dX11_spoilers_50 : decode cX11_spoilers 50 = .ok (.invokevirtual 152, 3) := by decide +kernel
theorem dX11_spoilers_53 : decode cX11_spoilers 53 = .ok (.iload_n 2, 1) := by decide +kernel
theorem dX11_spoilers_54 : decode cX11_spoilers 54 = .ok (.iload_n 3, 1) := by decide +kernel
theorem dX11_spoilers_55 : decode cX11_spoilers 55 = .ok (.invokevirtual 182, 3) := by decide +kernel
theorem dX11_spoilers_58 : decode cX11_spoilers 58 = .ok (.ireturn, 1) := by decide +kernel
theorem dX11_round_0 : decode cX11_round 0 = .ok (.iload_n 1, 1) := by decide +kernel
theorem dX11_round_1 : decode cX11_round 1 = .ok (.invokestatic 129, 3) := by decide +kernel
theorem dX11_round_4 : decode cX11_round 4 = .ok (.ifCond .eq 12, 3) := by decide +kernel
theorem dX11_round_7 : decode cX11_round 7 = .ok (.iload_n 2, 1) := by decide +kernel
theorem dX11_round_8 : decode cX11_round 8 = .ok (.ifCond .lt 8, 3) := by decide +kernel
theorem dX11_round_11 : decode cX11_round 11 = .ok (.iload_n 2, 1) := by decide +kernel
theorem dX11_round_12 : decode cX11_round 12 = .ok (.iconst 1, 1) := by decide +kernel
theorem dX11_round_13 : decode cX11_round 13 = .ok (.if_icmp .le 6, 3) := by decide +kernel
theorem dX11_round_16 : decode cX11_round 16 = .ok (.bipush (-102), 2) := by decide +kernel
theorem dX11_round_18 : decode cX11_round 18 = .ok (.ireturn, 1) := by decide +kernel
theorem dX11_round_19 : decode cX11_round 19 = .ok (.aload_n 0, 1) := by decide +kernel
theorem dX11_round_20 : decode cX11_round 20 = .ok (.getfield 10, 3) := by decide +kernel
theorem dX11_round_23 : decode cX11_round 23 = .ok (.aload_n 0, 1) := by decide +kernel
theorem dX11_round_24 : decode cX11_round 24 = .ok (.getfield 19, 3) := by decide +kernel
theorem dX11_round_27 : decode cX11_round 27 = .ok (.getfield 73, 3) := by decide +kernel
theorem dX11_round_30 : decode cX11_round 30 = .ok (.invokevirtual 186, 3) := by decide +kernel
theorem dX11_round_33 : decode cX11_round 33 = .ok (.ifCond .ne 6, 3) := by decide +kernel
theorem dX11_round_36 : decode cX11_round 36 = .ok (.bipush (-103), 2) := by decide +kernel
theorem dX11_round_38 : decode cX11_round 38 = .ok (.ireturn, 1) := by decide +kernel
theorem dX11_round_39 : decode cX11_round 39 = .ok (.iload_n 2, 1) := by decide +kernel
theorem dX11_round_40 : decode cX11_round 40 = .ok (.ifCond .ne 17, 3) := by decide +kernel
theorem dX11_round_43 : decode cX11_round 43 = .ok (.aload_n 0, 1) := by decide +kernel
theorem dX11_round_44 : decode cX11_round 44 = .ok (.getfield 19, 3) := by decide +kernel
theorem dX11_round_47 : decode cX11_round 47 = .ok (.aload_n 0, 1) := by decide +kernel
theorem dX11_round_48 : decode cX11_round 48 = .ok (.getfield 10, 3) := by decide +kernel
theorem dX11_round_51 : decode cX11_round 51 = .ok (.invokevirtual 189, 3) := by decide +kernel
theorem dX11_round_54 : decode cX11_round 54 = .ok (.goto 15, 3) := by decide +kernel
theorem dX11_round_57 : decode cX11_round 57 = .ok (.aload_n 0, 1) := by decide +kernel
theorem dX11_round_58 : decode cX11_round 58 = .ok (.getfield 19, 3) := by decide +kernel
theorem dX11_round_61 : decode cX11_round 61 = .ok (.aload_n 0, 1) := by decide +kernel
theorem dX11_round_62 : decode cX11_round 62 = .ok (.getfield 10, 3) := by decide +kernel
theorem dX11_round_65 : decode cX11_round 65 = .ok (.iload_n 1, 1) := by decide +kernel
theorem dX11_round_66 : decode cX11_round 66 = .ok (.invokevirtual 193, 3) := by decide +kernel
theorem dX11_round_69 : decode cX11_round 69 = .ok (.ireturn, 1) := by decide +kernel
theorem dX11_hands_0 : decode cX11_hands 0 = .ok (.iload_n 1, 1) := by decide +kernel
theorem dX11_hands_1 : decode cX11_hands 1 = .ok (.invokestatic 129, 3) := by decide +kernel
theorem dX11_hands_4 : decode cX11_hands 4 = .ok (.ifCond .eq 31, 3) := by decide +kernel
theorem dX11_hands_7 : decode cX11_hands 7 = .ok (.iload_n 2, 1) := by decide +kernel
theorem dX11_hands_8 : decode cX11_hands 8 = .ok (.invokestatic 129, 3) := by decide +kernel
theorem dX11_hands_11 : decode cX11_hands 11 = .ok (.ifCond .eq 24, 3) := by decide +kernel
theorem dX11_hands_14 : decode cX11_hands 14 = .ok (.iload_n 3, 1) := by decide +kernel
theorem dX11_hands_15 : decode cX11_hands 15 = .ok (.ifCond .lt 20, 3) := by decide +kernel
theorem dX11_hands_18 : decode cX11_hands 18 = .ok (.iload_n 3, 1) := by decide +kernel
theorem dX11_hands_19 : decode cX11_hands 19 = .ok (.bipush 6, 2) := by decide +kernel
theorem dX11_hands_21 : decode cX11_hands 21 = .ok (.if_icmp .gt 14, 3) := by decide +kernel
theorem dX11_hands_24 : decode cX11_hands 24 = .ok (.iload 4, 2) := by decide +kernel
theorem dX11_hands_26 : decode cX11_hands 26 = .ok (.ifCond .lt 9, 3) := by decide +kernel
theorem dX11_hands_29 : decode cX11_hands 29 = .ok (.iload 4, 2) := by decide +kernel
theorem dX11_hands_31 : decode cX11_hands 31 = .ok (.iconst 1, 1) := by decide +kernel
theorem dX11_hands_32 : decode cX11_hands 32 = .ok (.if_icmp .le 6, 3) := by decide +kernel
theorem dX11_hands_35 : decode cX11_hands 35 = .ok (.bipush (-102), 2) := by decide +kernel
theorem dX11_hands_37 : decode cX11_hands 37 = .ok (.ireturn, 1) := by decide +kernel
theorem dX11_hands_38 : decode cX11_hands 38 = .ok (.aload_n 0, 1) := by decide +kernel
theorem dX11_hands_39 : decode cX11_hands 39 = .ok (.getfield 19, 3) := by decide +kernel
theorem dX11_hands_42 : decode cX11_hands 42 = .ok (.getfield 73, 3) := by decide +kernel
theorem dX11_hands_45 : decode cX11_hands 45 = .ok (.ifCond .eq 12, 3) := by decide +kernel
theorem dX11_hands_48 : decode cX11_hands 48 = .ok (.aload_n 0, 1) := by decide +kernel
theorem dX11_hands_49 : decode cX11_hands 49 = .ok (.getfield 197, 3) := by decide +kernel
theorem dX11_hands_52 : decode cX11_hands 52 = .ok (.bipush 60, 2) := by decide +kernel
theorem dX11_hands_54 : decode cX11_hands 54 = .ok (.if_icmp .lt 6, 3) := by decide +kernel
theorem dX11_hands_57 : decode cX11_hands 57 = .ok (.bipush (-103), 2) := by decide +kernel
theorem dX11_hands_59 : decode cX11_hands 59 = .ok (.ireturn, 1) := by decide +kernel
theorem dX11_hands_60 : decode cX11_hands 60 = .ok (.aload_n 0, 1) := by decide +kernel
theorem dX11_hands_61 : decode cX11_hands 61 = .ok (.dup, 1) := by decide +kernel
theorem dX11_hands_62 : decode cX11_hands 62 = .ok (.getfield 197, 3) := by decide +kernel
theorem dX11_hands_65 : decode cX11_hands 65 = .ok (.iconst 1, 1) := by decide +kernel
theorem dX11_hands_66 : decode cX11_hands 66 = .ok (.iadd, 1) := by decide +kernel
theorem dX11_hands_67 : decode cX11_hands 67 = .ok (.putfield 197, 3) := by decide +kernel
theorem dX11_hands_70 : decode cX11_hands 70 = .ok (.aload_n 0, 1) := by decide +kernel
theorem dX11_hands_71 : decode cX11_hands 71 = .ok (.getfield 57, 3) := by decide +kernel
theorem dX11_hands_74 : decode cX11_hands 74 = .ok (.iload_n 1, 1) := by decide +kernel
theorem dX11_hands_75 : decode cX11_hands 75 = .ok (.iload_n 3, 1) := by decide +kernel
theorem dX11_hands_76 : decode cX11_hands 76 = .ok (.invokevirtual 200, 3) := by decide +kernel
theorem dX11_hands_79 : decode cX11_hands 79 = .ok (.iload 4, 2) := by decide +kernel
theorem dX11_hands_81 : decode cX11_hands 81 = .ok (.ifCond .ne 14, 3) := by decide +kernel
theorem dX11_hands_84 : decode cX11_hands 84 = .ok (.aload_n 0, 1) := by decide +kernel
theorem dX11_hands_85 : decode cX11_hands 85 = .ok (.getfield 57, 3) := by decide +kernel
theorem dX11_hands_88 : decode cX11_hands 88 = .ok (.iload_n 2, 1) := by decide +kernel
theorem dX11_hands_89 : decode cX11_hands 89 = .ok (.invokevirtual 204, 3) := by decide +kernel
theorem dX11_hands_92 : decode cX11_hands 92 = .ok (.goto 11, 3) := by decide +kernel
theorem dX11_hands_95 : decode cX11_hands 95 = .ok (.aload_n 0, 1) := by decide +kernel
theorem dX11_hands_96 : decode cX11_hands 96 = .ok (.getfield 57, 3) := by decide +kernel
theorem dX11_hands_99 : decode cX11_hands 99 = .ok (.iload_n 2, 1) := by decide +kernel
theorem dX11_hands_100 : decode cX11_hands 100 = .ok (.invokevirtual 207, 3) := by decide +kernel
theorem dX11_hands_103 : decode cX11_hands 103 = .ok (.ireturn, 1) := by decide +kernel
theorem dX11_years_0 : decode cX11_years 0 = .ok (.iload_n 1, 1) := by decide +kernel
theorem dX11_years_1 : decode cX11_years 1 = .ok (.iconst 1, 1) := by decide +kernel
theorem dX11_years_2 : decode cX11_years 2 = .ok (.if_icmp .lt 22, 3) := by decide +kernel
theorem dX11_years_5 : decode cX11_years 5 = .ok (.iload_n 1, 1) := by decide +kernel
theorem dX11_years_6 : decode cX11_years 6 = .ok (.bipush 90, 2) := by decide +kernel
theorem dX11_years_8 : decode cX11_years 8 = .ok (.if_icmp .gt 16, 3) := by decide +kernel
theorem dX11_years_11 : decode cX11_years 11 = .ok (.iload_n 2, 1) := by decide +kernel
theorem dX11_years_12 : decode cX11_years 12 = .ok (.ifCond .lt 12, 3) := by decide +kernel
theorem dX11_years_15 : decode cX11_years 15 = .ok (.iload_n 3, 1) := by decide +kernel
theorem dX11_years_16 : decode cX11_years 16 = .ok (.ifCond .lt 8, 3) := by decide +kernel
theorem dX11_years_19 : decode cX11_years 19 = .ok (.iload_n 3, 1) := by decide +kernel
theorem dX11_years_20 : decode cX11_years 20 = .ok (.iconst 2, 1) := by decide +kernel
theorem dX11_years_21 : decode cX11_years 21 = .ok (.if_icmp .le 6, 3) := by decide +kernel
theorem dX11_years_24 : decode cX11_years 24 = .ok (.bipush (-102), 2) := by decide +kernel
theorem dX11_years_26 : decode cX11_years 26 = .ok (.ireturn, 1) := by decide +kernel
theorem dX11_years_27 : decode cX11_years 27 = .ok (.aload_n 0, 1) := by decide +kernel
theorem dX11_years_28 : decode cX11_years 28 = .ok (.getfield 26, 3) := by decide +kernel
theorem dX11_years_31 : decode cX11_years 31 = .ok (.getfield 133, 3) := by decide +kernel
theorem dX11_years_34 : decode cX11_years 34 = .ok (.ifCond .ne 6, 3) := by decide +kernel
theorem dX11_years_37 : decode cX11_years 37 = .ok (.bipush (-103), 2) := by decide +kernel
theorem dX11_years_39 : decode cX11_years 39 = .ok (.ireturn, 1) := by decide +kernel
theorem dX11_years_40 : decode cX11_years 40 = .ok (.aload_n 0, 1) := by decide +kernel
theorem dX11_years_41 : decode cX11_years 41 = .ok (.getfield 26, 3) := by decide +kernel
theorem dX11_years_44 : decode cX11_years 44 = .ok (.aload_n 0, 1) := by decide +kernel
theorem dX11_years_45 : decode cX11_years 45 = .ok (.getfield 19, 3) := by decide +kernel
theorem dX11_years_48 : decode cX11_years 48 = .ok (.iload_n 1, 1) := by decide +kernel
theorem dX11_years_49 : decode cX11_years 49 = .ok (.iload_n 2, 1) := by decide +kernel
theorem dX11_years_50 : decode cX11_years 50 = .ok (.invokevirtual 210, 3) := by decide +kernel
theorem dX11_years_53 : decode cX11_years 53 = .ok (.iload_n 3, 1) := by decide +kernel
theorem dX11_years_54 : decode cX11_years 54 = .ok (.lookupswitch 42 #[(0, 26), (1, 34)], 26) := by decide +kernel
theorem dX11_years_80 : decode cX11_years 80 = .ok (.aload_n 0, 1) := by decide +kernel
theorem dX11_years_81 : decode cX11_years 81 = .ok (.getfield 26, 3) := by decide +kernel
theorem dX11_years_84 : decode cX11_years 84 = .ok (.invokevirtual 214, 3) := by decide +kernel
theorem dX11_years_87 : decode cX11_years 87 = .ok (.ireturn, 1) := by decide +kernel
theorem dX11_years_88 : decode cX11_years 88 = .ok (.aload_n 0, 1) := by decide +kernel
theorem dX11_years_89 : decode cX11_years 89 = .ok (.getfield 26, 3) := by decide +kernel
theorem dX11_years_92 : decode cX11_years 92 = .ok (.invokevirtual 217, 3) := by decide +kernel
theorem dX11_years_95 : decode cX11_years 95 = .ok (.ireturn, 1) := by decide +kernel
theorem dX11_years_96 : decode cX11_years 96 = .ok (.aload_n 0, 1) := by decide +kernel
theorem dX11_years_97 : decode cX11_years 97 = .ok (.getfield 26, 3) := by decide +kernel
theorem dX11_years_100 : decode cX11_years 100 = .ok (.getfield 220, 3) := by decide +kernel
theorem dX11_years_103 : decode cX11_years 103 = .ok (.ireturn, 1) := by decide +kernel
theorem dX11_image_0 : decode cX11_image 0 = .ok (.aload_n 0, 1) := by decide +kernel
theorem dX11_image_1 : decode cX11_image 1 = .ok (.getfield 19, 3) := by decide +kernel
theorem dX11_image_4 : decode cX11_image 4 = .ok (.getfield 73, 3) := by decide +kernel
theorem dX11_image_7 : decode cX11_image 7 = .ok (.ifCond .ne 6, 3) := by decide +kernel
theorem dX11_image_10 : decode cX11_image 10 = .ok (.bipush (-103), 2) := by decide +kernel
theorem dX11_image_12 : decode cX11_image 12 = .ok (.ireturn, 1) := by decide +kernel
theorem dX11_image_13 : decode cX11_image 13 = .ok (.aload_n 0, 1) := by decide +kernel
theorem dX11_image_14 : decode cX11_image 14 = .ok (.getfield 30, 3) := by decide +kernel
theorem dX11_image_17 : decode cX11_image 17 = .ok (.aload_n 0, 1) := by decide +kernel
theorem dX11_image_18 : decode cX11_image 18 = .ok (.getfield 26, 3) := by decide +kernel
theorem dX11_image_21 : decode cX11_image 21 = .ok (.invokevirtual 223, 3) := by decide +kernel
theorem dX11_image_24 : decode cX11_image 24 = .ok (.aload_n 0, 1) := by decide +kernel
theorem dX11_image_25 : decode cX11_image 25 = .ok (.iconst 1, 1) := by decide +kernel
theorem dX11_image_26 : decode cX11_image 26 = .ok (.putfield 94, 3) := by decide +kernel
theorem dX11_image_29 : decode cX11_image 29 = .ok (.aload_n 0, 1) := by decide +kernel
theorem dX11_image_30 : decode cX11_image 30 = .ok (.getfield 26, 3) := by decide +kernel
theorem dX11_image_33 : decode cX11_image 33 = .ok (.getfield 227, 3) := by decide +kernel
theorem dX11_image_36 : decode cX11_image 36 = .ok (.ireturn, 1) := by decide +kernel
theorem dX11_restore_0 : decode cX11_restore 0 = .ok (.aload_n 0, 1) := by decide +kernel
theorem dX11_restore_1 : decode cX11_restore 1 = .ok (.getfield 94, 3) := by decide +kernel
theorem dX11_restore_4 : decode cX11_restore 4 = .ok (.ifCond .ne 6, 3) := by decide +kernel
theorem dX11_restore_7 : decode cX11_restore 7 = .ok (.bipush (-103), 2) := by decide +kernel
theorem dX11_restore_9 : decode cX11_restore 9 = .ok (.ireturn, 1) := by decide +kernel
theorem dX11_restore_10 : decode cX11_restore 10 = .ok (.aload_n 0, 1) := by decide +kernel
theorem dX11_restore_11 : decode cX11_restore 11 = .ok (.getfield 26, 3) := by decide +kernel
theorem dX11_restore_14 : decode cX11_restore 14 = .ok (.aload_n 0, 1) := by decide +kernel
theorem dX11_restore_15 : decode cX11_restore 15 = .ok (.getfield 30, 3) := by decide +kernel
theorem dX11_restore_18 : decode cX11_restore 18 = .ok (.invokevirtual 223, 3) := by decide +kernel
theorem dX11_restore_21 : decode cX11_restore 21 = .ok (.aload_n 0, 1) := by decide +kernel
theorem dX11_restore_22 : decode cX11_restore 22 = .ok (.getfield 26, 3) := by decide +kernel
theorem dX11_restore_25 : decode cX11_restore 25 = .ok (.getfield 227, 3) := by decide +kernel
theorem dX11_restore_28 : decode cX11_restore 28 = .ok (.ireturn, 1) := by decide +kernel
theorem dX11_count_0 : decode cX11_count 0 = .ok (.iload_n 1, 1) := by decide +kernel
theorem dX11_count_1 : decode cX11_count 1 = .ok (.tableswitch 105 0 7 #[47, 55, 63, 71, 79, 87, 95, 100], 47) := by decide +kernel
theorem dX11_count_48 : decode cX11_count 48 = .ok (.aload_n 0, 1) := by decide +kernel
theorem dX11_count_49 : decode cX11_count 49 = .ok (.getfield 19, 3) := by decide +kernel
theorem dX11_count_52 : decode cX11_count 52 = .ok (.getfield 73, 3) := by decide +kernel
theorem dX11_count_55 : decode cX11_count 55 = .ok (.ireturn, 1) := by decide +kernel
theorem dX11_count_56 : decode cX11_count 56 = .ok (.aload_n 0, 1) := by decide +kernel
theorem dX11_count_57 : decode cX11_count 57 = .ok (.getfield 26, 3) := by decide +kernel
theorem dX11_count_60 : decode cX11_count 60 = .ok (.getfield 133, 3) := by decide +kernel
theorem dX11_count_63 : decode cX11_count 63 = .ok (.ireturn, 1) := by decide +kernel
theorem dX11_count_64 : decode cX11_count 64 = .ok (.aload_n 0, 1) := by decide +kernel
theorem dX11_count_65 : decode cX11_count 65 = .ok (.getfield 26, 3) := by decide +kernel
theorem dX11_count_68 : decode cX11_count 68 = .ok (.invokevirtual 228, 3) := by decide +kernel
theorem dX11_count_71 : decode cX11_count 71 = .ok (.ireturn, 1) := by decide +kernel
theorem dX11_count_72 : decode cX11_count 72 = .ok (.aload_n 0, 1) := by decide +kernel
theorem dX11_count_73 : decode cX11_count 73 = .ok (.getfield 26, 3) := by decide +kernel
theorem dX11_count_76 : decode cX11_count 76 = .ok (.getfield 227, 3) := by decide +kernel
theorem dX11_count_79 : decode cX11_count 79 = .ok (.ireturn, 1) := by decide +kernel
theorem dX11_count_80 : decode cX11_count 80 = .ok (.aload_n 0, 1) := by decide +kernel
theorem dX11_count_81 : decode cX11_count 81 = .ok (.getfield 26, 3) := by decide +kernel
theorem dX11_count_84 : decode cX11_count 84 = .ok (.invokevirtual 231, 3) := by decide +kernel
theorem dX11_count_87 : decode cX11_count 87 = .ok (.ireturn, 1) := by decide +kernel
theorem dX11_count_88 : decode cX11_count 88 = .ok (.aload_n 0, 1) := by decide +kernel
theorem dX11_count_89 : decode cX11_count 89 = .ok (.getfield 10, 3) := by decide +kernel
theorem dX11_count_92 : decode cX11_count 92 = .ok (.getfield 61, 3) := by decide +kernel
theorem dX11_count_95 : decode cX11_count 95 = .ok (.ireturn, 1) := by decide +kernel
theorem dX11_count_96 : decode cX11_count 96 = .ok (.aload_n 0, 1) := by decide +kernel
theorem dX11_count_97 : decode cX11_count 97 = .ok (.getfield 98, 3) := by decide +kernel
theorem dX11_count_100 : decode cX11_count 100 = .ok (.ireturn, 1) := by decide +kernel
theorem dX11_count_101 : decode cX11_count 101 = .ok (.aload_n 0, 1) := by decide +kernel
theorem dX11_count_102 : decode cX11_count 102 = .ok (.getfield 197, 3) := by decide +kernel
theorem dX11_count_105 : decode cX11_count 105 = .ok (.ireturn, 1) := by decide +kernel
theorem dX11_count_106 : decode cX11_count 106 = .ok (.bipush (-102), 2) := by decide +kernel
theorem dX11_count_108 : decode cX11_count 108 = .ok (.ireturn, 1) := by decide +kernel
theorem dX11_digest_0 : decode cX11_digest 0 = .ok (.ldc2_w 234, 3) := by decide +kernel
theorem dX11_digest_3 : decode cX11_digest 3 = .ok (.lstore_n 1, 1) := by decide +kernel
theorem dX11_digest_4 : decode cX11_digest 4 = .ok (.iconst 0, 1) := by decide +kernel
theorem dX11_digest_5 : decode cX11_digest 5 = .ok (.istore_n 3, 1) := by decide +kernel
theorem dX11_digest_6 : decode cX11_digest 6 = .ok (.iload_n 3, 1) := by decide +kernel
theorem dX11_digest_7 : decode cX11_digest 7 = .ok (.aload_n 0, 1) := by decide +kernel
theorem dX11_digest_8 : decode cX11_digest 8 = .ok (.getfield 19, 3) := by decide +kernel
theorem dX11_digest_11 : decode cX11_digest 11 = .ok (.getfield 73, 3) := by decide +kernel
theorem dX11_digest_14 : decode cX11_digest 14 = .ok (.if_icmp .ge 39, 3) := by decide +kernel
theorem dX11_digest_17 : decode cX11_digest 17 = .ok (.iconst 0, 1) := by decide +kernel
theorem dX11_digest_18 : decode cX11_digest 18 = .ok (.istore 4, 2) := by decide +kernel
theorem dX11_digest_20 : decode cX11_digest 20 = .ok (.iload 4, 2) := by decide +kernel
theorem dX11_digest_22 : decode cX11_digest 22 = .ok (.iconst 5, 1) := by decide +kernel
theorem dX11_digest_23 : decode cX11_digest 23 = .ok (.if_icmp .gt 24, 3) := by decide +kernel
theorem dX11_digest_26 : decode cX11_digest 26 = .ok (.ldc2_w 236, 3) := by decide +kernel
theorem dX11_digest_29 : decode cX11_digest 29 = .ok (.lload_n 1, 1) := by decide +kernel
theorem dX11_digest_30 : decode cX11_digest 30 = .ok (.lmul, 1) := by decide +kernel
theorem dX11_digest_31 : decode cX11_digest 31 = .ok (.aload_n 0, 1) := by decide +kernel
theorem dX11_digest_32 : decode cX11_digest 32 = .ok (.iload_n 3, 1) := by decide +kernel
theorem dX11_digest_33 : decode cX11_digest 33 = .ok (.iload 4, 2) := by decide +kernel
theorem dX11_digest_35 : decode cX11_digest 35 = .ok (.invokevirtual 238, 3) := by decide +kernel
theorem dX11_digest_38 : decode cX11_digest 38 = .ok (.i2l, 1) := by decide +kernel
theorem dX11_digest_39 : decode cX11_digest 39 = .ok (.ladd, 1) := by decide +kernel
theorem dX11_digest_40 : decode cX11_digest 40 = .ok (.lstore_n 1, 1) := by decide +kernel
theorem dX11_digest_41 : decode cX11_digest 41 = .ok (.iinc 4 1, 3) := by decide +kernel
theorem dX11_digest_44 : decode cX11_digest 44 = .ok (.goto (-24), 3) := by decide +kernel
theorem dX11_digest_47 : decode cX11_digest 47 = .ok (.iinc 3 1, 3) := by decide +kernel
theorem dX11_digest_50 : decode cX11_digest 50 = .ok (.goto (-44), 3) := by decide +kernel
theorem dX11_digest_53 : decode cX11_digest 53 = .ok (.iconst 0, 1) := by decide +kernel
theorem dX11_digest_54 : decode cX11_digest 54 = .ok (.istore_n 3, 1) := by decide +kernel
theorem dX11_digest_55 : decode cX11_digest 55 = .ok (.iload_n 3, 1) := by decide +kernel
theorem dX11_digest_56 : decode cX11_digest 56 = .ok (.aload_n 0, 1) := by decide +kernel
theorem dX11_digest_57 : decode cX11_digest 57 = .ok (.getfield 26, 3) := by decide +kernel
theorem dX11_digest_60 : decode cX11_digest 60 = .ok (.getfield 133, 3) := by decide +kernel
theorem dX11_digest_63 : decode cX11_digest 63 = .ok (.if_icmp .ge 16, 3) := by decide +kernel
theorem dX11_digest_66 : decode cX11_digest 66 = .ok (.aload_n 0, 1) := by decide +kernel
theorem dX11_digest_67 : decode cX11_digest 67 = .ok (.lload_n 1, 1) := by decide +kernel
theorem dX11_digest_68 : decode cX11_digest 68 = .ok (.iload_n 3, 1) := by decide +kernel
theorem dX11_digest_69 : decode cX11_digest 69 = .ok (.invokevirtual 241, 3) := by decide +kernel
theorem dX11_digest_72 : decode cX11_digest 72 = .ok (.lstore_n 1, 1) := by decide +kernel
theorem dX11_digest_73 : decode cX11_digest 73 = .ok (.iinc 3 1, 3) := by decide +kernel
theorem dX11_digest_76 : decode cX11_digest 76 = .ok (.goto (-21), 3) := by decide +kernel
theorem dX11_digest_79 : decode cX11_digest 79 = .ok (.iconst 0, 1) := by decide +kernel
theorem dX11_digest_80 : decode cX11_digest 80 = .ok (.istore_n 3, 1) := by decide +kernel
theorem dX11_digest_81 : decode cX11_digest 81 = .ok (.iload_n 3, 1) := by decide +kernel
theorem dX11_digest_82 : decode cX11_digest 82 = .ok (.aload_n 0, 1) := by decide +kernel
theorem dX11_digest_83 : decode cX11_digest 83 = .ok (.getfield 10, 3) := by decide +kernel
theorem dX11_digest_86 : decode cX11_digest 86 = .ok (.getfield 61, 3) := by decide +kernel
theorem dX11_digest_89 : decode cX11_digest 89 = .ok (.if_icmp .ge 25, 3) := by decide +kernel
theorem dX11_digest_92 : decode cX11_digest 92 = .ok (.ldc2_w 236, 3) := by decide +kernel
theorem dX11_digest_95 : decode cX11_digest 95 = .ok (.lload_n 1, 1) := by decide +kernel
theorem dX11_digest_96 : decode cX11_digest 96 = .ok (.lmul, 1) := by decide +kernel
theorem dX11_digest_97 : decode cX11_digest 97 = .ok (.aload_n 0, 1) := by decide +kernel
theorem dX11_digest_98 : decode cX11_digest 98 = .ok (.getfield 10, 3) := by decide +kernel
theorem dX11_digest_101 : decode cX11_digest 101 = .ok (.iload_n 3, 1) := by decide +kernel
theorem dX11_digest_102 : decode cX11_digest 102 = .ok (.invokevirtual 245, 3) := by decide +kernel
theorem dX11_digest_105 : decode cX11_digest 105 = .ok (.i2l, 1) := by decide +kernel
theorem dX11_digest_106 : decode cX11_digest 106 = .ok (.ladd, 1) := by decide +kernel
theorem dX11_digest_107 : decode cX11_digest 107 = .ok (.lstore_n 1, 1) := by decide +kernel
theorem dX11_digest_108 : decode cX11_digest 108 = .ok (.iinc 3 1, 3) := by decide +kernel
theorem dX11_digest_111 : decode cX11_digest 111 = .ok (.goto (-30), 3) := by decide +kernel
theorem dX11_digest_114 : decode cX11_digest 114 = .ok (.iconst 0, 1) := by decide +kernel
theorem dX11_digest_115 : decode cX11_digest 115 = .ok (.istore_n 3, 1) := by decide +kernel
theorem dX11_digest_116 : decode cX11_digest 116 = .ok (.iload_n 3, 1) := by decide +kernel
theorem dX11_digest_117 : decode cX11_digest 117 = .ok (.bipush 7, 2) := by decide +kernel
theorem dX11_digest_119 : decode cX11_digest 119 = .ok (.if_icmp .gt 22, 3) := by decide +kernel
theorem dX11_digest_122 : decode cX11_digest 122 = .ok (.ldc2_w 236, 3) := by decide +kernel
theorem dX11_digest_125 : decode cX11_digest 125 = .ok (.lload_n 1, 1) := by decide +kernel
theorem dX11_digest_126 : decode cX11_digest 126 = .ok (.lmul, 1) := by decide +kernel
theorem dX11_digest_127 : decode cX11_digest 127 = .ok (.aload_n 0, 1) := by decide +kernel
theorem dX11_digest_128 : decode cX11_digest 128 = .ok (.iload_n 3, 1) := by decide +kernel
theorem dX11_digest_129 : decode cX11_digest 129 = .ok (.invokevirtual 248, 3) := by decide +kernel
theorem dX11_digest_132 : decode cX11_digest 132 = .ok (.i2l, 1) := by decide +kernel
theorem dX11_digest_133 : decode cX11_digest 133 = .ok (.ladd, 1) := by decide +kernel
theorem dX11_digest_134 : decode cX11_digest 134 = .ok (.lstore_n 1, 1) := by decide +kernel
theorem dX11_digest_135 : decode cX11_digest 135 = .ok (.iinc 3 1, 3) := by decide +kernel
theorem dX11_digest_138 : decode cX11_digest 138 = .ok (.goto (-22), 3) := by decide +kernel
theorem dX11_digest_141 : decode cX11_digest 141 = .ok (.lload_n 1, 1) := by decide +kernel
theorem dX11_digest_142 : decode cX11_digest 142 = .ok (.lreturn, 1) := by decide +kernel
theorem dX11_mixedThing_0 : decode cX11_mixedThing 0 = .ok (.lload_n 1, 1) := by decide +kernel
theorem dX11_mixedThing_1 : decode cX11_mixedThing 1 = .ok (.lstore 4, 2) := by decide +kernel
theorem dX11_mixedThing_3 : decode cX11_mixedThing 3 = .ok (.iconst 0, 1) := by decide +kernel
theorem dX11_mixedThing_4 : decode cX11_mixedThing 4 = .ok (.istore 6, 2) := by decide +kernel
theorem dX11_mixedThing_6 : decode cX11_mixedThing 6 = .ok (.iload 6, 2) := by decide +kernel
theorem dX11_mixedThing_8 : decode cX11_mixedThing 8 = .ok (.bipush 6, 2) := by decide +kernel
theorem dX11_mixedThing_10 : decode cX11_mixedThing 10 = .ok (.if_icmp .gt 26, 3) := by decide +kernel
theorem dX11_mixedThing_13 : decode cX11_mixedThing 13 = .ok (.ldc2_w 236, 3) := by decide +kernel
theorem dX11_mixedThing_16 : decode cX11_mixedThing 16 = .ok (.lload 4, 2) := by decide +kernel
theorem dX11_mixedThing_18 : decode cX11_mixedThing 18 = .ok (.lmul, 1) := by decide +kernel
theorem dX11_mixedThing_19 : decode cX11_mixedThing 19 = .ok (.aload_n 0, 1) := by decide +kernel
theorem dX11_mixedThing_20 : decode cX11_mixedThing 20 = .ok (.iload_n 3, 1) := by decide +kernel
theorem dX11_mixedThing_21 : decode cX11_mixedThing 21 = .ok (.iload 6, 2) := by decide +kernel
theorem dX11_mixedThing_23 : decode cX11_mixedThing 23 = .ok (.invokevirtual 251, 3) := by decide +kernel
theorem dX11_mixedThing_26 : decode cX11_mixedThing 26 = .ok (.i2l, 1) := by decide +kernel
theorem dX11_mixedThing_27 : decode cX11_mixedThing 27 = .ok (.ladd, 1) := by decide +kernel
theorem dX11_mixedThing_28 : decode cX11_mixedThing 28 = .ok (.lstore 4, 2) := by decide +kernel
theorem dX11_mixedThing_30 : decode cX11_mixedThing 30 = .ok (.iinc 6 1, 3) := by decide +kernel
theorem dX11_mixedThing_33 : decode cX11_mixedThing 33 = .ok (.goto (-27), 3) := by decide +kernel
theorem dX11_mixedThing_36 : decode cX11_mixedThing 36 = .ok (.ldc2_w 236, 3) := by decide +kernel
theorem dX11_mixedThing_39 : decode cX11_mixedThing 39 = .ok (.lload 4, 2) := by decide +kernel
theorem dX11_mixedThing_41 : decode cX11_mixedThing 41 = .ok (.lmul, 1) := by decide +kernel
theorem dX11_mixedThing_42 : decode cX11_mixedThing 42 = .ok (.aload_n 0, 1) := by decide +kernel
theorem dX11_mixedThing_43 : decode cX11_mixedThing 43 = .ok (.iload_n 3, 1) := by decide +kernel
theorem dX11_mixedThing_44 : decode cX11_mixedThing 44 = .ok (.invokevirtual 254, 3) := by decide +kernel
theorem dX11_mixedThing_47 : decode cX11_mixedThing 47 = .ok (.i2l, 1) := by decide +kernel
theorem dX11_mixedThing_48 : decode cX11_mixedThing 48 = .ok (.ladd, 1) := by decide +kernel
theorem dX11_mixedThing_49 : decode cX11_mixedThing 49 = .ok (.lstore 4, 2) := by decide +kernel
theorem dX11_mixedThing_51 : decode cX11_mixedThing 51 = .ok (.iconst 0, 1) := by decide +kernel
theorem dX11_mixedThing_52 : decode cX11_mixedThing 52 = .ok (.istore 6, 2) := by decide +kernel
theorem dX11_mixedThing_54 : decode cX11_mixedThing 54 = .ok (.iload 6, 2) := by decide +kernel
theorem dX11_mixedThing_56 : decode cX11_mixedThing 56 = .ok (.iconst 3, 1) := by decide +kernel
theorem dX11_mixedThing_57 : decode cX11_mixedThing 57 = .ok (.if_icmp .gt 27, 3) := by decide +kernel
theorem dX11_mixedThing_60 : decode cX11_mixedThing 60 = .ok (.ldc2_w 236, 3) := by decide +kernel
theorem dX11_mixedThing_63 : decode cX11_mixedThing 63 = .ok (.lload 4, 2) := by decide +kernel
theorem dX11_mixedThing_65 : decode cX11_mixedThing 65 = .ok (.lmul, 1) := by decide +kernel
theorem dX11_mixedThing_66 : decode cX11_mixedThing 66 = .ok (.aload_n 0, 1) := by decide +kernel
theorem dX11_mixedThing_67 : decode cX11_mixedThing 67 = .ok (.iload_n 3, 1) := by decide +kernel
theorem dX11_mixedThing_68 : decode cX11_mixedThing 68 = .ok (.iconst 0, 1) := by decide +kernel
theorem dX11_mixedThing_69 : decode cX11_mixedThing 69 = .ok (.iload 6, 2) := by decide +kernel
theorem dX11_mixedThing_71 : decode cX11_mixedThing 71 = .ok (.invokevirtual 257, 3) := by decide +kernel
theorem dX11_mixedThing_74 : decode cX11_mixedThing 74 = .ok (.i2l, 1) := by decide +kernel
theorem dX11_mixedThing_75 : decode cX11_mixedThing 75 = .ok (.ladd, 1) := by decide +kernel
theorem dX11_mixedThing_76 : decode cX11_mixedThing 76 = .ok (.lstore 4, 2) := by decide +kernel
theorem dX11_mixedThing_78 : decode cX11_mixedThing 78 = .ok (.iinc 6 1, 3) := by decide +kernel
theorem dX11_mixedThing_81 : decode cX11_mixedThing 81 = .ok (.goto (-27), 3) := by decide +kernel
theorem dX11_mixedThing_84 : decode cX11_mixedThing 84 = .ok (.lload 4, 2) := by decide +kernel
theorem dX11_mixedThing_86 : decode cX11_mixedThing 86 = .ok (.lreturn, 1) := by decide +kernel
theorem dX11_isOfKind_0 : decode cX11_isOfKind 0 = .ok (.iload_n 1, 1) := by decide +kernel
theorem dX11_isOfKind_1 : decode cX11_isOfKind 1 = .ok (.tableswitch 57 0 4 #[35, 37, 42, 47, 52], 35) := by decide +kernel
theorem dX11_isOfKind_36 : decode cX11_isOfKind 36 = .ok (.iconst 1, 1) := by decide +kernel
theorem dX11_isOfKind_37 : decode cX11_isOfKind 37 = .ok (.ireturn, 1) := by decide +kernel
theorem dX11_isOfKind_38 : decode cX11_isOfKind 38 = .ok (.aload_n 0, 1) := by decide +kernel
theorem dX11_isOfKind_39 : decode cX11_isOfKind 39 = .ok (.instanceof 260, 3) := by decide +kernel
theorem dX11_isOfKind_42 : decode cX11_isOfKind 42 = .ok (.ireturn, 1) := by decide +kernel
theorem dX11_isOfKind_43 : decode cX11_isOfKind 43 = .ok (.aload_n 0, 1) := by decide +kernel
theorem dX11_isOfKind_44 : decode cX11_isOfKind 44 = .ok (.instanceof 262, 3) := by decide +kernel
theorem dX11_isOfKind_47 : decode cX11_isOfKind 47 = .ok (.ireturn, 1) := by decide +kernel
theorem dX11_isOfKind_48 : decode cX11_isOfKind 48 = .ok (.aload_n 0, 1) := by decide +kernel
theorem dX11_isOfKind_49 : decode cX11_isOfKind 49 = .ok (.instanceof 264, 3) := by decide +kernel
theorem dX11_isOfKind_52 : decode cX11_isOfKind 52 = .ok (.ireturn, 1) := by decide +kernel
theorem dX11_isOfKind_53 : decode cX11_isOfKind 53 = .ok (.aload_n 0, 1) := by decide +kernel
theorem dX11_isOfKind_54 : decode cX11_isOfKind 54 = .ok (.instanceof 266, 3) := by decide +kernel
theorem dX11_isOfKind_57 : decode cX11_isOfKind 57 = .ok (.ireturn, 1) := by decide +kernel
theorem dX11_isOfKind_58 : decode cX11_isOfKind 58 = .ok (.iconst 0, 1) := by decide +kernel
theorem dX11_isOfKind_59 : decode cX11_isOfKind 59 = .ok (.ireturn, 1) := by decide +kernel
theorem dX11_isState_0 : decode cX11_isState 0 = .ok (.iload_n 0, 1) := by decide +kernel
theorem dX11_isState_1 : decode cX11_isState 1 = .ok (.ifCond .lt 14, 3) := by decide +kernel
theorem dX11_isState_4 : decode cX11_isState 4 = .ok (.iload_n 0, 1) := by decide +kernel
theorem dX11_isState_5 : decode cX11_isState 5 = .ok (.sipush 512, 3) := by decide +kernel
theorem dX11_isState_8 : decode cX11_isState 8 = .ok (.if_icmp .ge 7, 3) := by decide +kernel
theorem dX11_isState_11 : decode cX11_isState 11 = .ok (.iconst 1, 1) := by decide +kernel
theorem dX11_isState_12 : decode cX11_isState 12 = .ok (.goto 4, 3) := by decide +kernel
theorem dX11_isState_15 : decode cX11_isState 15 = .ok (.iconst 0, 1) := by decide +kernel
theorem dX11_isState_16 : decode cX11_isState 16 = .ok (.ireturn, 1) := by decide +kernel
theorem dX11_traitOf_0 : decode cX11_traitOf 0 = .ok (.iload_n 0, 1) := by decide +kernel
theorem dX11_traitOf_1 : decode cX11_traitOf 1 = .ok (.iconst 3, 1) := by decide +kernel
theorem dX11_traitOf_2 : decode cX11_traitOf 2 = .ok (.iload_n 1, 1) := by decide +kernel
theorem dX11_traitOf_3 : decode cX11_traitOf 3 = .ok (.imul, 1) := by decide +kernel
theorem dX11_traitOf_4 : decode cX11_traitOf 4 = .ok (.ishr, 1) := by decide +kernel
theorem dX11_traitOf_5 : decode cX11_traitOf 5 = .ok (.bipush 7, 2) := by decide +kernel
theorem dX11_traitOf_7 : decode cX11_traitOf 7 = .ok (.iand, 1) := by decide +kernel
theorem dX11_traitOf_8 : decode cX11_traitOf 8 = .ok (.ireturn, 1) := by decide +kernel
theorem dX11_traitSum_0 : decode cX11_traitSum 0 = .ok (.iload_n 0, 1) := by decide +kernel
theorem dX11_traitSum_1 : decode cX11_traitSum 1 = .ok (.iconst 0, 1) := by decide +kernel
theorem dX11_traitSum_2 : decode cX11_traitSum 2 = .ok (.invokestatic 142, 3) := by decide +kernel
theorem dX11_traitSum_5 : decode cX11_traitSum 5 = .ok (.iload_n 0, 1) := by decide +kernel
theorem dX11_traitSum_6 : decode cX11_traitSum 6 = .ok (.iconst 1, 1) := by decide +kernel
theorem dX11_traitSum_7 : decode cX11_traitSum 7 = .ok (.invokestatic 142, 3) := by decide +kernel
theorem dX11_traitSum_10 : decode cX11_traitSum 10 = .ok (.iadd, 1) := by decide +kernel
theorem dX11_traitSum_11 : decode cX11_traitSum 11 = .ok (.iload_n 0, 1) := by decide +kernel
theorem dX11_traitSum_12 : decode cX11_traitSum 12 = .ok (.iconst 2, 1) := by decide +kernel
theorem dX11_traitSum_13 : decode cX11_traitSum 13 = .ok (.invokestatic 142, 3) := by decide +kernel
theorem dX11_traitSum_16 : decode cX11_traitSum 16 = .ok (.iadd, 1) := by decide +kernel
theorem dX11_traitSum_17 : decode cX11_traitSum 17 = .ok (.ireturn, 1) := by decide +kernel
theorem dX11_at_0 : decode cX11_at 0 = .ok (.iload_n 1, 1) := by decide +kernel
theorem dX11_at_1 : decode cX11_at 1 = .ok (.ifCond .lt 15, 3) := by decide +kernel
theorem dX11_at_4 : decode cX11_at 4 = .ok (.iload_n 1, 1) := by decide +kernel
theorem dX11_at_5 : decode cX11_at 5 = .ok (.aload_n 0, 1) := by decide +kernel
theorem dX11_at_6 : decode cX11_at 6 = .ok (.arraylength, 1) := by decide +kernel
theorem dX11_at_7 : decode cX11_at 7 = .ok (.if_icmp .ge 9, 3) := by decide +kernel
theorem dX11_at_10 : decode cX11_at 10 = .ok (.aload_n 0, 1) := by decide +kernel
theorem dX11_at_11 : decode cX11_at 11 = .ok (.iload_n 1, 1) := by decide +kernel
theorem dX11_at_12 : decode cX11_at 12 = .ok (.iaload, 1) := by decide +kernel
theorem dX11_at_13 : decode cX11_at 13 = .ok (.goto 4, 3) := by decide +kernel
theorem dX11_at_16 : decode cX11_at 16 = .ok (.iconst 0, 1) := by decide +kernel
theorem dX11_at_17 : decode cX11_at 17 = .ok (.ireturn, 1) := by decide +kernel
theorem dX11_put_0 : decode cX11_put 0 = .ok (.iload_n 1, 1) := by decide +kernel
theorem dX11_put_1 : decode cX11_put 1 = .ok (.ifCond .lt 13, 3) := by decide +kernel
theorem dX11_put_4 : decode cX11_put 4 = .ok (.iload_n 1, 1) := by decide +kernel
theorem dX11_put_5 : decode cX11_put 5 = .ok (.aload_n 0, 1) := by decide +kernel
theorem dX11_put_6 : decode cX11_put 6 = .ok (.arraylength, 1) := by decide +kernel
theorem dX11_put_7 : decode cX11_put 7 = .ok (.if_icmp .ge 7, 3) := by decide +kernel
theorem dX11_put_10 : decode cX11_put 10 = .ok (.aload_n 0, 1) := by decide +kernel
theorem dX11_put_11 : decode cX11_put 11 = .ok (.iload_n 1, 1) := by decide +kernel
theorem dX11_put_12 : decode cX11_put 12 = .ok (.iload_n 2, 1) := by decide +kernel
theorem dX11_put_13 : decode cX11_put 13 = .ok (.iastore, 1) := by decide +kernel
theorem dX11_put_14 : decode cX11_put 14 = .ok (.return_, 1) := by decide +kernel
theorem dX11_fill_0 : decode cX11_fill 0 = .ok (.iconst 0, 1) := by decide +kernel
theorem dX11_fill_1 : decode cX11_fill 1 = .ok (.istore_n 2, 1) := by decide +kernel
theorem dX11_fill_2 : decode cX11_fill 2 = .ok (.iload_n 2, 1) := by decide +kernel
theorem dX11_fill_3 : decode cX11_fill 3 = .ok (.aload_n 0, 1) := by decide +kernel
theorem dX11_fill_4 : decode cX11_fill 4 = .ok (.arraylength, 1) := by decide +kernel
theorem dX11_fill_5 : decode cX11_fill 5 = .ok (.if_icmp .ge 13, 3) := by decide +kernel
theorem dX11_fill_8 : decode cX11_fill 8 = .ok (.aload_n 0, 1) := by decide +kernel
theorem dX11_fill_9 : decode cX11_fill 9 = .ok (.iload_n 2, 1) := by decide +kernel
theorem dX11_fill_10 : decode cX11_fill 10 = .ok (.iload_n 1, 1) := by decide +kernel
theorem dX11_fill_11 : decode cX11_fill 11 = .ok (.iastore, 1) := by decide +kernel
theorem dX11_fill_12 : decode cX11_fill 12 = .ok (.iinc 2 1, 3) := by decide +kernel
theorem dX11_fill_15 : decode cX11_fill 15 = .ok (.goto (-13), 3) := by decide +kernel
theorem dX11_fill_18 : decode cX11_fill 18 = .ok (.return_, 1) := by decide +kernel
theorem dX12_init_0 : decode cX12_init 0 = .ok (.aload_n 0, 1) := by decide +kernel
theorem dX12_init_1 : decode cX12_init 1 = .ok (.invokespecial 1, 3) := by decide +kernel
theorem dX12_init_4 : decode cX12_init 4 = .ok (.aload_n 0, 1) := by decide +kernel
theorem dX12_init_5 : decode cX12_init 5 = .ok (.bipush 6, 2) := by decide +kernel
theorem dX12_init_7 : decode cX12_init 7 = .ok (.newarray .int, 2) := by decide +kernel
theorem dX12_init_9 : decode cX12_init 9 = .ok (.putfield 7, 3) := by decide +kernel
theorem dX12_init_12 : decode cX12_init 12 = .ok (.aload_n 0, 1) := by decide +kernel
theorem dX12_init_13 : decode cX12_init 13 = .ok (.bipush 6, 2) := by decide +kernel
theorem dX12_init_15 : decode cX12_init 15 = .ok (.newarray .int, 2) := by decide +kernel
theorem dX12_init_17 : decode cX12_init 17 = .ok (.putfield 13, 3) := by decide +kernel
theorem dX12_init_20 : decode cX12_init 20 = .ok (.aload_n 0, 1) := by decide +kernel
theorem dX12_init_21 : decode cX12_init 21 = .ok (.bipush 6, 2) := by decide +kernel
theorem dX12_init_23 : decode cX12_init 23 = .ok (.newarray .int, 2) := by decide +kernel
theorem dX12_init_25 : decode cX12_init 25 = .ok (.putfield 16, 3) := by decide +kernel
theorem dX12_init_28 : decode cX12_init 28 = .ok (.aload_n 0, 1) := by decide +kernel
theorem dX12_init_29 : decode cX12_init 29 = .ok (.bipush 6, 2) := by decide +kernel
theorem dX12_init_31 : decode cX12_init 31 = .ok (.newarray .int, 2) := by decide +kernel
theorem dX12_init_33 : decode cX12_init 33 = .ok (.putfield 19, 3) := by decide +kernel
theorem dX12_init_36 : decode cX12_init 36 = .ok (.aload_n 0, 1) := by decide +kernel
theorem dX12_init_37 : decode cX12_init 37 = .ok (.iconst 4, 1) := by decide +kernel
theorem dX12_init_38 : decode cX12_init 38 = .ok (.newarray .int, 2) := by decide +kernel
theorem dX12_init_40 : decode cX12_init 40 = .ok (.putfield 22, 3) := by decide +kernel
theorem dX12_init_43 : decode cX12_init 43 = .ok (.aload_n 0, 1) := by decide +kernel
theorem dX12_init_44 : decode cX12_init 44 = .ok (.iconst 4, 1) := by decide +kernel
theorem dX12_init_45 : decode cX12_init 45 = .ok (.newarray .int, 2) := by decide +kernel
theorem dX12_init_47 : decode cX12_init 47 = .ok (.putfield 25, 3) := by decide +kernel
theorem dX12_init_50 : decode cX12_init 50 = .ok (.aload_n 0, 1) := by decide +kernel
theorem dX12_init_51 : decode cX12_init 51 = .ok (.iconst 4, 1) := by decide +kernel
theorem dX12_init_52 : decode cX12_init 52 = .ok (.newarray .int, 2) := by decide +kernel
theorem dX12_init_54 : decode cX12_init 54 = .ok (.putfield 28, 3) := by decide +kernel
theorem dX12_init_57 : decode cX12_init 57 = .ok (.aload_n 0, 1) := by decide +kernel
theorem dX12_init_58 : decode cX12_init 58 = .ok (.iconst 4, 1) := by decide +kernel
theorem dX12_init_59 : decode cX12_init 59 = .ok (.newarray .int, 2) := by decide +kernel
theorem dX12_init_61 : decode cX12_init 61 = .ok (.putfield 31, 3) := by decide +kernel
theorem dX12_init_64 : decode cX12_init 64 = .ok (.aload_n 0, 1) := by decide +kernel
theorem dX12_init_65 : decode cX12_init 65 = .ok (.bipush 30, 2) := by decide +kernel
theorem dX12_init_67 : decode cX12_init 67 = .ok (.newarray .byte, 2) := by decide +kernel
theorem dX12_init_69 : decode cX12_init 69 = .ok (.putfield 34, 3) := by decide +kernel
theorem dX12_init_72 : decode cX12_init 72 = .ok (.aload_n 0, 1) := by decide +kernel
theorem dX12_init_73 : decode cX12_init 73 = .ok (.bipush 6, 2) := by decide +kernel
theorem dX12_init_75 : decode cX12_init 75 = .ok (.newarray .int, 2) := by decide +kernel
theorem dX12_init_77 : decode cX12_init 77 = .ok (.putfield 38, 3) := by decide +kernel
theorem dX12_init_80 : decode cX12_init 80 = .ok (.aload_n 0, 1) := by decide +kernel
theorem dX12_init_81 : decode cX12_init 81 = .ok (.bipush 6, 2) := by decide +kernel
theorem dX12_init_83 : decode cX12_init 83 = .ok (.newarray .int, 2) := by decide +kernel
theorem dX12_init_85 : decode cX12_init 85 = .ok (.putfield 41, 3) := by decide +kernel
theorem dX12_init_88 : decode cX12_init 88 = .ok (.aload_n 0, 1) := by decide +kernel
theorem dX12_init_89 : decode cX12_init 89 = .ok (.bipush 6, 2) := by decide +kernel
theorem dX12_init_91 : decode cX12_init 91 = .ok (.newarray .int, 2) := by decide +kernel
theorem dX12_init_93 : decode cX12_init 93 = .ok (.putfield 44, 3) := by decide +kernel
theorem dX12_init_96 : decode cX12_init 96 = .ok (.aload_n 0, 1) := by decide +kernel
theorem dX12_init_97 : decode cX12_init 97 = .ok (.bipush 6, 2) := by decide +kernel
theorem dX12_init_99 : decode cX12_init 99 = .ok (.newarray .int, 2) := by decide +kernel
theorem dX12_init_101 : decode cX12_init 101 = .ok (.putfield 47, 3) := by decide +kernel
theorem dX12_init_104 : decode cX12_init 104 = .ok (.aload_n 0, 1) := by decide +kernel
theorem dX12_init_105 : decode cX12_init 105 = .ok (.sipush 512, 3) := by decide +kernel
theorem dX12_init_108 : decode cX12_init 108 = .ok (.newarray .int, 2) := by decide +kernel
theorem dX12_init_110 : decode cX12_init 110 = .ok (.putfield 50, 3) := by decide +kernel
theorem dX12_init_113 : decode cX12_init 113 = .ok (.aload_n 0, 1) := by decide +kernel
theorem dX12_init_114 : decode cX12_init 114 = .ok (.sipush 512, 3) := by decide +kernel
theorem dX12_init_117 : decode cX12_init 117 = .ok (.newarray .int, 2) := by decide +kernel
theorem dX12_init_119 : decode cX12_init 119 = .ok (.putfield 53, 3) := by decide +kernel
theorem dX12_init_122 : decode cX12_init 122 = .ok (.aload_n 0, 1) := by decide +kernel
theorem dX12_init_123 : decode cX12_init 123 = .ok (.sipush 512, 3) := by decide +kernel
theorem dX12_init_126 : decode cX12_init 126 = .ok (.newarray .int, 2) := by decide +kernel
theorem dX12_init_128 : decode cX12_init 128 = .ok (.putfield 56, 3) := by decide +kernel
theorem dX12_init_131 : decode cX12_init 131 = .ok (.aload_n 0, 1) := by decide +kernel
theorem dX12_init_132 : decode cX12_init 132 = .ok (.sipush 512, 3) := by decide +kernel
theorem dX12_init_135 : decode cX12_init 135 = .ok (.newarray .int, 2) := by decide +kernel
theorem dX12_init_137 : decode cX12_init 137 = .ok (.putfield 59, 3) := by decide +kernel
theorem dX12_init_140 : decode cX12_init 140 = .ok (.aload_n 0, 1) := by decide +kernel
theorem dX12_init_141 : decode cX12_init 141 = .ok (.iconst 4, 1) := by decide +kernel
theorem dX12_init_142 : decode cX12_init 142 = .ok (.newarray .int, 2) := by decide +kernel
theorem dX12_init_144 : decode cX12_init 144 = .ok (.putfield 62, 3) := by decide +kernel
theorem dX12_init_147 : decode cX12_init 147 = .ok (.aload_n 0, 1) := by decide +kernel
theorem dX12_init_148 : decode cX12_init 148 = .ok (.iconst 4, 1) := by decide +kernel
theorem dX12_init_149 : decode cX12_init 149 = .ok (.newarray .int, 2) := by decide +kernel
theorem dX12_init_151 : decode cX12_init 151 = .ok (.putfield 65, 3) := by decide +kernel
theorem dX12_init_154 : decode cX12_init 154 = .ok (.aload_n 0, 1) := by decide +kernel
theorem dX12_init_155 : decode cX12_init 155 = .ok (.iconst 4, 1) := by decide +kernel
theorem dX12_init_156 : decode cX12_init 156 = .ok (.newarray .int, 2) := by decide +kernel
theorem dX12_init_158 : decode cX12_init 158 = .ok (.putfield 68, 3) := by decide +kernel
theorem dX12_init_161 : decode cX12_init 161 = .ok (.aload_n 0, 1) := by decide +kernel
theorem dX12_init_162 : decode cX12_init 162 = .ok (.iconst 4, 1) := by decide +kernel
theorem dX12_init_163 : decode cX12_init 163 = .ok (.newarray .int, 2) := by decide +kernel
theorem dX12_init_165 : decode cX12_init 165 = .ok (.putfield 71, 3) := by decide +kernel
theorem dX12_init_168 : decode cX12_init 168 = .ok (.aload_n 0, 1) := by decide +kernel
theorem dX12_init_169 : decode cX12_init 169 = .ok (.iconst 4, 1) := by decide +kernel
theorem dX12_init_170 : decode cX12_init 170 = .ok (.newarray .int, 2) := by decide +kernel
theorem dX12_init_172 : decode cX12_init 172 = .ok (.putfield 74, 3) := by decide +kernel
theorem dX12_init_175 : decode cX12_init 175 = .ok (.return_, 1) := by decide +kernel
theorem dX12_within_0 : decode cX12_within 0 = .ok (.iload_n 0, 1) := by decide +kernel
theorem dX12_within_1 : decode cX12_within 1 = .ok (.iload_n 1, 1) := by decide +kernel
theorem dX12_within_2 : decode cX12_within 2 = .ok (.if_icmp .lt 12, 3) := by decide +kernel
theorem dX12_within_5 : decode cX12_within 5 = .ok (.iload_n 0, 1) := by decide +kernel
theorem dX12_within_6 : decode cX12_within 6 = .ok (.iload_n 2, 1) := by decide +kernel
theorem dX12_within_7 : decode cX12_within 7 = .ok (.if_icmp .gt 7, 3) := by decide +kernel
theorem dX12_within_10 : decode cX12_within 10 = .ok (.iconst 1, 1) := by decide +kernel
theorem dX12_within_11 : decode cX12_within 11 = .ok (.goto 4, 3) := by decide +kernel
theorem dX12_within_14 : decode cX12_within 14 = .ok (.iconst 0, 1) := by decide +kernel
theorem dX12_within_15 : decode cX12_within 15 = .ok (.ireturn, 1) := by decide +kernel
theorem dX12_size_0 : decode cX12_size 0 = .ok (.iconst 0, 1) := by decide +kernel
theorem dX12_size_1 : decode cX12_size 1 = .ok (.istore_n 1, 1) := by decide +kernel
theorem dX12_size_2 : decode cX12_size 2 = .ok (.iconst 0, 1) := by decide +kernel
theorem dX12_size_3 : decode cX12_size 3 = .ok (.istore_n 2, 1) := by decide +kernel
theorem dX12_size_4 : decode cX12_size 4 = .ok (.iload_n 2, 1) := by decide +kernel
theorem dX12_size_5 : decode cX12_size 5 = .ok (.bipush 6, 2) := by decide +kernel
theorem dX12_size_7 : decode cX12_size 7 = .ok (.if_icmp .ge 17, 3) := by decide +kernel
theorem dX12_size_10 : decode cX12_size 10 = .ok (.iload_n 1, 1) := by decide +kernel
theorem dX12_size_11 : decode cX12_size 11 = .ok (.iload_n 0, 1) := by decide +kernel
theorem dX12_size_12 : decode cX12_size 12 = .ok (.iload_n 2, 1) := by decide +kernel
theorem dX12_size_13 : decode cX12_size 13 = .ok (.ishr, 1) := by decide +kernel
theorem dX12_size_14 : decode cX12_size 14 = .ok (.iconst 1, 1) := by decide +kernel
theorem dX12_size_15 : decode cX12_size 15 = .ok (.iand, 1) := by decide +kernel
theorem dX12_size_16 : decode cX12_size 16 = .ok (.iadd, 1) := by decide +kernel
theorem dX12_size_17 : decode cX12_size 17 = .ok (.istore_n 1, 1) := by decide +kernel
theorem dX12_size_18 : decode cX12_size 18 = .ok (.iinc 2 1, 3) := by decide +kernel
theorem dX12_size_21 : decode cX12_size 21 = .ok (.goto (-17), 3) := by decide +kernel
theorem dX12_size_24 : decode cX12_size 24 = .ok (.iload_n 1, 1) := by decide +kernel
theorem dX12_size_25 : decode cX12_size 25 = .ok (.ireturn, 1) := by decide +kernel
theorem dX12_letter_0 : decode cX12_letter 0 = .ok (.iload_n 1, 1) := by decide +kernel
theorem dX12_letter_1 : decode cX12_letter 1 = .ok (.bipush 32, 2) := by decide +kernel
theorem dX12_letter_3 : decode cX12_letter 3 = .ok (.bipush 126, 2) := by decide +kernel
theorem dX12_letter_5 : decode cX12_letter 5 = .ok (.invokestatic 77, 3) := by decide +kernel
theorem dX12_letter_8 : decode cX12_letter 8 = .ok (.ifCond .ne 6, 3) := by decide +kernel
theorem dX12_letter_11 : decode cX12_letter 11 = .ok (.bipush (-102), 2) := by decide +kernel
theorem dX12_letter_13 : decode cX12_letter 13 = .ok (.ireturn, 1) := by decide +kernel
theorem dX12_letter_14 : decode cX12_letter 14 = .ok (.aload_n 0, 1) := by decide +kernel
theorem dX12_letter_15 : decode cX12_letter 15 = .ok (.getfield 81, 3) := by decide +kernel
theorem dX12_letter_18 : decode cX12_letter 18 = .ok (.bipush 30, 2) := by decide +kernel
theorem dX12_letter_20 : decode cX12_letter 20 = .ok (.if_icmp .ne 6, 3) := by decide +kernel
theorem dX12_letter_23 : decode cX12_letter 23 = .ok (.bipush (-104), 2) := by decide +kernel
theorem dX12_letter_25 : decode cX12_letter 25 = .ok (.ireturn, 1) := by decide +kernel
theorem dX12_letter_26 : decode cX12_letter 26 = .ok (.aload_n 0, 1) := by decide +kernel
theorem dX12_letter_27 : decode cX12_letter 27 = .ok (.getfield 34, 3) := by decide +kernel
theorem dX12_letter_30 : decode cX12_letter 30 = .ok (.aload_n 0, 1) := by decide +kernel
theorem dX12_letter_31 : decode cX12_letter 31 = .ok (.getfield 81, 3) := by decide +kernel
theorem dX12_letter_34 : decode cX12_letter 34 = .ok (.iload_n 1, 1) := by decide +kernel
theorem dX12_letter_35 : decode cX12_letter 35 = .ok (.i2b, 1) := by decide +kernel
theorem dX12_letter_36 : decode cX12_letter 36 = .ok (.bastore, 1) := by decide +kernel
theorem dX12_letter_37 : decode cX12_letter 37 = .ok (.aload_n 0, 1) := by decide +kernel
theorem dX12_letter_38 : decode cX12_letter 38 = .ok (.dup, 1) := by decide +kernel
theorem dX12_letter_39 : decode cX12_letter 39 = .ok (.getfield 81, 3) := by decide +kernel
theorem dX12_letter_42 : decode cX12_letter 42 = .ok (.iconst 1, 1) := by decide +kernel
theorem dX12_letter_43 : decode cX12_letter 43 = .ok (.iadd, 1) := by decide +kernel
theorem dX12_letter_44 : decode cX12_letter 44 = .ok (.putfield 81, 3) := by decide +kernel
theorem dX12_letter_47 : decode cX12_letter 47 = .ok (.aload_n 0, 1) := by decide +kernel
theorem dX12_letter_48 : decode cX12_letter 48 = .ok (.getfield 81, 3) := by decide +kernel
theorem dX12_letter_51 : decode cX12_letter 51 = .ok (.ireturn, 1) := by decide +kernel
theorem dX12_blank_0 : decode cX12_blank 0 = .ok (.aload_n 0, 1) := by decide +kernel
theorem dX12_blank_1 : decode cX12_blank 1 = .ok (.getfield 81, 3) := by decide +kernel
theorem dX12_blank_4 : decode cX12_blank 4 = .ok (.istore_n 1, 1) := by decide +kernel
theorem dX12_blank_5 : decode cX12_blank 5 = .ok (.aload_n 0, 1) := by decide +kernel
theorem dX12_blank_6 : decode cX12_blank 6 = .ok (.iconst 0, 1) := by decide +kernel
theorem dX12_blank_7 : decode cX12_blank 7 = .ok (.putfield 81, 3) := by decide +kernel
theorem dX12_blank_10 : decode cX12_blank 10 = .ok (.iload_n 1, 1) := by decide +kernel
theorem dX12_blank_11 : decode cX12_blank 11 = .ok (.ireturn, 1) := by decide +kernel
theorem dX12_kindBy_0 : decode cX12_kindBy 0 = .ok (.iload_n 0, 1) := by decide +kernel
theorem dX12_kindBy_1 : decode cX12_kindBy 1 = .ok (.lookupswitch 61 #[(97, 51), (100, 59), (115, 53), (116, 55), (119, 57)], 51) := by decide +kernel
theorem dX12_kindBy_52 : decode cX12_kindBy 52 = .ok (.iconst 0, 1) := by decide +kernel
theorem dX12_kindBy_53 : decode cX12_kindBy 53 = .ok (.ireturn, 1) := by decide +kernel
theorem dX12_kindBy_54 : decode cX12_kindBy 54 = .ok (.iconst 1, 1) := by decide +kernel
theorem dX12_kindBy_55 : decode cX12_kindBy 55 = .ok (.ireturn, 1) := by decide +kernel
theorem dX12_kindBy_56 : decode cX12_kindBy 56 = .ok (.iconst 2, 1) := by decide +kernel
theorem dX12_kindBy_57 : decode cX12_kindBy 57 = .ok (.ireturn, 1) := by decide +kernel
theorem dX12_kindBy_58 : decode cX12_kindBy 58 = .ok (.iconst 3, 1) := by decide +kernel
theorem dX12_kindBy_59 : decode cX12_kindBy 59 = .ok (.ireturn, 1) := by decide +kernel
theorem dX12_kindBy_60 : decode cX12_kindBy 60 = .ok (.iconst 4, 1) := by decide +kernel
theorem dX12_kindBy_61 : decode cX12_kindBy 61 = .ok (.ireturn, 1) := by decide +kernel
theorem dX12_kindBy_62 : decode cX12_kindBy 62 = .ok (.iconst (-1), 1) := by decide +kernel
theorem dX12_kindBy_63 : decode cX12_kindBy 63 = .ok (.ireturn, 1) := by decide +kernel
theorem dX12_isGood_0 : decode cX12_isGood 0 = .ok (.aload_n 0, 1) := by decide +kernel
theorem dX12_isGood_1 : decode cX12_isGood 1 = .ok (.getfield 34, 3) := by decide +kernel
theorem dX12_isGood_4 : decode cX12_isGood 4 = .ok (.iload_n 1, 1) := by decide +kernel
theorem dX12_isGood_5 : decode cX12_isGood 5 = .ok (.baload, 1) := by decide +kernel
theorem dX12_isGood_6 : decode cX12_isGood 6 = .ok (.bipush 48, 2) := by decide +kernel
theorem dX12_isGood_8 : decode cX12_isGood 8 = .ok (.isub, 1) := by decide +kernel
theorem dX12_isGood_9 : decode cX12_isGood 9 = .ok (.istore_n 2, 1) := by decide +kernel
theorem dX12_isGood_10 : decode cX12_isGood 10 = .ok (.iload_n 1, 1) := by decide +kernel
theorem dX12_isGood_11 : decode cX12_isGood 11 = .ok (.iconst 5, 1) := by decide +kernel
theorem dX12_isGood_12 : decode cX12_isGood 12 = .ok (.idiv, 1) := by decide +kernel
theorem dX12_isGood_13 : decode cX12_isGood 13 = .ok (.istore_n 3, 1) := by decide +kernel
theorem dX12_isGood_14 : decode cX12_isGood 14 = .ok (.iload_n 1, 1) := by decide +kernel
theorem dX12_isGood_15 : decode cX12_isGood 15 = .ok (.iconst 5, 1) := by decide +kernel
theorem dX12_isGood_16 : decode cX12_isGood 16 = .ok (.irem, 1) := by decide +kernel
theorem dX12_isGood_17 : decode cX12_isGood 17 = .ok (.tableswitch 72 0 3 #[31, 50, 57, 65], 31) := by decide +kernel
theorem dX12_isGood_48 : decode cX12_isGood 48 = .ok (.aload_n 0, 1) := by decide +kernel
theorem dX12_isGood_49 : decode cX12_isGood 49 = .ok (.getfield 34, 3) := by decide +kernel
theorem dX12_isGood_52 : decode cX12_isGood 52 = .ok (.iload_n 1, 1) := by decide +kernel
theorem dX12_isGood_53 : decode cX12_isGood 53 = .ok (.baload, 1) := by decide +kernel
theorem dX12_isGood_54 : decode cX12_isGood 54 = .ok (.invokestatic 85, 3) := by decide +kernel
theorem dX12_isGood_57 : decode cX12_isGood 57 = .ok (.iconst (-1), 1) := by decide +kernel
theorem dX12_isGood_58 : decode cX12_isGood 58 = .ok (.if_icmp .eq 7, 3) := by decide +kernel
theorem dX12_isGood_61 : decode cX12_isGood 61 = .ok (.iconst 1, 1) := by decide +kernel
theorem dX12_isGood_62 : decode cX12_isGood 62 = .ok (.goto 4, 3) := by decide +kernel
theorem dX12_isGood_65 : decode cX12_isGood 65 = .ok (.iconst 0, 1) := by decide +kernel
theorem dX12_isGood_66 : decode cX12_isGood 66 = .ok (.ireturn, 1) := by decide +kernel
theorem dX12_isGood_67 : decode cX12_isGood 67 = .ok (.iload_n 2, 1) := by decide +kernel
theorem dX12_isGood_68 : decode cX12_isGood 68 = .ok (.iconst 0, 1) := by decide +kernel
theorem dX12_isGood_69 : decode cX12_isGood 69 = .ok (.iconst 2, 1) := by decide +kernel
theorem dX12_isGood_70 : decode cX12_isGood 70 = .ok (.invokestatic 77, 3) := by decide +kernel
theorem dX12_isGood_73 : decode cX12_isGood 73 = .ok (.ireturn, 1) := by decide +kernel
theorem dX12_isGood_74 : decode cX12_isGood 74 = .ok (.iload_n 2, 1) := by decide +kernel
theorem dX12_isGood_75 : decode cX12_isGood 75 = .ok (.iconst 1, 1) := by decide +kernel
theorem dX12_isGood_76 : decode cX12_isGood 76 = .ok (.bipush 7, 2) := by decide +kernel
theorem dX12_isGood_78 : decode cX12_isGood 78 = .ok (.invokestatic 77, 3) := by decide +kernel
theorem dX12_isGood_81 : decode cX12_isGood 81 = .ok (.ireturn, 1) := by decide +kernel
theorem dX12_isGood_82 : decode cX12_isGood 82 = .ok (.iload_n 2, 1) := by decide +kernel
theorem dX12_isGood_83 : decode cX12_isGood 83 = .ok (.iconst 1, 1) := by decide +kernel
theorem dX12_isGood_84 : decode cX12_isGood 84 = .ok (.iconst 5, 1) := by decide +kernel
theorem dX12_isGood_85 : decode cX12_isGood 85 = .ok (.invokestatic 77, 3) := by decide +kernel
theorem dX12_isGood_88 : decode cX12_isGood 88 = .ok (.ireturn, 1) := by decide +kernel
theorem dX12_isGood_89 : decode cX12_isGood 89 = .ok (.aload_n 0, 1) := by decide +kernel
theorem dX12_isGood_90 : decode cX12_isGood 90 = .ok (.getfield 34, 3) := by decide +kernel
theorem dX12_isGood_93 : decode cX12_isGood 93 = .ok (.iload_n 1, 1) := by decide +kernel
theorem dX12_isGood_94 : decode cX12_isGood 94 = .ok (.baload, 1) := by decide +kernel
theorem dX12_isGood_95 : decode cX12_isGood 95 = .ok (.bipush 44, 2) := by decide +kernel
theorem dX12_isGood_97 : decode cX12_isGood 97 = .ok (.if_icmp .ne 12, 3) := by decide +kernel
theorem dX12_isGood_100 : decode cX12_isGood 100 = .ok (.iload_n 3, 1) := by decide +kernel
theorem dX12_isGood_101 : decode cX12_isGood 101 = .ok (.iconst 5, 1) := by decide +kernel
theorem dX12_isGood_102 : decode cX12_isGood 102 = .ok (.if_icmp .ge 7, 3) := by decide +kernel
theorem dX12_isGood_105 : decode cX12_isGood 105 = .ok (.iconst 1, 1) := by decide +kernel
theorem dX12_isGood_106 : decode cX12_isGood 106 = .ok (.goto 4, 3) := by decide +kernel
theorem dX12_isGood_109 : decode cX12_isGood 109 = .ok (.iconst 0, 1) := by decide +kernel
theorem dX12_isGood_110 : decode cX12_isGood 110 = .ok (.ireturn, 1) := by decide +kernel
theorem dX12_readTown_0 : decode cX12_readTown 0 = .ok (.iconst 0, 1) := by decide +kernel
theorem dX12_readTown_1 : decode cX12_readTown 1 = .ok (.istore_n 1, 1) := by decide +kernel
theorem dX12_readTown_2 : decode cX12_readTown 2 = .ok (.iload_n 1, 1) := by decide +kernel
theorem dX12_readTown_3 : decode cX12_readTown 3 = .ok (.aload_n 0, 1) := by decide +kernel
theorem dX12_readTown_4 : decode cX12_readTown 4 = .ok (.getfield 81, 3) := by decide +kernel
theorem dX12_readTown_7 : decode cX12_readTown 7 = .ok (.if_icmp .ge 17, 3) := by decide +kernel
theorem dX12_readTown_10 : decode cX12_readTown 10 = .ok (.aload_n 0, 1) := by decide +kernel
theorem dX12_readTown_11 : decode cX12_readTown 11 = .ok (.iload_n 1, 1) := by decide +kernel
theorem dX12_readTown_12 : decode cX12_readTown 12 = .ok (.invokevirtual 89, 3) := by decide +kernel
theorem dX12_readTown_15 : decode cX12_readTown 15 = .ok (.ifCond .eq 9, 3) := by decide +kernel
theorem dX12_readTown_18 : decode cX12_readTown 18 = .ok (.iinc 1 1, 3) := by decide +kernel
theorem dX12_readTown_21 : decode cX12_readTown 21 = .ok (.goto (-19), 3) := by decide +kernel
theorem dX12_readTown_24 : decode cX12_readTown 24 = .ok (.aload_n 0, 1) := by decide +kernel
theorem dX12_readTown_25 : decode cX12_readTown 25 = .ok (.iload_n 1, 1) := by decide +kernel
theorem dX12_readTown_26 : decode cX12_readTown 26 = .ok (.putfield 93, 3) := by decide +kernel
theorem dX12_readTown_29 : decode cX12_readTown 29 = .ok (.aload_n 0, 1) := by decide +kernel
theorem dX12_readTown_30 : decode cX12_readTown 30 = .ok (.iload_n 1, 1) := by decide +kernel
theorem dX12_readTown_31 : decode cX12_readTown 31 = .ok (.aload_n 0, 1) := by decide +kernel
theorem dX12_readTown_32 : decode cX12_readTown 32 = .ok (.getfield 81, 3) := by decide +kernel
theorem dX12_readTown_35 : decode cX12_readTown 35 = .ok (.if_icmp .ne 20, 3) := by decide +kernel
theorem dX12_readTown_38 : decode cX12_readTown 38 = .ok (.iload_n 1, 1) := by decide +kernel
theorem dX12_readTown_39 : decode cX12_readTown 39 = .ok (.iconst 5, 1) := by decide +kernel
theorem dX12_readTown_40 : decode cX12_readTown 40 = .ok (.irem, 1) := by decide +kernel
theorem dX12_readTown_41 : decode cX12_readTown 41 = .ok (.iconst 4, 1) := by decide +kernel
theorem dX12_readTown_42 : decode cX12_readTown 42 = .ok (.if_icmp .ne 13, 3) := by decide +kernel
theorem dX12_readTown_45 : decode cX12_readTown 45 = .ok (.iload_n 1, 1) := by decide +kernel
theorem dX12_readTown_46 : decode cX12_readTown 46 = .ok (.bipush 8, 2) := by decide +kernel
theorem dX12_readTown_48 : decode cX12_readTown 48 = .ok (.if_icmp .le 7, 3) := by decide +kernel
theorem dX12_readTown_51 : decode cX12_readTown 51 = .ok (.iconst 1, 1) := by decide +kernel
theorem dX12_readTown_52 : decode cX12_readTown 52 = .ok (.goto 4, 3) := by decide +kernel
theorem dX12_readTown_55 : decode cX12_readTown 55 = .ok (.iconst 0, 1) := by decide +kernel
theorem dX12_readTown_56 : decode cX12_readTown 56 = .ok (.putfield 96, 3) := by decide +kernel
theorem dX12_readTown_59 : decode cX12_readTown 59 = .ok (.aload_n 0, 1) := by decide +kernel
theorem dX12_readTown_60 : decode cX12_readTown 60 = .ok (.iload_n 1, 1) := by decide +kernel
theorem dX12_readTown_61 : decode cX12_readTown 61 = .ok (.iconst 1, 1) := by decide +kernel
theorem dX12_readTown_62 : decode cX12_readTown 62 = .ok (.iadd, 1) := by decide +kernel
theorem dX12_readTown_63 : decode cX12_readTown 63 = .ok (.iconst 5, 1) := by decide +kernel
theorem dX12_readTown_64 : decode cX12_readTown 64 = .ok (.idiv, 1) := by decide +kernel
theorem dX12_readTown_65 : decode cX12_readTown 65 = .ok (.putfield 100, 3) := by decide +kernel
theorem dX12_readTown_68 : decode cX12_readTown 68 = .ok (.iconst 0, 1) := by decide +kernel
theorem dX12_readTown_69 : decode cX12_readTown 69 = .ok (.istore_n 2, 1) := by decide +kernel
theorem dX12_readTown_70 : decode cX12_readTown 70 = .ok (.iload_n 2, 1) := by decide +kernel
theorem dX12_readTown_71 : decode cX12_readTown 71 = .ok (.aload_n 0, 1) := by decide +kernel
theorem dX12_readTown_72 : decode cX12_readTown 72 = .ok (.getfield 100, 3) := by decide +kernel
theorem dX12_readTown_75 : decode cX12_readTown 75 = .ok (.if_icmp .ge 90, 3) := by decide +kernel
theorem dX12_readTown_78 : decode cX12_readTown 78 = .ok (.aload_n 0, 1) := by decide +kernel
theorem dX12_readTown_79 : decode cX12_readTown 79 = .ok (.getfield 96, 3) := by decide +kernel
theorem dX12_readTown_82 : decode cX12_readTown 82 = .ok (.ifCond .eq 83, 3) := by decide +kernel
theorem dX12_readTown_85 : decode cX12_readTown 85 = .ok (.aload_n 0, 1) := by decide +kernel
theorem dX12_readTown_86 : decode cX12_readTown 86 = .ok (.getfield 38, 3) := by decide +kernel
theorem dX12_readTown_89 : decode cX12_readTown 89 = .ok (.iload_n 2, 1) := by decide +kernel
theorem dX12_readTown_90 : decode cX12_readTown 90 = .ok (.aload_n 0, 1) := by decide +kernel
theorem dX12_readTown_91 : decode cX12_readTown 91 = .ok (.getfield 34, 3) := by decide +kernel
theorem dX12_readTown_94 : decode cX12_readTown 94 = .ok (.iconst 5, 1) := by decide +kernel
theorem dX12_readTown_95 : decode cX12_readTown 95 = .ok (.iload_n 2, 1) := by decide +kernel
theorem dX12_readTown_96 : decode cX12_readTown 96 = .ok (.imul, 1) := by decide +kernel
theorem dX12_readTown_97 : decode cX12_readTown 97 = .ok (.baload, 1) := by decide +kernel
theorem dX12_readTown_98 : decode cX12_readTown 98 = .ok (.invokestatic 85, 3) := by decide +kernel
theorem dX12_readTown_101 : decode cX12_readTown 101 = .ok (.iastore, 1) := by decide +kernel
theorem dX12_readTown_102 : decode cX12_readTown 102 = .ok (.aload_n 0, 1) := by decide +kernel
theorem dX12_readTown_103 : decode cX12_readTown 103 = .ok (.getfield 41, 3) := by decide +kernel
theorem dX12_readTown_106 : decode cX12_readTown 106 = .ok (.iload_n 2, 1) := by decide +kernel
theorem dX12_readTown_107 : decode cX12_readTown 107 = .ok (.aload_n 0, 1) := by decide +kernel
theorem dX12_readTown_108 : decode cX12_readTown 108 = .ok (.getfield 34, 3) := by decide +kernel
theorem dX12_readTown_111 : decode cX12_readTown 111 = .ok (.iconst 5, 1) := by decide +kernel
theorem dX12_readTown_112 : decode cX12_readTown 112 = .ok (.iload_n 2, 1) := by decide +kernel
theorem dX12_readTown_113 : decode cX12_readTown 113 = .ok (.imul, 1) := by decide +kernel
theorem dX12_readTown_114 : decode cX12_readTown 114 = .ok (.iconst 1, 1) := by decide +kernel
theorem dX12_readTown_115 : decode cX12_readTown 115 = .ok (.iadd, 1) := by decide +kernel
theorem dX12_readTown_116 : decode cX12_readTown 116 = .ok (.baload, 1) := by decide +kernel
theorem dX12_readTown_117 : decode cX12_readTown 117 = .ok (.bipush 48, 2) := by decide +kernel
theorem dX12_readTown_119 : decode cX12_readTown 119 = .ok (.isub, 1) := by decide +kernel
theorem dX12_readTown_120 : decode cX12_readTown 120 = .ok (.iastore, 1) := by decide +kernel
theorem dX12_readTown_121 : decode cX12_readTown 121 = .ok (.aload_n 0, 1) := by decide +kernel
theorem dX12_readTown_122 : decode cX12_readTown 122 = .ok (.getfield 44, 3) := by decide +kernel
theorem dX12_readTown_125 : decode cX12_readTown 125 = .ok (.iload_n 2, 1) := by decide +kernel
theorem dX12_readTown_126 : decode cX12_readTown 126 = .ok (.aload_n 0, 1) := by decide +kernel
theorem dX12_readTown_127 : decode cX12_readTown 127 = .ok (.getfield 34, 3) := by decide +kernel
theorem dX12_readTown_130 : decode cX12_readTown 130 = .ok (.iconst 5, 1) := by decide +kernel
theorem dX12_readTown_131 : decode cX12_readTown 131 = .ok (.iload_n 2, 1) := by decide +kernel
theorem dX12_readTown_132 : decode cX12_readTown 132 = .ok (.imul, 1) := by decide +kernel
theorem dX12_readTown_133 : decode cX12_readTown 133 = .ok (.iconst 2, 1) := by decide +kernel
theorem dX12_readTown_134 : decode cX12_readTown 134 = .ok (.iadd, 1) := by decide +kernel
theorem dX12_readTown_135 : decode cX12_readTown 135 = .ok (.baload, 1) := by decide +kernel
theorem dX12_readTown_136 : decode cX12_readTown 136 = .ok (.bipush 48, 2) := by decide +kernel
theorem dX12_readTown_138 : decode cX12_readTown 138 = .ok (.isub, 1) := by decide +kernel
theorem dX12_readTown_139 : decode cX12_readTown 139 = .ok (.iastore, 1) := by decide +kernel
theorem dX12_readTown_140 : decode cX12_readTown 140 = .ok (.aload_n 0, 1) := by decide +kernel
theorem dX12_readTown_141 : decode cX12_readTown 141 = .ok (.getfield 47, 3) := by decide +kernel
theorem dX12_readTown_144 : decode cX12_readTown 144 = .ok (.iload_n 2, 1) := by decide +kernel
theorem dX12_readTown_145 : decode cX12_readTown 145 = .ok (.aload_n 0, 1) := by decide +kernel
theorem dX12_readTown_146 : decode cX12_readTown 146 = .ok (.getfield 34, 3) := by decide +kernel
theorem dX12_readTown_149 : decode cX12_readTown 149 = .ok (.iconst 5, 1) := by decide +kernel
theorem dX12_readTown_150 : decode cX12_readTown 150 = .ok (.iload_n 2, 1) := by decide +kernel
theorem dX12_readTown_151 : decode cX12_readTown 151 = .ok (.imul, 1) := by decide +kernel
theorem dX12_readTown_152 : decode cX12_readTown 152 = .ok (.iconst 3, 1) := by decide +kernel
theorem dX12_readTown_153 : decode cX12_readTown 153 = .ok (.iadd, 1) := by decide +kernel
theorem dX12_readTown_154 : decode cX12_readTown 154 = .ok (.baload, 1) := by decide +kernel
theorem dX12_readTown_155 : decode cX12_readTown 155 = .ok (.bipush 48, 2) := by decide +kernel
theorem dX12_readTown_157 : decode cX12_readTown 157 = .ok (.isub, 1) := by decide +kernel
theorem dX12_readTown_158 : decode cX12_readTown 158 = .ok (.iastore, 1) := by decide +kernel
theorem dX12_readTown_159 : decode cX12_readTown 159 = .ok (.iinc 2 1, 3) := by decide +kernel
theorem dX12_readTown_162 : decode cX12_readTown 162 = .ok (.goto (-92), 3) := by decide +kernel
theorem dX12_readTown_165 : decode cX12_readTown 165 = .ok (.return_, 1) := by decide +kernel
theorem dX12_readRound_0 : decode cX12_readRound 0 = .ok (.iconst 0, 1) := by decide +kernel
theorem dX12_readRound_1 : decode cX12_readRound 1 = .ok (.istore_n 1, 1) := by decide +kernel
theorem dX12_readRound_2 : decode cX12_readRound 2 = .ok (.iload_n 1, 1) := by decide +kernel
theorem dX12_readRound_3 : decode cX12_readRound 3 = .ok (.aload_n 0, 1) := by decide +kernel
theorem dX12_readRound_4 : decode cX12_readRound 4 = .ok (.getfield 81, 3) := by decide +kernel
theorem dX12_readRound_7 : decode cX12_readRound 7 = .ok (.if_icmp .ge 37, 3) := by decide +kernel
theorem dX12_readRound_10 : decode cX12_readRound 10 = .ok (.iload_n 1, 1) := by decide +kernel
theorem dX12_readRound_11 : decode cX12_readRound 11 = .ok (.bipush 8, 2) := by decide +kernel
theorem dX12_readRound_13 : decode cX12_readRound 13 = .ok (.if_icmp .ge 31, 3) := by decide +kernel
theorem dX12_readRound_16 : decode cX12_readRound 16 = .ok (.aload_n 0, 1) := by decide +kernel
theorem dX12_readRound_17 : decode cX12_readRound 17 = .ok (.getfield 34, 3) := by decide +kernel
theorem dX12_readRound_20 : decode cX12_readRound 20 = .ok (.iload_n 1, 1) := by decide +kernel
theorem dX12_readRound_21 : decode cX12_readRound 21 = .ok (.baload, 1) := by decide +kernel
theorem dX12_readRound_22 : decode cX12_readRound 22 = .ok (.bipush 48, 2) := by decide +kernel
theorem dX12_readRound_24 : decode cX12_readRound 24 = .ok (.isub, 1) := by decide +kernel
theorem dX12_readRound_25 : decode cX12_readRound 25 = .ok (.iconst 0, 1) := by decide +kernel
theorem dX12_readRound_26 : decode cX12_readRound 26 = .ok (.aload_n 0, 1) := by decide +kernel
theorem dX12_readRound_27 : decode cX12_readRound 27 = .ok (.getfield 103, 3) := by decide +kernel
theorem dX12_readRound_30 : decode cX12_readRound 30 = .ok (.iconst 1, 1) := by decide +kernel
theorem dX12_readRound_31 : decode cX12_readRound 31 = .ok (.isub, 1) := by decide +kernel
theorem dX12_readRound_32 : decode cX12_readRound 32 = .ok (.invokestatic 77, 3) := by decide +kernel
theorem dX12_readRound_35 : decode cX12_readRound 35 = .ok (.ifCond .eq 9, 3) := by decide +kernel
theorem dX12_readRound_38 : decode cX12_readRound 38 = .ok (.iinc 1 1, 3) := by decide +kernel
theorem dX12_readRound_41 : decode cX12_readRound 41 = .ok (.goto (-39), 3) := by decide +kernel
theorem dX12_readRound_44 : decode cX12_readRound 44 = .ok (.aload_n 0, 1) := by decide +kernel
theorem dX12_readRound_45 : decode cX12_readRound 45 = .ok (.iload_n 1, 1) := by decide +kernel
theorem dX12_readRound_46 : decode cX12_readRound 46 = .ok (.putfield 93, 3) := by decide +kernel
theorem dX12_readRound_49 : decode cX12_readRound 49 = .ok (.aload_n 0, 1) := by decide +kernel
theorem dX12_readRound_50 : decode cX12_readRound 50 = .ok (.iload_n 1, 1) := by decide +kernel
theorem dX12_readRound_51 : decode cX12_readRound 51 = .ok (.aload_n 0, 1) := by decide +kernel
theorem dX12_readRound_52 : decode cX12_readRound 52 = .ok (.getfield 81, 3) := by decide +kernel
theorem dX12_readRound_55 : decode cX12_readRound 55 = .ok (.if_icmp .ne 11, 3) := by decide +kernel
theorem dX12_readRound_58 : decode cX12_readRound 58 = .ok (.iload_n 1, 1) := by decide +kernel
theorem dX12_readRound_59 : decode cX12_readRound 59 = .ok (.ifCond .le 7, 3) := by decide +kernel
theorem dX12_readRound_62 : decode cX12_readRound 62 = .ok (.iconst 1, 1) := by decide +kernel
theorem dX12_readRound_63 : decode cX12_readRound 63 = .ok (.goto 4, 3) := by decide +kernel
theorem dX12_readRound_66 : decode cX12_readRound 66 = .ok (.iconst 0, 1) := by decide +kernel
theorem dX12_readRound_67 : decode cX12_readRound 67 = .ok (.putfield 96, 3) := by decide +kernel
theorem dX12_readRound_70 : decode cX12_readRound 70 = .ok (.return_, 1) := by decide +kernel
theorem dX12_fault_0 : decode cX12_fault 0 = .ok (.iload_n 1, 1) := by decide +kernel
theorem dX12_fault_1 : decode cX12_fault 1 = .ok (.iconst 0, 1) := by decide +kernel
theorem dX12_fault_2 : decode cX12_fault 2 = .ok (.iconst 1, 1) := by decide +kernel
theorem dX12_fault_3 : decode cX12_fault 3 = .ok (.invokestatic 77, 3) := by decide +kernel
theorem dX12_fault_6 : decode cX12_fault 6 = .ok (.ifCond .ne 6, 3) := by decide +kernel
theorem dX12_fault_9 : decode cX12_fault 9 = .ok (.bipush (-102), 2) := by decide +kernel
theorem dX12_fault_11 : decode cX12_fault 11 = .ok (.ireturn, 1) := by decide +kernel
theorem dX12_fault_12 : decode cX12_fault 12 = .ok (.iload_n 1, 1) := by decide +kernel
theorem dX12_fault_13 : decode cX12_fault 13 = .ok (.ifCond .ne 10, 3) := by decide +kernel
theorem dX12_fault_16 : decode cX12_fault 16 = .ok (.aload_n 0, 1) := by decide +kernel
theorem dX12_fault_17 : decode cX12_fault 17 = .ok (.invokevirtual 106, 3) := by decide +kernel
theorem dX12_fault_20 : decode cX12_fault 20 = .ok (.goto 7, 3) := by decide +kernel
theorem dX12_fault_23 : decode cX12_fault 23 = .ok (.aload_n 0, 1) := by decide +kernel
theorem dX12_fault_24 : decode cX12_fault 24 = .ok (.invokevirtual 109, 3) := by decide +kernel
theorem dX12_fault_27 : decode cX12_fault 27 = .ok (.aload_n 0, 1) := by decide +kernel
theorem dX12_fault_28 : decode cX12_fault 28 = .ok (.getfield 93, 3) := by decide +kernel
theorem dX12_fault_31 : decode cX12_fault 31 = .ok (.ireturn, 1) := by decide +kernel
theorem dX12_town_0 : decode cX12_town 0 = .ok (.aload_n 0, 1) := by decide +kernel
theorem dX12_town_1 : decode cX12_town 1 = .ok (.invokevirtual 106, 3) := by decide +kernel
theorem dX12_town_4 : decode cX12_town 4 = .ok (.aload_n 0, 1) := by decide +kernel
theorem dX12_town_5 : decode cX12_town 5 = .ok (.getfield 96, 3) := by decide +kernel
theorem dX12_town_8 : decode cX12_town 8 = .ok (.ifCond .ne 6, 3) := by decide +kernel
theorem dX12_town_11 : decode cX12_town 11 = .ok (.bipush (-103), 2) := by decide +kernel
theorem dX12_town_13 : decode cX12_town 13 = .ok (.ireturn, 1) := by decide +kernel
theorem dX12_town_14 : decode cX12_town 14 = .ok (.aload_n 0, 1) := by decide +kernel
theorem dX12_town_15 : decode cX12_town 15 = .ok (.aload_n 0, 1) := by decide +kernel
theorem dX12_town_16 : decode cX12_town 16 = .ok (.getfield 100, 3) := by decide +kernel
theorem dX12_town_19 : decode cX12_town 19 = .ok (.putfield 103, 3) := by decide +kernel
theorem dX12_town_22 : decode cX12_town 22 = .ok (.iconst 0, 1) := by decide +kernel
theorem dX12_town_23 : decode cX12_town 23 = .ok (.istore_n 1, 1) := by decide +kernel
theorem dX12_town_24 : decode cX12_town 24 = .ok (.iload_n 1, 1) := by decide +kernel
theorem dX12_town_25 : decode cX12_town 25 = .ok (.aload_n 0, 1) := by decide +kernel
theorem dX12_town_26 : decode cX12_town 26 = .ok (.getfield 103, 3) := by decide +kernel
theorem dX12_town_29 : decode cX12_town 29 = .ok (.if_icmp .ge 57, 3) := by decide +kernel
theorem dX12_town_32 : decode cX12_town 32 = .ok (.aload_n 0, 1) := by decide +kernel
theorem dX12_town_33 : decode cX12_town 33 = .ok (.getfield 7, 3) := by decide +kernel
theorem dX12_town_36 : decode cX12_town 36 = .ok (.iload_n 1, 1) := by decide +kernel
theorem dX12_town_37 : decode cX12_town 37 = .ok (.aload_n 0, 1) := by decide +kernel
theorem dX12_town_38 : decode cX12_town 38 = .ok (.getfield 38, 3) := by decide +kernel
theorem dX12_town_41 : decode cX12_town 41 = .ok (.iload_n 1, 1) := by decide +kernel
theorem dX12_town_42 : decode cX12_town 42 = .ok (.iaload, 1) := by decide +kernel
theorem dX12_town_43 : decode cX12_town 43 = .ok (.iastore, 1) := by decide +kernel
theorem dX12_town_44 : decode cX12_town 44 = .ok (.aload_n 0, 1) := by decide +kernel
theorem dX12_town_45 : decode cX12_town 45 = .ok (.getfield 13, 3) := by decide +kernel
theorem dX12_town_48 : decode cX12_town 48 = .ok (.iload_n 1, 1) := by decide +kernel
theorem dX12_town_49 : decode cX12_town 49 = .ok (.aload_n 0, 1) := by decide +kernel
theorem dX12_town_50 : decode cX12_town 50 = .ok (.getfield 41, 3) := by decide +kernel
theorem dX12_town_53 : decode cX12_town 53 = .ok (.iload_n 1, 1) := by decide +kernel
theorem dX12_town_54 : decode cX12_town 54 = .ok (.iaload, 1) := by decide +kernel
theorem dX12_town_55 : decode cX12_town 55 = .ok (.iastore, 1) := by decide +kernel
theorem dX12_town_56 : decode cX12_town 56 = .ok (.aload_n 0, 1) := by decide +kernel
theorem dX12_town_57 : decode cX12_town 57 = .ok (.getfield 16, 3) := by decide +kernel
theorem dX12_town_60 : decode cX12_town 60 = .ok (.iload_n 1, 1) := by decide +kernel
theorem dX12_town_61 : decode cX12_town 61 = .ok (.aload_n 0, 1) := by decide +kernel
theorem dX12_town_62 : decode cX12_town 62 = .ok (.getfield 44, 3) := by decide +kernel
theorem dX12_town_65 : decode cX12_town 65 = .ok (.iload_n 1, 1) := by decide +kernel
theorem dX12_town_66 : decode cX12_town 66 = .ok (.iaload, 1) := by decide +kernel
theorem dX12_town_67 : decode cX12_town 67 = .ok (.iastore, 1) := by decide +kernel
theorem dX12_town_68 : decode cX12_town 68 = .ok (.aload_n 0, 1) := by decide +kernel
theorem dX12_town_69 : decode cX12_town 69 = .ok (.getfield 19, 3) := by decide +kernel
theorem dX12_town_72 : decode cX12_town 72 = .ok (.iload_n 1, 1) := by decide +kernel
theorem dX12_town_73 : decode cX12_town 73 = .ok (.aload_n 0, 1) := by decide +kernel
theorem dX12_town_74 : decode cX12_town 74 = .ok (.getfield 47, 3) := by decide +kernel
theorem dX12_town_77 : decode cX12_town 77 = .ok (.iload_n 1, 1) := by decide +kernel
theorem dX12_town_78 : decode cX12_town 78 = .ok (.iaload, 1) := by decide +kernel
theorem dX12_town_79 : decode cX12_town 79 = .ok (.iastore, 1) := by decide +kernel
theorem dX12_town_80 : decode cX12_town 80 = .ok (.iinc 1 1, 3) := by decide +kernel
theorem dX12_town_83 : decode cX12_town 83 = .ok (.goto (-59), 3) := by decide +kernel
theorem dX12_town_86 : decode cX12_town 86 = .ok (.aload_n 0, 1) := by decide +kernel
theorem dX12_town_87 : decode cX12_town 87 = .ok (.dup, 1) := by decide +kernel
theorem dX12_town_88 : decode cX12_town 88 = .ok (.getfield 112, 3) := by decide +kernel
theorem dX12_town_91 : decode cX12_town 91 = .ok (.iconst 1, 1) := by decide +kernel
theorem dX12_town_92 : decode cX12_town 92 = .ok (.iadd, 1) := by decide +kernel
theorem dX12_town_93 : decode cX12_town 93 = .ok (.putfield 112, 3) := by decide +kernel
theorem dX12_town_96 : decode cX12_town 96 = .ok (.aload_n 0, 1) := by decide +kernel
theorem dX12_town_97 : decode cX12_town 97 = .ok (.iconst 0, 1) := by decide +kernel
theorem dX12_town_98 : decode cX12_town 98 = .ok (.putfield 115, 3) := by decide +kernel
theorem dX12_town_101 : decode cX12_town 101 = .ok (.aload_n 0, 1) := by decide +kernel
theorem dX12_town_102 : decode cX12_town 102 = .ok (.iconst 0, 1) := by decide +kernel
theorem dX12_town_103 : decode cX12_town 103 = .ok (.putfield 118, 3) := by decide +kernel
theorem dX12_town_106 : decode cX12_town 106 = .ok (.aload_n 0, 1) := by decide +kernel
theorem dX12_town_107 : decode cX12_town 107 = .ok (.iconst 0, 1) := by decide +kernel
theorem dX12_town_108 : decode cX12_town 108 = .ok (.putfield 81, 3) := by decide +kernel
theorem dX12_town_111 : decode cX12_town 111 = .ok (.aload_n 0, 1) := by decide +kernel
theorem dX12_town_112 : decode cX12_town 112 = .ok (.getfield 103, 3) := by decide +kernel
theorem dX12_town_115 : decode cX12_town 115 = .ok (.ireturn, 1) := by decide +kernel
theorem dX12_isBorrower_0 : decode cX12_isBorrower 0 = .ok (.iload_n 1, 1) := by decide +kernel
theorem dX12_isBorrower_1 : decode cX12_isBorrower 1 = .ok (.iconst 0, 1) := by decide +kernel
theorem dX12_isBorrower_2 : decode cX12_isBorrower 2 = .ok (.aload_n 0, 1) := by decide +kernel
theorem dX12_isBorrower_3 : decode cX12_isBorrower 3 = .ok (.getfield 103, 3) := by decide +kernel
theorem dX12_isBorrower_6 : decode cX12_isBorrower 6 = .ok (.iconst 1, 1) := by decide +kernel
theorem dX12_isBorrower_7 : decode cX12_isBorrower 7 = .ok (.isub, 1) := by decide +kernel
theorem dX12_isBorrower_8 : decode cX12_isBorrower 8 = .ok (.invokestatic 77, 3) := by decide +kernel
theorem dX12_isBorrower_11 : decode cX12_isBorrower 11 = .ok (.ireturn, 1) := by decide +kernel
theorem dX12_isThing_0 : decode cX12_isThing 0 = .ok (.iload_n 1, 1) := by decide +kernel
theorem dX12_isThing_1 : decode cX12_isThing 1 = .ok (.iconst 0, 1) := by decide +kernel
theorem dX12_isThing_2 : decode cX12_isThing 2 = .ok (.aload_n 0, 1) := by decide +kernel
theorem dX12_isThing_3 : decode cX12_isThing 3 = .ok (.getfield 115, 3) := by decide +kernel
theorem dX12_isThing_6 : decode cX12_isThing 6 = .ok (.iconst 1, 1) := by decide +kernel
theorem dX12_isThing_7 : decode cX12_isThing 7 = .ok (.isub, 1) := by decide +kernel
theorem dX12_isThing_8 : decode cX12_isThing 8 = .ok (.invokestatic 77, 3) := by decide +kernel
theorem dX12_isThing_11 : decode cX12_isThing 11 = .ok (.ireturn, 1) := by decide +kernel
theorem dX12_isState_0 : decode cX12_isState 0 = .ok (.iload_n 0, 1) := by decide +kernel
theorem dX12_isState_1 : decode cX12_isState 1 = .ok (.iconst 0, 1) := by decide +kernel
theorem dX12_isState_2 : decode cX12_isState 2 = .ok (.sipush 511, 3) := by decide +kernel
theorem dX12_isState_5 : decode cX12_isState 5 = .ok (.invokestatic 77, 3) := by decide +kernel
theorem dX12_isState_8 : decode cX12_isState 8 = .ok (.ireturn, 1) := by decide +kernel
theorem dX12_traitIn_0 : decode cX12_traitIn 0 = .ok (.iload_n 0, 1) := by decide +kernel
theorem dX12_traitIn_1 : decode cX12_traitIn 1 = .ok (.iconst 3, 1) := by decide +kernel
theorem dX12_traitIn_2 : decode cX12_traitIn 2 = .ok (.iload_n 1, 1) := by decide +kernel
theorem dX12_traitIn_3 : decode cX12_traitIn 3 = .ok (.imul, 1) := by decide +kernel
theorem dX12_traitIn_4 : decode cX12_traitIn 4 = .ok (.ishr, 1) := by decide +kernel
theorem dX12_traitIn_5 : decode cX12_traitIn 5 = .ok (.bipush 7, 2) := by decide +kernel
theorem dX12_traitIn_7 : decode cX12_traitIn 7 = .ok (.iand, 1) := by decide +kernel
theorem dX12_traitIn_8 : decode cX12_traitIn 8 = .ok (.ireturn, 1) := by decide +kernel
theorem dX12_with_0 : decode cX12_with 0 = .ok (.iload_n 0, 1) := by decide +kernel
theorem dX12_with_1 : decode cX12_with 1 = .ok (.bipush 7, 2) := by decide +kernel
theorem dX12_with_3 : decode cX12_with 3 = .ok (.iconst 3, 1) := by decide +kernel
theorem dX12_with_4 : decode cX12_with 4 = .ok (.iload_n 1, 1) := by decide +kernel
theorem dX12_with_5 : decode cX12_with 5 = .ok (.imul, 1) := by decide +kernel
theorem dX12_with_6 : decode cX12_with 6 = .ok (.ishl, 1) := by decide +kernel
theorem dX12_with_7 : decode cX12_with 7 = .ok (.iconst (-1), 1) := by decide +kernel
theorem dX12_with_8 : decode cX12_with 8 = .ok (.ixor, 1) := by decide +kernel
theorem dX12_with_9 : decode cX12_with 9 = .ok (.iand, 1) := by decide +kernel
theorem dX12_with_10 : decode cX12_with 10 = .ok (.iload_n 2, 1) := by decide +kernel
theorem dX12_with_11 : decode cX12_with 11 = .ok (.iconst 3, 1) := by decide +kernel
theorem dX12_with_12 : decode cX12_with 12 = .ok (.iload_n 1, 1) := by decide +kernel
theorem dX12_with_13 : decode cX12_with 13 = .ok (.imul, 1) := by decide +kernel
theorem dX12_with_14 : decode cX12_with 14 = .ok (.ishl, 1) := by decide +kernel
theorem dX12_with_15 : decode cX12_with 15 = .ok (.ior, 1) := by decide +kernel
theorem dX12_with_16 : decode cX12_with 16 = .ok (.ireturn, 1) := by decide +kernel
theorem dX12_made_0 : decode cX12_made 0 = .ok (.aload_n 0, 1) := by decide +kernel
theorem dX12_made_1 : decode cX12_made 1 = .ok (.getfield 13, 3) := by decide +kernel
theorem dX12_made_4 : decode cX12_made 4 = .ok (.iload_n 1, 1) := by decide +kernel
theorem dX12_made_5 : decode cX12_made 5 = .ok (.iaload, 1) := by decide +kernel
theorem dX12_made_6 : decode cX12_made 6 = .ok (.istore_n 3, 1) := by decide +kernel
theorem dX12_made_7 : decode cX12_made 7 = .ok (.iload_n 2, 1) := by decide +kernel
theorem dX12_made_8 : decode cX12_made 8 = .ok (.iload_n 3, 1) := by decide +kernel
theorem dX12_made_9 : decode cX12_made 9 = .ok (.invokestatic 121, 3) := by decide +kernel
theorem dX12_made_12 : decode cX12_made 12 = .ok (.istore 4, 2) := by decide +kernel
theorem dX12_made_14 : decode cX12_made 14 = .ok (.aload_n 0, 1) := by decide +kernel
theorem dX12_made_15 : decode cX12_made 15 = .ok (.getfield 7, 3) := by decide +kernel
theorem dX12_made_18 : decode cX12_made 18 = .ok (.iload_n 1, 1) := by decide +kernel
theorem dX12_made_19 : decode cX12_made 19 = .ok (.iaload, 1) := by decide +kernel
theorem dX12_made_20 : decode cX12_made 20 = .ok (.tableswitch 99 0 3 #[32, 50, 62, 73], 32) := by decide +kernel
theorem dX12_made_52 : decode cX12_made 52 = .ok (.iload_n 2, 1) := by decide +kernel
theorem dX12_made_53 : decode cX12_made 53 = .ok (.iload_n 3, 1) := by decide +kernel
theorem dX12_made_54 : decode cX12_made 54 = .ok (.iload 4, 2) := by decide +kernel
theorem dX12_made_56 : decode cX12_made 56 = .ok (.aload_n 0, 1) := by decide +kernel
theorem dX12_made_57 : decode cX12_made 57 = .ok (.getfield 16, 3) := by decide +kernel
theorem dX12_made_60 : decode cX12_made 60 = .ok (.iload_n 1, 1) := by decide +kernel
theorem dX12_made_61 : decode cX12_made 61 = .ok (.iaload, 1) := by decide +kernel
theorem dX12_made_62 : decode cX12_made 62 = .ok (.iadd, 1) := by decide +kernel
theorem dX12_made_63 : decode cX12_made 63 = .ok (.bipush 8, 2) := by decide +kernel
theorem dX12_made_65 : decode cX12_made 65 = .ok (.irem, 1) := by decide +kernel
theorem dX12_made_66 : decode cX12_made 66 = .ok (.invokestatic 125, 3) := by decide +kernel
theorem dX12_made_69 : decode cX12_made 69 = .ok (.ireturn, 1) := by decide +kernel
theorem dX12_made_70 : decode cX12_made 70 = .ok (.iload_n 2, 1) := by decide +kernel
theorem dX12_made_71 : decode cX12_made 71 = .ok (.iload_n 3, 1) := by decide +kernel
theorem dX12_made_72 : decode cX12_made 72 = .ok (.aload_n 0, 1) := by decide +kernel
theorem dX12_made_73 : decode cX12_made 73 = .ok (.getfield 16, 3) := by decide +kernel
theorem dX12_made_76 : decode cX12_made 76 = .ok (.iload_n 1, 1) := by decide +kernel
theorem dX12_made_77 : decode cX12_made 77 = .ok (.iaload, 1) := by decide +kernel
theorem dX12_made_78 : decode cX12_made 78 = .ok (.invokestatic 125, 3) := by decide +kernel
theorem dX12_made_81 : decode cX12_made 81 = .ok (.ireturn, 1) := by decide +kernel
theorem dX12_made_82 : decode cX12_made 82 = .ok (.iload_n 2, 1) := by decide +kernel
theorem dX12_made_83 : decode cX12_made 83 = .ok (.iload_n 3, 1) := by decide +kernel
theorem dX12_made_84 : decode cX12_made 84 = .ok (.bipush 7, 2) := by decide +kernel
theorem dX12_made_86 : decode cX12_made 86 = .ok (.iload 4, 2) := by decide +kernel
theorem dX12_made_88 : decode cX12_made 88 = .ok (.isub, 1) := by decide +kernel
theorem dX12_made_89 : decode cX12_made 89 = .ok (.invokestatic 125, 3) := by decide +kernel
theorem dX12_made_92 : decode cX12_made 92 = .ok (.ireturn, 1) := by decide +kernel
theorem dX12_made_93 : decode cX12_made 93 = .ok (.iload_n 3, 1) := by decide +kernel
theorem dX12_made_94 : decode cX12_made 94 = .ok (.iconst 1, 1) := by decide +kernel
theorem dX12_made_95 : decode cX12_made 95 = .ok (.iadd, 1) := by decide +kernel
theorem dX12_made_96 : decode cX12_made 96 = .ok (.iconst 3, 1) := by decide +kernel
theorem dX12_made_97 : decode cX12_made 97 = .ok (.irem, 1) := by decide +kernel
theorem dX12_made_98 : decode cX12_made 98 = .ok (.istore 5, 2) := by decide +kernel
theorem dX12_made_100 : decode cX12_made 100 = .ok (.iload_n 2, 1) := by decide +kernel
theorem dX12_made_101 : decode cX12_made 101 = .ok (.iload_n 3, 1) := by decide +kernel
theorem dX12_made_102 : decode cX12_made 102 = .ok (.iload_n 2, 1) := by decide +kernel
theorem dX12_made_103 : decode cX12_made 103 = .ok (.iload 5, 2) := by decide +kernel
theorem dX12_made_105 : decode cX12_made 105 = .ok (.invokestatic 121, 3) := by decide +kernel
theorem dX12_made_108 : decode cX12_made 108 = .ok (.invokestatic 125, 3) := by decide +kernel
theorem dX12_made_111 : decode cX12_made 111 = .ok (.iload 5, 2) := by decide +kernel
theorem dX12_made_113 : decode cX12_made 113 = .ok (.iload 4, 2) := by decide +kernel
theorem dX12_made_115 : decode cX12_made 115 = .ok (.invokestatic 125, 3) := by decide +kernel
theorem dX12_made_118 : decode cX12_made 118 = .ok (.ireturn, 1) := by decide +kernel
theorem dX12_made_119 : decode cX12_made 119 = .ok (.iload_n 2, 1) := by decide +kernel
theorem dX12_made_120 : decode cX12_made 120 = .ok (.iload_n 3, 1) := by decide +kernel
theorem dX12_made_121 : decode cX12_made 121 = .ok (.iconst 2, 1) := by decide +kernel
theorem dX12_made_122 : decode cX12_made 122 = .ok (.iload 4, 2) := by decide +kernel
theorem dX12_made_124 : decode cX12_made 124 = .ok (.imul, 1) := by decide +kernel
theorem dX12_made_125 : decode cX12_made 125 = .ok (.bipush 8, 2) := by decide +kernel
theorem dX12_made_127 : decode cX12_made 127 = .ok (.irem, 1) := by decide +kernel
theorem dX12_made_128 : decode cX12_made 128 = .ok (.invokestatic 125, 3) := by decide +kernel
theorem dX12_made_131 : decode cX12_made 131 = .ok (.ireturn, 1) := by decide +kernel
theorem dX12_whoseThing_0 : decode cX12_whoseThing 0 = .ok (.iconst (-1), 1) := by decide +kernel
theorem dX12_whoseThing_1 : decode cX12_whoseThing 1 = .ok (.istore_n 2, 1) := by decide +kernel
theorem dX12_whoseThing_2 : decode cX12_whoseThing 2 = .ok (.iconst 0, 1) := by decide +kernel
theorem dX12_whoseThing_3 : decode cX12_whoseThing 3 = .ok (.istore_n 3, 1) := by decide +kernel
theorem dX12_whoseThing_4 : decode cX12_whoseThing 4 = .ok (.iload_n 3, 1) := by decide +kernel
theorem dX12_whoseThing_5 : decode cX12_whoseThing 5 = .ok (.aload_n 0, 1) := by decide +kernel
theorem dX12_whoseThing_6 : decode cX12_whoseThing 6 = .ok (.getfield 115, 3) := by decide +kernel
theorem dX12_whoseThing_9 : decode cX12_whoseThing 9 = .ok (.if_icmp .ge 25, 3) := by decide +kernel
theorem dX12_whoseThing_12 : decode cX12_whoseThing 12 = .ok (.aload_n 0, 1) := by decide +kernel
theorem dX12_whoseThing_13 : decode cX12_whoseThing 13 = .ok (.getfield 25, 3) := by decide +kernel
theorem dX12_whoseThing_16 : decode cX12_whoseThing 16 = .ok (.iload_n 3, 1) := by decide +kernel
theorem dX12_whoseThing_17 : decode cX12_whoseThing 17 = .ok (.iaload, 1) := by decide +kernel
theorem dX12_whoseThing_18 : decode cX12_whoseThing 18 = .ok (.iload_n 1, 1) := by decide +kernel
theorem dX12_whoseThing_19 : decode cX12_whoseThing 19 = .ok (.if_icmp .ne 7, 3) := by decide +kernel
theorem dX12_whoseThing_22 : decode cX12_whoseThing 22 = .ok (.iload_n 3, 1) := by decide +kernel
theorem dX12_whoseThing_23 : decode cX12_whoseThing 23 = .ok (.goto 4, 3) := by decide +kernel
theorem dX12_whoseThing_26 : decode cX12_whoseThing 26 = .ok (.iload_n 2, 1) := by decide +kernel
theorem dX12_whoseThing_27 : decode cX12_whoseThing 27 = .ok (.istore_n 2, 1) := by decide +kernel
theorem dX12_whoseThing_28 : decode cX12_whoseThing 28 = .ok (.iinc 3 1, 3) := by decide +kernel
theorem dX12_whoseThing_31 : decode cX12_whoseThing 31 = .ok (.goto (-27), 3) := by decide +kernel
theorem dX12_whoseThing_34 : decode cX12_whoseThing 34 = .ok (.iload_n 2, 1) := by decide +kernel
theorem dX12_whoseThing_35 : decode cX12_whoseThing 35 = .ok (.ireturn, 1) := by decide +kernel
theorem dX12_borrowerNow_0 : decode cX12_borrowerNow 0 = .ok (.aload_n 0, 1) := by decide +kernel
theorem dX12_borrowerNow_1 : decode cX12_borrowerNow 1 = .ok (.iload_n 1, 1) := by decide +kernel
theorem dX12_borrowerNow_2 : decode cX12_borrowerNow 2 = .ok (.invokevirtual 129, 3) := by decide +kernel
theorem dX12_borrowerNow_5 : decode cX12_borrowerNow 5 = .ok (.istore_n 3, 1) := by decide +kernel
theorem dX12_borrowerNow_6 : decode cX12_borrowerNow 6 = .ok (.iload_n 2, 1) := by decide +kernel
theorem dX12_borrowerNow_7 : decode cX12_borrowerNow 7 = .ok (.tableswitch 63 0 4 #[33, 40, 47, 54, 61], 33) := by decide +kernel
theorem dX12_borrowerNow_40 : decode cX12_borrowerNow 40 = .ok (.aload_n 0, 1) := by decide +kernel
theorem dX12_borrowerNow_41 : decode cX12_borrowerNow 41 = .ok (.getfield 7, 3) := by decide +kernel
theorem dX12_borrowerNow_44 : decode cX12_borrowerNow 44 = .ok (.iload_n 1, 1) := by decide +kernel
theorem dX12_borrowerNow_45 : decode cX12_borrowerNow 45 = .ok (.iaload, 1) := by decide +kernel
theorem dX12_borrowerNow_46 : decode cX12_borrowerNow 46 = .ok (.ireturn, 1) := by decide +kernel
theorem dX12_borrowerNow_47 : decode cX12_borrowerNow 47 = .ok (.aload_n 0, 1) := by decide +kernel
theorem dX12_borrowerNow_48 : decode cX12_borrowerNow 48 = .ok (.getfield 13, 3) := by decide +kernel
theorem dX12_borrowerNow_51 : decode cX12_borrowerNow 51 = .ok (.iload_n 1, 1) := by decide +kernel
theorem dX12_borrowerNow_52 : decode cX12_borrowerNow 52 = .ok (.iaload, 1) := by decide +kernel
theorem dX12_borrowerNow_53 : decode cX12_borrowerNow 53 = .ok (.ireturn, 1) := by decide +kernel
theorem dX12_borrowerNow_54 : decode cX12_borrowerNow 54 = .ok (.aload_n 0, 1) := by decide +kernel
theorem dX12_borrowerNow_55 : decode cX12_borrowerNow 55 = .ok (.getfield 16, 3) := by decide +kernel
theorem dX12_borrowerNow_58 : decode cX12_borrowerNow 58 = .ok (.iload_n 1, 1) := by decide +kernel
theorem dX12_borrowerNow_59 : decode cX12_borrowerNow 59 = .ok (.iaload, 1) := by decide +kernel
theorem dX12_borrowerNow_60 : decode cX12_borrowerNow 60 = .ok (.ireturn, 1) := by decide +kernel
theorem dX12_borrowerNow_61 : decode cX12_borrowerNow 61 = .ok (.aload_n 0, 1) := by decide +kernel
theorem dX12_borrowerNow_62 : decode cX12_borrowerNow 62 = .ok (.getfield 19, 3) := by decide +kernel
theorem dX12_borrowerNow_65 : decode cX12_borrowerNow 65 = .ok (.iload_n 1, 1) := by decide +kernel
theorem dX12_borrowerNow_66 : decode cX12_borrowerNow 66 = .ok (.iaload, 1) := by decide +kernel
theorem dX12_borrowerNow_67 : decode cX12_borrowerNow 67 = .ok (.ireturn, 1) := by decide +kernel
theorem dX12_borrowerNow_68 : decode cX12_borrowerNow 68 = .ok (.iload_n 3, 1) := by decide +kernel
theorem dX12_borrowerNow_69 : decode cX12_borrowerNow 69 = .ok (.ireturn, 1) := by decide +kernel
theorem dX12_borrowerNow_70 : decode cX12_borrowerNow 70 = .ok (.iload_n 3, 1) := by decide +kernel
theorem dX12_borrowerNow_71 : decode cX12_borrowerNow 71 = .ok (.iconst (-1), 1) := by decide +kernel
theorem dX12_borrowerNow_72 : decode cX12_borrowerNow 72 = .ok (.if_icmp .ne 7, 3) := by decide +kernel
theorem dX12_borrowerNow_75 : decode cX12_borrowerNow 75 = .ok (.iconst 0, 1) := by decide +kernel
theorem dX12_borrowerNow_76 : decode cX12_borrowerNow 76 = .ok (.goto 9, 3) := by decide +kernel
theorem dX12_borrowerNow_79 : decode cX12_borrowerNow 79 = .ok (.aload_n 0, 1) := by decide +kernel
theorem dX12_borrowerNow_80 : decode cX12_borrowerNow 80 = .ok (.getfield 28, 3) := by decide +kernel
theorem dX12_borrowerNow_83 : decode cX12_borrowerNow 83 = .ok (.iload_n 3, 1) := by decide +kernel
theorem dX12_borrowerNow_84 : decode cX12_borrowerNow 84 = .ok (.iaload, 1) := by decide +kernel
theorem dX12_borrowerNow_85 : decode cX12_borrowerNow 85 = .ok (.ireturn, 1) := by decide +kernel
theorem dX12_about_0 : decode cX12_about 0 = .ok (.aload_n 0, 1) := by decide +kernel
theorem dX12_about_1 : decode cX12_about 1 = .ok (.iload_n 1, 1) := by decide +kernel
theorem dX12_about_2 : decode cX12_about 2 = .ok (.invokevirtual 132, 3) := by decide +kernel
theorem dX12_about_5 : decode cX12_about 5 = .ok (.ifCond .ne 8, 3) := by decide +kernel
theorem dX12_about_8 : decode cX12_about 8 = .ok (.bipush (-101), 2) := by decide +kernel
theorem dX12_about_10 : decode cX12_about 10 = .ok (.goto 23, 3) := by decide +kernel
theorem dX12_about_13 : decode cX12_about 13 = .ok (.iload_n 2, 1) := by decide +kernel
theorem dX12_about_14 : decode cX12_about 14 = .ok (.iconst 0, 1) := by decide +kernel
theorem dX12_about_15 : decode cX12_about 15 = .ok (.iconst 5, 1) := by decide +kernel
theorem dX12_about_16 : decode cX12_about 16 = .ok (.invokestatic 77, 3) := by decide +kernel
theorem dX12_about_19 : decode cX12_about 19 = .ok (.ifCond .eq 12, 3) := by decide +kernel
theorem dX12_about_22 : decode cX12_about 22 = .ok (.aload_n 0, 1) := by decide +kernel
theorem dX12_about_23 : decode cX12_about 23 = .ok (.iload_n 1, 1) := by decide +kernel
theorem dX12_about_24 : decode cX12_about 24 = .ok (.iload_n 2, 1) := by decide +kernel
theorem dX12_about_25 : decode cX12_about 25 = .ok (.invokevirtual 135, 3) := by decide +kernel
theorem dX12_about_28 : decode cX12_about 28 = .ok (.goto 5, 3) := by decide +kernel
theorem dX12_about_31 : decode cX12_about 31 = .ok (.bipush (-102), 2) := by decide +kernel
theorem dX12_about_33 : decode cX12_about 33 = .ok (.ireturn, 1) := by decide +kernel
theorem dX12_as_0 : decode cX12_as 0 = .ok (.aload_n 0, 1) := by decide +kernel
theorem dX12_as_1 : decode cX12_as 1 = .ok (.iload_n 1, 1) := by decide +kernel
theorem dX12_as_2 : decode cX12_as 2 = .ok (.invokevirtual 132, 3) := by decide +kernel
theorem dX12_as_5 : decode cX12_as 5 = .ok (.ifCond .ne 6, 3) := by decide +kernel
theorem dX12_as_8 : decode cX12_as 8 = .ok (.bipush (-101), 2) := by decide +kernel
theorem dX12_as_10 : decode cX12_as 10 = .ok (.ireturn, 1) := by decide +kernel
theorem dX12_as_11 : decode cX12_as 11 = .ok (.iload_n 2, 1) := by decide +kernel
theorem dX12_as_12 : decode cX12_as 12 = .ok (.iconst 0, 1) := by decide +kernel
theorem dX12_as_13 : decode cX12_as 13 = .ok (.iconst 4, 1) := by decide +kernel
theorem dX12_as_14 : decode cX12_as 14 = .ok (.invokestatic 77, 3) := by decide +kernel
theorem dX12_as_17 : decode cX12_as 17 = .ok (.ifCond .ne 6, 3) := by decide +kernel
theorem dX12_as_20 : decode cX12_as 20 = .ok (.bipush (-102), 2) := by decide +kernel
theorem dX12_as_22 : decode cX12_as 22 = .ok (.ireturn, 1) := by decide +kernel
theorem dX12_as_23 : decode cX12_as 23 = .ok (.aload_n 0, 1) := by decide +kernel
theorem dX12_as_24 : decode cX12_as 24 = .ok (.getfield 7, 3) := by decide +kernel
theorem dX12_as_27 : decode cX12_as 27 = .ok (.iload_n 1, 1) := by decide +kernel
theorem dX12_as_28 : decode cX12_as 28 = .ok (.iaload, 1) := by decide +kernel
theorem dX12_as_29 : decode cX12_as 29 = .ok (.istore_n 3, 1) := by decide +kernel
theorem dX12_as_30 : decode cX12_as 30 = .ok (.iload_n 2, 1) := by decide +kernel
theorem dX12_as_31 : decode cX12_as 31 = .ok (.ifCond .eq 18, 3) := by decide +kernel
theorem dX12_as_34 : decode cX12_as 34 = .ok (.iload_n 3, 1) := by decide +kernel
theorem dX12_as_35 : decode cX12_as 35 = .ok (.iload_n 2, 1) := by decide +kernel
theorem dX12_as_36 : decode cX12_as 36 = .ok (.if_icmp .eq 13, 3) := by decide +kernel
theorem dX12_as_39 : decode cX12_as 39 = .ok (.iload_n 2, 1) := by decide +kernel
theorem dX12_as_40 : decode cX12_as 40 = .ok (.iconst 1, 1) := by decide +kernel
theorem dX12_as_41 : decode cX12_as 41 = .ok (.if_icmp .ne 12, 3) := by decide +kernel
theorem dX12_as_44 : decode cX12_as 44 = .ok (.iload_n 3, 1) := by decide +kernel
theorem dX12_as_45 : decode cX12_as 45 = .ok (.iconst 4, 1) := by decide +kernel
theorem dX12_as_46 : decode cX12_as 46 = .ok (.if_icmp .ne 7, 3) := by decide +kernel
theorem dX12_as_49 : decode cX12_as 49 = .ok (.iload_n 1, 1) := by decide +kernel
theorem dX12_as_50 : decode cX12_as 50 = .ok (.goto 4, 3) := by decide +kernel
theorem dX12_as_53 : decode cX12_as 53 = .ok (.iconst (-1), 1) := by decide +kernel
theorem dX12_as_54 : decode cX12_as 54 = .ok (.ireturn, 1) := by decide +kernel
theorem dX12_thing_0 : decode cX12_thing 0 = .ok (.iload_n 1, 1) := by decide +kernel
theorem dX12_thing_1 : decode cX12_thing 1 = .ok (.invokestatic 138, 3) := by decide +kernel
theorem dX12_thing_4 : decode cX12_thing 4 = .ok (.ifCond .ne 6, 3) := by decide +kernel
theorem dX12_thing_7 : decode cX12_thing 7 = .ok (.bipush (-102), 2) := by decide +kernel
theorem dX12_thing_9 : decode cX12_thing 9 = .ok (.ireturn, 1) := by decide +kernel
theorem dX12_thing_10 : decode cX12_thing 10 = .ok (.aload_n 0, 1) := by decide +kernel
theorem dX12_thing_11 : decode cX12_thing 11 = .ok (.getfield 103, 3) := by decide +kernel
theorem dX12_thing_14 : decode cX12_thing 14 = .ok (.ifCond .ne 6, 3) := by decide +kernel
theorem dX12_thing_17 : decode cX12_thing 17 = .ok (.bipush (-103), 2) := by decide +kernel
theorem dX12_thing_19 : decode cX12_thing 19 = .ok (.ireturn, 1) := by decide +kernel
theorem dX12_thing_20 : decode cX12_thing 20 = .ok (.aload_n 0, 1) := by decide +kernel
theorem dX12_thing_21 : decode cX12_thing 21 = .ok (.getfield 115, 3) := by decide +kernel
theorem dX12_thing_24 : decode cX12_thing 24 = .ok (.iconst 4, 1) := by decide +kernel
theorem dX12_thing_25 : decode cX12_thing 25 = .ok (.if_icmp .ne 6, 3) := by decide +kernel
theorem dX12_thing_28 : decode cX12_thing 28 = .ok (.bipush (-104), 2) := by decide +kernel
theorem dX12_thing_30 : decode cX12_thing 30 = .ok (.ireturn, 1) := by decide +kernel
theorem dX12_thing_31 : decode cX12_thing 31 = .ok (.aload_n 0, 1) := by decide +kernel
theorem dX12_thing_32 : decode cX12_thing 32 = .ok (.getfield 22, 3) := by decide +kernel
theorem dX12_thing_35 : decode cX12_thing 35 = .ok (.aload_n 0, 1) := by decide +kernel
theorem dX12_thing_36 : decode cX12_thing 36 = .ok (.getfield 115, 3) := by decide +kernel
theorem dX12_thing_39 : decode cX12_thing 39 = .ok (.iload_n 1, 1) := by decide +kernel
theorem dX12_thing_40 : decode cX12_thing 40 = .ok (.iastore, 1) := by decide +kernel
theorem dX12_thing_41 : decode cX12_thing 41 = .ok (.aload_n 0, 1) := by decide +kernel
theorem dX12_thing_42 : decode cX12_thing 42 = .ok (.getfield 25, 3) := by decide +kernel
theorem dX12_thing_45 : decode cX12_thing 45 = .ok (.aload_n 0, 1) := by decide +kernel
theorem dX12_thing_46 : decode cX12_thing 46 = .ok (.getfield 115, 3) := by decide +kernel
theorem dX12_thing_49 : decode cX12_thing 49 = .ok (.iconst (-1), 1) := by decide +kernel
theorem dX12_thing_50 : decode cX12_thing 50 = .ok (.iastore, 1) := by decide +kernel
theorem dX12_thing_51 : decode cX12_thing 51 = .ok (.aload_n 0, 1) := by decide +kernel
theorem dX12_thing_52 : decode cX12_thing 52 = .ok (.getfield 28, 3) := by decide +kernel
theorem dX12_thing_55 : decode cX12_thing 55 = .ok (.aload_n 0, 1) := by decide +kernel
theorem dX12_thing_56 : decode cX12_thing 56 = .ok (.getfield 115, 3) := by decide +kernel
theorem dX12_thing_59 : decode cX12_thing 59 = .ok (.iconst 0, 1) := by decide +kernel
theorem dX12_thing_60 : decode cX12_thing 60 = .ok (.iastore, 1) := by decide +kernel
theorem dX12_thing_61 : decode cX12_thing 61 = .ok (.aload_n 0, 1) := by decide +kernel
theorem dX12_thing_62 : decode cX12_thing 62 = .ok (.getfield 31, 3) := by decide +kernel
theorem dX12_thing_65 : decode cX12_thing 65 = .ok (.aload_n 0, 1) := by decide +kernel
theorem dX12_thing_66 : decode cX12_thing 66 = .ok (.getfield 115, 3) := by decide +kernel
theorem dX12_thing_69 : decode cX12_thing 69 = .ok (.iconst 0, 1) := by decide +kernel
theorem dX12_thing_70 : decode cX12_thing 70 = .ok (.iastore, 1) := by decide +kernel
theorem dX12_thing_71 : decode cX12_thing 71 = .ok (.aload_n 0, 1) := by decide +kernel
theorem dX12_thing_72 : decode cX12_thing 72 = .ok (.dup, 1) := by decide +kernel
theorem dX12_thing_73 : decode cX12_thing 73 = .ok (.getfield 115, 3) := by decide +kernel
theorem dX12_thing_76 : decode cX12_thing 76 = .ok (.iconst 1, 1) := by decide +kernel
theorem dX12_thing_77 : decode cX12_thing 77 = .ok (.iadd, 1) := by decide +kernel
theorem dX12_thing_78 : decode cX12_thing 78 = .ok (.putfield 115, 3) := by decide +kernel
theorem dX12_thing_81 : decode cX12_thing 81 = .ok (.aload_n 0, 1) := by decide +kernel
theorem dX12_thing_82 : decode cX12_thing 82 = .ok (.getfield 115, 3) := by decide +kernel
theorem dX12_thing_85 : decode cX12_thing 85 = .ok (.iconst 1, 1) := by decide +kernel
theorem dX12_thing_86 : decode cX12_thing 86 = .ok (.isub, 1) := by decide +kernel
theorem dX12_thing_87 : decode cX12_thing 87 = .ok (.ireturn, 1) := by decide +kernel
theorem dX12_homeState_0 : decode cX12_homeState 0 = .ok (.aload_n 0, 1) := by decide +kernel
theorem dX12_homeState_1 : decode cX12_homeState 1 = .ok (.getfield 25, 3) := by decide +kernel
theorem dX12_homeState_4 : decode cX12_homeState 4 = .ok (.iload_n 1, 1) := by decide +kernel
theorem dX12_homeState_5 : decode cX12_homeState 5 = .ok (.iaload, 1) := by decide +kernel
theorem dX12_homeState_6 : decode cX12_homeState 6 = .ok (.iconst (-1), 1) := by decide +kernel
theorem dX12_homeState_7 : decode cX12_homeState 7 = .ok (.if_icmp .ne 12, 3) := by decide +kernel
theorem dX12_homeState_10 : decode cX12_homeState 10 = .ok (.aload_n 0, 1) := by decide +kernel
theorem dX12_homeState_11 : decode cX12_homeState 11 = .ok (.getfield 22, 3) := by decide +kernel
theorem dX12_homeState_14 : decode cX12_homeState 14 = .ok (.iload_n 1, 1) := by decide +kernel
theorem dX12_homeState_15 : decode cX12_homeState 15 = .ok (.iaload, 1) := by decide +kernel
theorem dX12_homeState_16 : decode cX12_homeState 16 = .ok (.goto 19, 3) := by decide +kernel
theorem dX12_homeState_19 : decode cX12_homeState 19 = .ok (.aload_n 0, 1) := by decide +kernel
theorem dX12_homeState_20 : decode cX12_homeState 20 = .ok (.aload_n 0, 1) := by decide +kernel
theorem dX12_homeState_21 : decode cX12_homeState 21 = .ok (.getfield 25, 3) := by decide +kernel
theorem dX12_homeState_24 : decode cX12_homeState 24 = .ok (.iload_n 1, 1) := by decide +kernel
theorem dX12_homeState_25 : decode cX12_homeState 25 = .ok (.iaload, 1) := by decide +kernel
theorem dX12_homeState_26 : decode cX12_homeState 26 = .ok (.aload_n 0, 1) := by decide +kernel
theorem dX12_homeState_27 : decode cX12_homeState 27 = .ok (.getfield 22, 3) := by decide +kernel
theorem dX12_homeState_30 : decode cX12_homeState 30 = .ok (.iload_n 1, 1) := by decide +kernel
theorem dX12_homeState_31 : decode cX12_homeState 31 = .ok (.iaload, 1) := by decide +kernel
theorem dX12_homeState_32 : decode cX12_homeState 32 = .ok (.invokevirtual 141, 3) := by decide +kernel
theorem dX12_homeState_35 : decode cX12_homeState 35 = .ok (.ireturn, 1) := by decide +kernel
theorem dX12_thingNow_0 : decode cX12_thingNow 0 = .ok (.iload_n 2, 1) := by decide +kernel
theorem dX12_thingNow_1 : decode cX12_thingNow 1 = .ok (.tableswitch 58 3 6 #[31, 38, 45, 52], 31) := by decide +kernel
theorem dX12_thingNow_32 : decode cX12_thingNow 32 = .ok (.aload_n 0, 1) := by decide +kernel
theorem dX12_thingNow_33 : decode cX12_thingNow 33 = .ok (.getfield 22, 3) := by decide +kernel
theorem dX12_thingNow_36 : decode cX12_thingNow 36 = .ok (.iload_n 1, 1) := by decide +kernel
theorem dX12_thingNow_37 : decode cX12_thingNow 37 = .ok (.iaload, 1) := by decide +kernel
theorem dX12_thingNow_38 : decode cX12_thingNow 38 = .ok (.ireturn, 1) := by decide +kernel
theorem dX12_thingNow_39 : decode cX12_thingNow 39 = .ok (.aload_n 0, 1) := by decide +kernel
theorem dX12_thingNow_40 : decode cX12_thingNow 40 = .ok (.getfield 25, 3) := by decide +kernel
theorem dX12_thingNow_43 : decode cX12_thingNow 43 = .ok (.iload_n 1, 1) := by decide +kernel
theorem dX12_thingNow_44 : decode cX12_thingNow 44 = .ok (.iaload, 1) := by decide +kernel
theorem dX12_thingNow_45 : decode cX12_thingNow 45 = .ok (.ireturn, 1) := by decide +kernel
theorem dX12_thingNow_46 : decode cX12_thingNow 46 = .ok (.aload_n 0, 1) := by decide +kernel
theorem dX12_thingNow_47 : decode cX12_thingNow 47 = .ok (.getfield 31, 3) := by decide +kernel
theorem dX12_thingNow_50 : decode cX12_thingNow 50 = .ok (.iload_n 1, 1) := by decide +kernel
theorem dX12_thingNow_51 : decode cX12_thingNow 51 = .ok (.iaload, 1) := by decide +kernel
theorem dX12_thingNow_52 : decode cX12_thingNow 52 = .ok (.ireturn, 1) := by decide +kernel
theorem dX12_thingNow_53 : decode cX12_thingNow 53 = .ok (.aload_n 0, 1) := by decide +kernel
theorem dX12_thingNow_54 : decode cX12_thingNow 54 = .ok (.iload_n 1, 1) := by decide +kernel
theorem dX12_thingNow_55 : decode cX12_thingNow 55 = .ok (.invokevirtual 144, 3) := by decide +kernel
theorem dX12_thingNow_58 : decode cX12_thingNow 58 = .ok (.ireturn, 1) := by decide +kernel
theorem dX12_thingNow_59 : decode cX12_thingNow 59 = .ok (.aload_n 0, 1) := by decide +kernel
theorem dX12_thingNow_60 : decode cX12_thingNow 60 = .ok (.getfield 22, 3) := by decide +kernel
theorem dX12_thingNow_63 : decode cX12_thingNow 63 = .ok (.iload_n 1, 1) := by decide +kernel
theorem dX12_thingNow_64 : decode cX12_thingNow 64 = .ok (.iaload, 1) := by decide +kernel
theorem dX12_thingNow_65 : decode cX12_thingNow 65 = .ok (.iload_n 2, 1) := by decide +kernel
theorem dX12_thingNow_66 : decode cX12_thingNow 66 = .ok (.invokestatic 121, 3) := by decide +kernel
theorem dX12_thingNow_69 : decode cX12_thingNow 69 = .ok (.ireturn, 1) := by decide +kernel
theorem dX12_thingOf_0 : decode cX12_thingOf 0 = .ok (.aload_n 0, 1) := by decide +kernel
theorem dX12_thingOf_1 : decode cX12_thingOf 1 = .ok (.iload_n 1, 1) := by decide +kernel
theorem dX12_thingOf_2 : decode cX12_thingOf 2 = .ok (.invokevirtual 147, 3) := by decide +kernel
theorem dX12_thingOf_5 : decode cX12_thingOf 5 = .ok (.ifCond .ne 8, 3) := by decide +kernel
theorem dX12_thingOf_8 : decode cX12_thingOf 8 = .ok (.bipush (-101), 2) := by decide +kernel
theorem dX12_thingOf_10 : decode cX12_thingOf 10 = .ok (.goto 24, 3) := by decide +kernel
theorem dX12_thingOf_13 : decode cX12_thingOf 13 = .ok (.iload_n 2, 1) := by decide +kernel
theorem dX12_thingOf_14 : decode cX12_thingOf 14 = .ok (.iconst 0, 1) := by decide +kernel
theorem dX12_thingOf_15 : decode cX12_thingOf 15 = .ok (.bipush 6, 2) := by decide +kernel
theorem dX12_thingOf_17 : decode cX12_thingOf 17 = .ok (.invokestatic 77, 3) := by decide +kernel
theorem dX12_thingOf_20 : decode cX12_thingOf 20 = .ok (.ifCond .eq 12, 3) := by decide +kernel
theorem dX12_thingOf_23 : decode cX12_thingOf 23 = .ok (.aload_n 0, 1) := by decide +kernel
theorem dX12_thingOf_24 : decode cX12_thingOf 24 = .ok (.iload_n 1, 1) := by decide +kernel
theorem dX12_thingOf_25 : decode cX12_thingOf 25 = .ok (.iload_n 2, 1) := by decide +kernel
theorem dX12_thingOf_26 : decode cX12_thingOf 26 = .ok (.invokevirtual 150, 3) := by decide +kernel
theorem dX12_thingOf_29 : decode cX12_thingOf 29 = .ok (.goto 5, 3) := by decide +kernel
theorem dX12_thingOf_32 : decode cX12_thingOf 32 = .ok (.bipush (-102), 2) := by decide +kernel
theorem dX12_thingOf_34 : decode cX12_thingOf 34 = .ok (.ireturn, 1) := by decide +kernel
theorem dX12_lend_0 : decode cX12_lend 0 = .ok (.aload_n 0, 1) := by decide +kernel
theorem dX12_lend_1 : decode cX12_lend 1 = .ok (.iload_n 1, 1) := by decide +kernel
theorem dX12_lend_2 : decode cX12_lend 2 = .ok (.invokevirtual 147, 3) := by decide +kernel
theorem dX12_lend_5 : decode cX12_lend 5 = .ok (.ifCond .eq 11, 3) := by decide +kernel
theorem dX12_lend_8 : decode cX12_lend 8 = .ok (.aload_n 0, 1) := by decide +kernel
theorem dX12_lend_9 : decode cX12_lend 9 = .ok (.iload_n 2, 1) := by decide +kernel
theorem dX12_lend_10 : decode cX12_lend 10 = .ok (.invokevirtual 132, 3) := by decide +kernel
theorem dX12_lend_13 : decode cX12_lend 13 = .ok (.ifCond .ne 6, 3) := by decide +kernel
theorem dX12_lend_16 : decode cX12_lend 16 = .ok (.bipush (-101), 2) := by decide +kernel
theorem dX12_lend_18 : decode cX12_lend 18 = .ok (.ireturn, 1) := by decide +kernel
theorem dX12_lend_19 : decode cX12_lend 19 = .ok (.aload_n 0, 1) := by decide +kernel
theorem dX12_lend_20 : decode cX12_lend 20 = .ok (.getfield 25, 3) := by decide +kernel
theorem dX12_lend_23 : decode cX12_lend 23 = .ok (.iload_n 1, 1) := by decide +kernel
theorem dX12_lend_24 : decode cX12_lend 24 = .ok (.iaload, 1) := by decide +kernel
theorem dX12_lend_25 : decode cX12_lend 25 = .ok (.iconst (-1), 1) := by decide +kernel
theorem dX12_lend_26 : decode cX12_lend 26 = .ok (.if_icmp .ne 12, 3) := by decide +kernel
theorem dX12_lend_29 : decode cX12_lend 29 = .ok (.aload_n 0, 1) := by decide +kernel
theorem dX12_lend_30 : decode cX12_lend 30 = .ok (.iload_n 2, 1) := by decide +kernel
theorem dX12_lend_31 : decode cX12_lend 31 = .ok (.invokevirtual 129, 3) := by decide +kernel
theorem dX12_lend_34 : decode cX12_lend 34 = .ok (.iconst (-1), 1) := by decide +kernel
theorem dX12_lend_35 : decode cX12_lend 35 = .ok (.if_icmp .eq 6, 3) := by decide +kernel
theorem dX12_lend_38 : decode cX12_lend 38 = .ok (.bipush (-103), 2) := by decide +kernel
theorem dX12_lend_40 : decode cX12_lend 40 = .ok (.ireturn, 1) := by decide +kernel
theorem dX12_lend_41 : decode cX12_lend 41 = .ok (.aload_n 0, 1) := by decide +kernel
theorem dX12_lend_42 : decode cX12_lend 42 = .ok (.getfield 25, 3) := by decide +kernel
theorem dX12_lend_45 : decode cX12_lend 45 = .ok (.iload_n 1, 1) := by decide +kernel
theorem dX12_lend_46 : decode cX12_lend 46 = .ok (.iload_n 2, 1) := by decide +kernel
theorem dX12_lend_47 : decode cX12_lend 47 = .ok (.iastore, 1) := by decide +kernel
theorem dX12_lend_48 : decode cX12_lend 48 = .ok (.aload_n 0, 1) := by decide +kernel
theorem dX12_lend_49 : decode cX12_lend 49 = .ok (.getfield 28, 3) := by decide +kernel
theorem dX12_lend_52 : decode cX12_lend 52 = .ok (.iload_n 1, 1) := by decide +kernel
theorem dX12_lend_53 : decode cX12_lend 53 = .ok (.aload_n 0, 1) := by decide +kernel
theorem dX12_lend_54 : decode cX12_lend 54 = .ok (.getfield 19, 3) := by decide +kernel
theorem dX12_lend_57 : decode cX12_lend 57 = .ok (.iload_n 2, 1) := by decide +kernel
theorem dX12_lend_58 : decode cX12_lend 58 = .ok (.iaload, 1) := by decide +kernel
theorem dX12_lend_59 : decode cX12_lend 59 = .ok (.iastore, 1) := by decide +kernel
theorem dX12_lend_60 : decode cX12_lend 60 = .ok (.aload_n 0, 1) := by decide +kernel
theorem dX12_lend_61 : decode cX12_lend 61 = .ok (.getfield 19, 3) := by decide +kernel
theorem dX12_lend_64 : decode cX12_lend 64 = .ok (.iload_n 2, 1) := by decide +kernel
theorem dX12_lend_65 : decode cX12_lend 65 = .ok (.iaload, 1) := by decide +kernel
theorem dX12_lend_66 : decode cX12_lend 66 = .ok (.ireturn, 1) := by decide +kernel
theorem dX12_day_0 : decode cX12_day 0 = .ok (.aload_n 0, 1) := by decide +kernel
theorem dX12_day_1 : decode cX12_day 1 = .ok (.getfield 103, 3) := by decide +kernel
theorem dX12_day_4 : decode cX12_day 4 = .ok (.ifCond .ne 6, 3) := by decide +kernel
theorem dX12_day_7 : decode cX12_day 7 = .ok (.bipush (-103), 2) := by decide +kernel
theorem dX12_day_9 : decode cX12_day 9 = .ok (.ireturn, 1) := by decide +kernel
theorem dX12_day_10 : decode cX12_day 10 = .ok (.iconst 0, 1) := by decide +kernel
theorem dX12_day_11 : decode cX12_day 11 = .ok (.istore_n 1, 1) := by decide +kernel
theorem dX12_day_12 : decode cX12_day 12 = .ok (.iconst 0, 1) := by decide +kernel
theorem dX12_day_13 : decode cX12_day 13 = .ok (.istore_n 2, 1) := by decide +kernel
theorem dX12_day_14 : decode cX12_day 14 = .ok (.iload_n 2, 1) := by decide +kernel
theorem dX12_day_15 : decode cX12_day 15 = .ok (.aload_n 0, 1) := by decide +kernel
theorem dX12_day_16 : decode cX12_day 16 = .ok (.getfield 115, 3) := by decide +kernel
theorem dX12_day_19 : decode cX12_day 19 = .ok (.if_icmp .ge 83, 3) := by decide +kernel
theorem dX12_day_22 : decode cX12_day 22 = .ok (.aload_n 0, 1) := by decide +kernel
theorem dX12_day_23 : decode cX12_day 23 = .ok (.getfield 28, 3) := by decide +kernel
theorem dX12_day_26 : decode cX12_day 26 = .ok (.iload_n 2, 1) := by decide +kernel
theorem dX12_day_27 : decode cX12_day 27 = .ok (.dup2, 1) := by decide +kernel
theorem dX12_day_28 : decode cX12_day 28 = .ok (.iaload, 1) := by decide +kernel
theorem dX12_day_29 : decode cX12_day 29 = .ok (.aload_n 0, 1) := by decide +kernel
theorem dX12_day_30 : decode cX12_day 30 = .ok (.getfield 25, 3) := by decide +kernel
theorem dX12_day_33 : decode cX12_day 33 = .ok (.iload_n 2, 1) := by decide +kernel
theorem dX12_day_34 : decode cX12_day 34 = .ok (.iaload, 1) := by decide +kernel
theorem dX12_day_35 : decode cX12_day 35 = .ok (.iconst (-1), 1) := by decide +kernel
theorem dX12_day_36 : decode cX12_day 36 = .ok (.if_icmp .ne 7, 3) := by decide +kernel
theorem dX12_day_39 : decode cX12_day 39 = .ok (.iconst 0, 1) := by decide +kernel
theorem dX12_day_40 : decode cX12_day 40 = .ok (.goto 4, 3) := by decide +kernel
theorem dX12_day_43 : decode cX12_day 43 = .ok (.iconst 1, 1) := by decide +kernel
theorem dX12_day_44 : decode cX12_day 44 = .ok (.isub, 1) := by decide +kernel
theorem dX12_day_45 : decode cX12_day 45 = .ok (.iastore, 1) := by decide +kernel
theorem dX12_day_46 : decode cX12_day 46 = .ok (.aload_n 0, 1) := by decide +kernel
theorem dX12_day_47 : decode cX12_day 47 = .ok (.getfield 25, 3) := by decide +kernel
theorem dX12_day_50 : decode cX12_day 50 = .ok (.iload_n 2, 1) := by decide +kernel
theorem dX12_day_51 : decode cX12_day 51 = .ok (.iaload, 1) := by decide +kernel
theorem dX12_day_52 : decode cX12_day 52 = .ok (.iconst (-1), 1) := by decide +kernel
theorem dX12_day_53 : decode cX12_day 53 = .ok (.if_icmp .eq 43, 3) := by decide +kernel
theorem dX12_day_56 : decode cX12_day 56 = .ok (.aload_n 0, 1) := by decide +kernel
theorem dX12_day_57 : decode cX12_day 57 = .ok (.getfield 28, 3) := by decide +kernel
theorem dX12_day_60 : decode cX12_day 60 = .ok (.iload_n 2, 1) := by decide +kernel
theorem dX12_day_61 : decode cX12_day 61 = .ok (.iaload, 1) := by decide +kernel
theorem dX12_day_62 : decode cX12_day 62 = .ok (.ifCond .ne 34, 3) := by decide +kernel
theorem dX12_day_65 : decode cX12_day 65 = .ok (.aload_n 0, 1) := by decide +kernel
theorem dX12_day_66 : decode cX12_day 66 = .ok (.getfield 22, 3) := by decide +kernel
theorem dX12_day_69 : decode cX12_day 69 = .ok (.iload_n 2, 1) := by decide +kernel
theorem dX12_day_70 : decode cX12_day 70 = .ok (.aload_n 0, 1) := by decide +kernel
theorem dX12_day_71 : decode cX12_day 71 = .ok (.iload_n 2, 1) := by decide +kernel
theorem dX12_day_72 : decode cX12_day 72 = .ok (.invokevirtual 144, 3) := by decide +kernel
theorem dX12_day_75 : decode cX12_day 75 = .ok (.iastore, 1) := by decide +kernel
theorem dX12_day_76 : decode cX12_day 76 = .ok (.aload_n 0, 1) := by decide +kernel
theorem dX12_day_77 : decode cX12_day 77 = .ok (.getfield 25, 3) := by decide +kernel
theorem dX12_day_80 : decode cX12_day 80 = .ok (.iload_n 2, 1) := by decide +kernel
theorem dX12_day_81 : decode cX12_day 81 = .ok (.iconst (-1), 1) := by decide +kernel
theorem dX12_day_82 : decode cX12_day 82 = .ok (.iastore, 1) := by decide +kernel
theorem dX12_day_83 : decode cX12_day 83 = .ok (.aload_n 0, 1) := by decide +kernel
theorem dX12_day_84 : decode cX12_day 84 = .ok (.getfield 31, 3) := by decide +kernel
theorem dX12_day_87 : decode cX12_day 87 = .ok (.iload_n 2, 1) := by decide +kernel
theorem dX12_day_88 : decode cX12_day 88 = .ok (.dup2, 1) := by decide +kernel
theorem dX12_day_89 : decode cX12_day 89 = .ok (.iaload, 1) := by decide +kernel
theorem dX12_day_90 : decode cX12_day 90 = .ok (.iconst 1, 1) := by decide +kernel
theorem dX12_day_91 : decode cX12_day 91 = .ok (.iadd, 1) := by decide +kernel
theorem dX12_day_92 : decode cX12_day 92 = .ok (.iastore, 1) := by decide +kernel
theorem dX12_day_93 : decode cX12_day 93 = .ok (.iinc 1 1, 3) := by decide +kernel
theorem dX12_day_96 : decode cX12_day 96 = .ok (.iinc 2 1, 3) := by decide +kernel
theorem dX12_day_99 : decode cX12_day 99 = .ok (.goto (-85), 3) := by decide +kernel
theorem dX12_day_102 : decode cX12_day 102 = .ok (.aload_n 0, 1) := by decide +kernel
theorem dX12_day_103 : decode cX12_day 103 = .ok (.dup, 1) := by decide +kernel
theorem dX12_day_104 : decode cX12_day 104 = .ok (.getfield 118, 3) := by decide +kernel
theorem dX12_day_107 : decode cX12_day 107 = .ok (.iconst 1, 1) := by decide +kernel
theorem dX12_day_108 : decode cX12_day 108 = .ok (.iadd, 1) := by decide +kernel
theorem dX12_day_109 : decode cX12_day 109 = .ok (.putfield 118, 3) := by decide +kernel
theorem dX12_day_112 : decode cX12_day 112 = .ok (.iload_n 1, 1) := by decide +kernel
theorem dX12_day_113 : decode cX12_day 113 = .ok (.ireturn, 1) := by decide +kernel
theorem dX12_by_0 : decode cX12_by 0 = .ok (.aload_n 0, 1) := by decide +kernel
theorem dX12_by_1 : decode cX12_by 1 = .ok (.iload_n 1, 1) := by decide +kernel
theorem dX12_by_2 : decode cX12_by 2 = .ok (.invokevirtual 132, 3) := by decide +kernel
theorem dX12_by_5 : decode cX12_by 5 = .ok (.ifCond .ne 6, 3) := by decide +kernel
theorem dX12_by_8 : decode cX12_by 8 = .ok (.bipush (-101), 2) := by decide +kernel
theorem dX12_by_10 : decode cX12_by 10 = .ok (.ireturn, 1) := by decide +kernel
theorem dX12_by_11 : decode cX12_by 11 = .ok (.iload_n 2, 1) := by decide +kernel
theorem dX12_by_12 : decode cX12_by 12 = .ok (.invokestatic 138, 3) := by decide +kernel
theorem dX12_by_15 : decode cX12_by 15 = .ok (.ifCond .eq 12, 3) := by decide +kernel
theorem dX12_by_18 : decode cX12_by 18 = .ok (.aload_n 0, 1) := by decide +kernel
theorem dX12_by_19 : decode cX12_by 19 = .ok (.iload_n 1, 1) := by decide +kernel
theorem dX12_by_20 : decode cX12_by 20 = .ok (.iload_n 2, 1) := by decide +kernel
theorem dX12_by_21 : decode cX12_by 21 = .ok (.invokevirtual 141, 3) := by decide +kernel
theorem dX12_by_24 : decode cX12_by 24 = .ok (.goto 5, 3) := by decide +kernel
theorem dX12_by_27 : decode cX12_by 27 = .ok (.bipush (-102), 2) := by decide +kernel
theorem dX12_by_29 : decode cX12_by 29 = .ok (.ireturn, 1) := by decide +kernel
theorem dX12_layWaves_0 : decode cX12_layWaves 0 = .ok (.iconst 0, 1) := by decide +kernel
theorem dX12_layWaves_1 : decode cX12_layWaves 1 = .ok (.istore 4, 2) := by decide +kernel
theorem dX12_layWaves_3 : decode cX12_layWaves 3 = .ok (.iload 4, 2) := by decide +kernel
theorem dX12_layWaves_5 : decode cX12_layWaves 5 = .ok (.sipush 512, 3) := by decide +kernel
theorem dX12_layWaves_8 : decode cX12_layWaves 8 = .ok (.if_icmp .ge 26, 3) := by decide +kernel
theorem dX12_layWaves_11 : decode cX12_layWaves 11 = .ok (.aload_n 0, 1) := by decide +kernel
theorem dX12_layWaves_12 : decode cX12_layWaves 12 = .ok (.getfield 50, 3) := by decide +kernel
theorem dX12_layWaves_15 : decode cX12_layWaves 15 = .ok (.iload 4, 2) := by decide +kernel
theorem dX12_layWaves_17 : decode cX12_layWaves 17 = .ok (.ldc 153, 2) := by decide +kernel
theorem dX12_layWaves_19 : decode cX12_layWaves 19 = .ok (.iastore, 1) := by decide +kernel
theorem dX12_layWaves_20 : decode cX12_layWaves 20 = .ok (.aload_n 0, 1) := by decide +kernel
theorem dX12_layWaves_21 : decode cX12_layWaves 21 = .ok (.getfield 53, 3) := by decide +kernel
theorem dX12_layWaves_24 : decode cX12_layWaves 24 = .ok (.iload 4, 2) := by decide +kernel
theorem dX12_layWaves_26 : decode cX12_layWaves 26 = .ok (.iconst (-1), 1) := by decide +kernel
theorem dX12_layWaves_27 : decode cX12_layWaves 27 = .ok (.iastore, 1) := by decide +kernel
theorem dX12_layWaves_28 : decode cX12_layWaves 28 = .ok (.iinc 4 1, 3) := by decide +kernel
theorem dX12_layWaves_31 : decode cX12_layWaves 31 = .ok (.goto (-28), 3) := by decide +kernel
theorem dX12_layWaves_34 : decode cX12_layWaves 34 = .ok (.aload_n 0, 1) := by decide +kernel
theorem dX12_layWaves_35 : decode cX12_layWaves 35 = .ok (.getfield 50, 3) := by decide +kernel
theorem dX12_layWaves_38 : decode cX12_layWaves 38 = .ok (.iload_n 1, 1) := by decide +kernel
theorem dX12_layWaves_39 : decode cX12_layWaves 39 = .ok (.iconst 0, 1) := by decide +kernel
theorem dX12_layWaves_40 : decode cX12_layWaves 40 = .ok (.iastore, 1) := by decide +kernel
theorem dX12_layWaves_41 : decode cX12_layWaves 41 = .ok (.iconst 1, 1) := by decide +kernel
theorem dX12_layWaves_42 : decode cX12_layWaves 42 = .ok (.istore 4, 2) := by decide +kernel
theorem dX12_layWaves_44 : decode cX12_layWaves 44 = .ok (.iconst 0, 1) := by decide +kernel
theorem dX12_layWaves_45 : decode cX12_layWaves 45 = .ok (.istore 5, 2) := by decide +kernel
theorem dX12_layWaves_47 : decode cX12_layWaves 47 = .ok (.iload 4, 2) := by decide +kernel
theorem dX12_layWaves_49 : decode cX12_layWaves 49 = .ok (.ifCond .eq 100, 3) := by decide +kernel
theorem dX12_layWaves_52 : decode cX12_layWaves 52 = .ok (.iconst 0, 1) := by decide +kernel
theorem dX12_layWaves_53 : decode cX12_layWaves 53 = .ok (.istore 4, 2) := by decide +kernel
theorem dX12_layWaves_55 : decode cX12_layWaves 55 = .ok (.iconst 0, 1) := by decide +kernel
theorem dX12_layWaves_56 : decode cX12_layWaves 56 = .ok (.istore 6, 2) := by decide +kernel
theorem dX12_layWaves_58 : decode cX12_layWaves 58 = .ok (.iload 6, 2) := by decide +kernel
theorem dX12_layWaves_60 : decode cX12_layWaves 60 = .ok (.sipush 512, 3) := by decide +kernel
theorem dX12_layWaves_63 : decode cX12_layWaves 63 = .ok (.if_icmp .ge 80, 3) := by decide +kernel
theorem dX12_layWaves_66 : decode cX12_layWaves 66 = .ok (.iload 4, 2) := by decide +kernel
theorem dX12_layWaves_68 : decode cX12_layWaves 68 = .ok (.ifCond .ne 27, 3) := by decide +kernel
theorem dX12_layWaves_71 : decode cX12_layWaves 71 = .ok (.aload_n 0, 1) := by decide +kernel
theorem dX12_layWaves_72 : decode cX12_layWaves 72 = .ok (.getfield 50, 3) := by decide +kernel
theorem dX12_layWaves_75 : decode cX12_layWaves 75 = .ok (.iload 6, 2) := by decide +kernel
theorem dX12_layWaves_77 : decode cX12_layWaves 77 = .ok (.iaload, 1) := by decide +kernel
theorem dX12_layWaves_78 : decode cX12_layWaves 78 = .ok (.ldc 153, 2) := by decide +kernel
theorem dX12_layWaves_80 : decode cX12_layWaves 80 = .ok (.if_icmp .eq 19, 3) := by decide +kernel
theorem dX12_layWaves_83 : decode cX12_layWaves 83 = .ok (.aload_n 0, 1) := by decide +kernel
theorem dX12_layWaves_84 : decode cX12_layWaves 84 = .ok (.getfield 50, 3) := by decide +kernel
theorem dX12_layWaves_87 : decode cX12_layWaves 87 = .ok (.iload 6, 2) := by decide +kernel
theorem dX12_layWaves_89 : decode cX12_layWaves 89 = .ok (.iaload, 1) := by decide +kernel
theorem dX12_layWaves_90 : decode cX12_layWaves 90 = .ok (.iload 5, 2) := by decide +kernel
theorem dX12_layWaves_92 : decode cX12_layWaves 92 = .ok (.if_icmp .le 7, 3) := by decide +kernel
theorem dX12_layWaves_95 : decode cX12_layWaves 95 = .ok (.iconst 1, 1) := by decide +kernel
theorem dX12_layWaves_96 : decode cX12_layWaves 96 = .ok (.goto 4, 3) := by decide +kernel
theorem dX12_layWaves_99 : decode cX12_layWaves 99 = .ok (.iconst 0, 1) := by decide +kernel
theorem dX12_layWaves_100 : decode cX12_layWaves 100 = .ok (.istore 4, 2) := by decide +kernel
theorem dX12_layWaves_102 : decode cX12_layWaves 102 = .ok (.aload_n 0, 1) := by decide +kernel
theorem dX12_layWaves_103 : decode cX12_layWaves 103 = .ok (.getfield 50, 3) := by decide +kernel
theorem dX12_layWaves_106 : decode cX12_layWaves 106 = .ok (.iload 6, 2) := by decide +kernel
theorem dX12_layWaves_108 : decode cX12_layWaves 108 = .ok (.iaload, 1) := by decide +kernel
theorem dX12_layWaves_109 : decode cX12_layWaves 109 = .ok (.iload 5, 2) := by decide +kernel
theorem dX12_layWaves_111 : decode cX12_layWaves 111 = .ok (.if_icmp .ne 26, 3) := by decide +kernel
theorem dX12_layWaves_114 : decode cX12_layWaves 114 = .ok (.aload_n 0, 1) := by decide +kernel
theorem dX12_layWaves_115 : decode cX12_layWaves 115 = .ok (.iload 6, 2) := by decide +kernel
theorem dX12_layWaves_117 : decode cX12_layWaves 117 = .ok (.iload_n 2, 1) := by decide +kernel
theorem dX12_layWaves_118 : decode cX12_layWaves 118 = .ok (.iload_n 3, 1) := by decide +kernel
theorem dX12_layWaves_119 : decode cX12_layWaves 119 = .ok (.invokevirtual 154, 3) := by decide +kernel
theorem dX12_layWaves_122 : decode cX12_layWaves 122 = .ok (.ifCond .ne 8, 3) := by decide +kernel
theorem dX12_layWaves_125 : decode cX12_layWaves 125 = .ok (.iload 4, 2) := by decide +kernel
theorem dX12_layWaves_127 : decode cX12_layWaves 127 = .ok (.ifCond .eq 7, 3) := by decide +kernel
theorem dX12_layWaves_130 : decode cX12_layWaves 130 = .ok (.iconst 1, 1) := by decide +kernel
theorem dX12_layWaves_131 : decode cX12_layWaves 131 = .ok (.goto 4, 3) := by decide +kernel
theorem dX12_layWaves_134 : decode cX12_layWaves 134 = .ok (.iconst 0, 1) := by decide +kernel
theorem dX12_layWaves_135 : decode cX12_layWaves 135 = .ok (.istore 4, 2) := by decide +kernel
theorem dX12_layWaves_137 : decode cX12_layWaves 137 = .ok (.iinc 6 1, 3) := by decide +kernel
theorem dX12_layWaves_140 : decode cX12_layWaves 140 = .ok (.goto (-82), 3) := by decide +kernel
theorem dX12_layWaves_143 : decode cX12_layWaves 143 = .ok (.iinc 5 1, 3) := by decide +kernel
theorem dX12_layWaves_146 : decode cX12_layWaves 146 = .ok (.goto (-99), 3) := by decide +kernel
theorem dX12_layWaves_149 : decode cX12_layWaves 149 = .ok (.return_, 1) := by decide +kernel
theorem dX12_goFrom_0 : decode cX12_goFrom 0 = .ok (.iconst 0, 1) := by decide +kernel
theorem dX12_goFrom_1 : decode cX12_goFrom 1 = .ok (.istore 4, 2) := by decide +kernel
theorem dX12_goFrom_3 : decode cX12_goFrom 3 = .ok (.iconst 0, 1) := by decide +kernel
theorem dX12_goFrom_4 : decode cX12_goFrom 4 = .ok (.istore 5, 2) := by decide +kernel
theorem dX12_goFrom_6 : decode cX12_goFrom 6 = .ok (.iload 5, 2) := by decide +kernel
theorem dX12_goFrom_8 : decode cX12_goFrom 8 = .ok (.aload_n 0, 1) := by decide +kernel
theorem dX12_goFrom_9 : decode cX12_goFrom 9 = .ok (.getfield 103, 3) := by decide +kernel
theorem dX12_goFrom_12 : decode cX12_goFrom 12 = .ok (.if_icmp .ge 181, 3) := by decide +kernel
theorem dX12_goFrom_15 : decode cX12_goFrom 15 = .ok (.iload_n 3, 1) := by decide +kernel
theorem dX12_goFrom_16 : decode cX12_goFrom 16 = .ok (.iload 5, 2) := by decide +kernel
theorem dX12_goFrom_18 : decode cX12_goFrom 18 = .ok (.ishr, 1) := by decide +kernel
theorem dX12_goFrom_19 : decode cX12_goFrom 19 = .ok (.iconst 1, 1) := by decide +kernel
theorem dX12_goFrom_20 : decode cX12_goFrom 20 = .ok (.iand, 1) := by decide +kernel
theorem dX12_goFrom_21 : decode cX12_goFrom 21 = .ok (.ifCond .ne 166, 3) := by decide +kernel
theorem dX12_goFrom_24 : decode cX12_goFrom 24 = .ok (.aload_n 0, 1) := by decide +kernel
theorem dX12_goFrom_25 : decode cX12_goFrom 25 = .ok (.iload 5, 2) := by decide +kernel
theorem dX12_goFrom_27 : decode cX12_goFrom 27 = .ok (.iload_n 1, 1) := by decide +kernel
theorem dX12_goFrom_28 : decode cX12_goFrom 28 = .ok (.invokevirtual 141, 3) := by decide +kernel
theorem dX12_goFrom_31 : decode cX12_goFrom 31 = .ok (.istore 6, 2) := by decide +kernel
theorem dX12_goFrom_33 : decode cX12_goFrom 33 = .ok (.aload_n 0, 1) := by decide +kernel
theorem dX12_goFrom_34 : decode cX12_goFrom 34 = .ok (.getfield 50, 3) := by decide +kernel
theorem dX12_goFrom_37 : decode cX12_goFrom 37 = .ok (.iload_n 1, 1) := by decide +kernel
theorem dX12_goFrom_38 : decode cX12_goFrom 38 = .ok (.iaload, 1) := by decide +kernel
theorem dX12_goFrom_39 : decode cX12_goFrom 39 = .ok (.iload_n 2, 1) := by decide +kernel
theorem dX12_goFrom_40 : decode cX12_goFrom 40 = .ok (.ifCond .eq 13, 3) := by decide +kernel
theorem dX12_goFrom_43 : decode cX12_goFrom 43 = .ok (.aload_n 0, 1) := by decide +kernel
theorem dX12_goFrom_44 : decode cX12_goFrom 44 = .ok (.getfield 19, 3) := by decide +kernel
theorem dX12_goFrom_47 : decode cX12_goFrom 47 = .ok (.iload 5, 2) := by decide +kernel
theorem dX12_goFrom_49 : decode cX12_goFrom 49 = .ok (.iaload, 1) := by decide +kernel
theorem dX12_goFrom_50 : decode cX12_goFrom 50 = .ok (.goto 4, 3) := by decide +kernel
theorem dX12_goFrom_53 : decode cX12_goFrom 53 = .ok (.iconst 1, 1) := by decide +kernel
theorem dX12_goFrom_54 : decode cX12_goFrom 54 = .ok (.iadd, 1) := by decide +kernel
theorem dX12_goFrom_55 : decode cX12_goFrom 55 = .ok (.istore 7, 2) := by decide +kernel
theorem dX12_goFrom_57 : decode cX12_goFrom 57 = .ok (.aload_n 0, 1) := by decide +kernel
theorem dX12_goFrom_58 : decode cX12_goFrom 58 = .ok (.getfield 50, 3) := by decide +kernel
theorem dX12_goFrom_61 : decode cX12_goFrom 61 = .ok (.iload_n 1, 1) := by decide +kernel
theorem dX12_goFrom_62 : decode cX12_goFrom 62 = .ok (.iaload, 1) := by decide +kernel
theorem dX12_goFrom_63 : decode cX12_goFrom 63 = .ok (.ifCond .ne 8, 3) := by decide +kernel
theorem dX12_goFrom_66 : decode cX12_goFrom 66 = .ok (.iload 5, 2) := by decide +kernel
theorem dX12_goFrom_68 : decode cX12_goFrom 68 = .ok (.goto 9, 3) := by decide +kernel
theorem dX12_goFrom_71 : decode cX12_goFrom 71 = .ok (.aload_n 0, 1) := by decide +kernel
theorem dX12_goFrom_72 : decode cX12_goFrom 72 = .ok (.getfield 53, 3) := by decide +kernel
theorem dX12_goFrom_75 : decode cX12_goFrom 75 = .ok (.iload_n 1, 1) := by decide +kernel
theorem dX12_goFrom_76 : decode cX12_goFrom 76 = .ok (.iaload, 1) := by decide +kernel
theorem dX12_goFrom_77 : decode cX12_goFrom 77 = .ok (.istore 8, 2) := by decide +kernel
theorem dX12_goFrom_79 : decode cX12_goFrom 79 = .ok (.iload 7, 2) := by decide +kernel
theorem dX12_goFrom_81 : decode cX12_goFrom 81 = .ok (.aload_n 0, 1) := by decide +kernel
theorem dX12_goFrom_82 : decode cX12_goFrom 82 = .ok (.getfield 50, 3) := by decide +kernel
theorem dX12_goFrom_85 : decode cX12_goFrom 85 = .ok (.iload 6, 2) := by decide +kernel
theorem dX12_goFrom_87 : decode cX12_goFrom 87 = .ok (.iaload, 1) := by decide +kernel
theorem dX12_goFrom_88 : decode cX12_goFrom 88 = .ok (.if_icmp .lt 27, 3) := by decide +kernel
theorem dX12_goFrom_91 : decode cX12_goFrom 91 = .ok (.iload 7, 2) := by decide +kernel
theorem dX12_goFrom_93 : decode cX12_goFrom 93 = .ok (.aload_n 0, 1) := by decide +kernel
theorem dX12_goFrom_94 : decode cX12_goFrom 94 = .ok (.getfield 50, 3) := by decide +kernel
theorem dX12_goFrom_97 : decode cX12_goFrom 97 = .ok (.iload 6, 2) := by decide +kernel
theorem dX12_goFrom_99 : decode cX12_goFrom 99 = .ok (.iaload, 1) := by decide +kernel
theorem dX12_goFrom_100 : decode cX12_goFrom 100 = .ok (.if_icmp .ne 19, 3) := by decide +kernel
theorem dX12_goFrom_103 : decode cX12_goFrom 103 = .ok (.iload 8, 2) := by decide +kernel
theorem dX12_goFrom_105 : decode cX12_goFrom 105 = .ok (.aload_n 0, 1) := by decide +kernel
theorem dX12_goFrom_106 : decode cX12_goFrom 106 = .ok (.getfield 53, 3) := by decide +kernel
theorem dX12_goFrom_109 : decode cX12_goFrom 109 = .ok (.iload 6, 2) := by decide +kernel
theorem dX12_goFrom_111 : decode cX12_goFrom 111 = .ok (.iaload, 1) := by decide +kernel
theorem dX12_goFrom_112 : decode cX12_goFrom 112 = .ok (.if_icmp .ge 7, 3) := by decide +kernel
theorem dX12_goFrom_115 : decode cX12_goFrom 115 = .ok (.iconst 1, 1) := by decide +kernel
theorem dX12_goFrom_116 : decode cX12_goFrom 116 = .ok (.goto 4, 3) := by decide +kernel
theorem dX12_goFrom_119 : decode cX12_goFrom 119 = .ok (.iconst 0, 1) := by decide +kernel
theorem dX12_goFrom_120 : decode cX12_goFrom 120 = .ok (.istore 9, 2) := by decide +kernel
theorem dX12_goFrom_122 : decode cX12_goFrom 122 = .ok (.aload_n 0, 1) := by decide +kernel
theorem dX12_goFrom_123 : decode cX12_goFrom 123 = .ok (.getfield 50, 3) := by decide +kernel
theorem dX12_goFrom_126 : decode cX12_goFrom 126 = .ok (.iload 6, 2) := by decide +kernel
theorem dX12_goFrom_128 : decode cX12_goFrom 128 = .ok (.iload 9, 2) := by decide +kernel
theorem dX12_goFrom_130 : decode cX12_goFrom 130 = .ok (.ifCond .eq 8, 3) := by decide +kernel
theorem dX12_goFrom_133 : decode cX12_goFrom 133 = .ok (.iload 7, 2) := by decide +kernel
theorem dX12_goFrom_135 : decode cX12_goFrom 135 = .ok (.goto 10, 3) := by decide +kernel
theorem dX12_goFrom_138 : decode cX12_goFrom 138 = .ok (.aload_n 0, 1) := by decide +kernel
theorem dX12_goFrom_139 : decode cX12_goFrom 139 = .ok (.getfield 50, 3) := by decide +kernel
theorem dX12_goFrom_142 : decode cX12_goFrom 142 = .ok (.iload 6, 2) := by decide +kernel
theorem dX12_goFrom_144 : decode cX12_goFrom 144 = .ok (.iaload, 1) := by decide +kernel
theorem dX12_goFrom_145 : decode cX12_goFrom 145 = .ok (.iastore, 1) := by decide +kernel
theorem dX12_goFrom_146 : decode cX12_goFrom 146 = .ok (.aload_n 0, 1) := by decide +kernel
theorem dX12_goFrom_147 : decode cX12_goFrom 147 = .ok (.getfield 53, 3) := by decide +kernel
theorem dX12_goFrom_150 : decode cX12_goFrom 150 = .ok (.iload 6, 2) := by decide +kernel
theorem dX12_goFrom_152 : decode cX12_goFrom 152 = .ok (.iload 9, 2) := by decide +kernel
theorem dX12_goFrom_154 : decode cX12_goFrom 154 = .ok (.ifCond .eq 8, 3) := by decide +kernel
theorem dX12_goFrom_157 : decode cX12_goFrom 157 = .ok (.iload 8, 2) := by decide +kernel
theorem dX12_goFrom_159 : decode cX12_goFrom 159 = .ok (.goto 10, 3) := by decide +kernel
theorem dX12_goFrom_162 : decode cX12_goFrom 162 = .ok (.aload_n 0, 1) := by decide +kernel
theorem dX12_goFrom_163 : decode cX12_goFrom 163 = .ok (.getfield 53, 3) := by decide +kernel
theorem dX12_goFrom_166 : decode cX12_goFrom 166 = .ok (.iload 6, 2) := by decide +kernel
theorem dX12_goFrom_168 : decode cX12_goFrom 168 = .ok (.iaload, 1) := by decide +kernel
theorem dX12_goFrom_169 : decode cX12_goFrom 169 = .ok (.iastore, 1) := by decide +kernel
theorem dX12_goFrom_170 : decode cX12_goFrom 170 = .ok (.iload 4, 2) := by decide +kernel
theorem dX12_goFrom_172 : decode cX12_goFrom 172 = .ok (.ifCond .ne 8, 3) := by decide +kernel
theorem dX12_goFrom_175 : decode cX12_goFrom 175 = .ok (.iload 9, 2) := by decide +kernel
theorem dX12_goFrom_177 : decode cX12_goFrom 177 = .ok (.ifCond .eq 7, 3) := by decide +kernel
theorem dX12_goFrom_180 : decode cX12_goFrom 180 = .ok (.iconst 1, 1) := by decide +kernel
theorem dX12_goFrom_181 : decode cX12_goFrom 181 = .ok (.goto 4, 3) := by decide +kernel
theorem dX12_goFrom_184 : decode cX12_goFrom 184 = .ok (.iconst 0, 1) := by decide +kernel
theorem dX12_goFrom_185 : decode cX12_goFrom 185 = .ok (.istore 4, 2) := by decide +kernel
theorem dX12_goFrom_187 : decode cX12_goFrom 187 = .ok (.iinc 5 1, 3) := by decide +kernel
theorem dX12_goFrom_190 : decode cX12_goFrom 190 = .ok (.goto (-184), 3) := by decide +kernel
theorem dX12_goFrom_193 : decode cX12_goFrom 193 = .ok (.iload 4, 2) := by decide +kernel
theorem dX12_goFrom_195 : decode cX12_goFrom 195 = .ok (.ireturn, 1) := by decide +kernel
theorem dX12_wishedNow_0 : decode cX12_wishedNow 0 = .ok (.aload_n 0, 1) := by decide +kernel
theorem dX12_wishedNow_1 : decode cX12_wishedNow 1 = .ok (.aload_n 0, 1) := by decide +kernel
theorem dX12_wishedNow_2 : decode cX12_wishedNow 2 = .ok (.iload_n 1, 1) := by decide +kernel
theorem dX12_wishedNow_3 : decode cX12_wishedNow 3 = .ok (.invokevirtual 144, 3) := by decide +kernel
theorem dX12_wishedNow_6 : decode cX12_wishedNow 6 = .ok (.iload_n 3, 1) := by decide +kernel
theorem dX12_wishedNow_7 : decode cX12_wishedNow 7 = .ok (.iconst 1, 1) := by decide +kernel
theorem dX12_wishedNow_8 : decode cX12_wishedNow 8 = .ok (.if_icmp .le 7, 3) := by decide +kernel
theorem dX12_wishedNow_11 : decode cX12_wishedNow 11 = .ok (.iconst 1, 1) := by decide +kernel
theorem dX12_wishedNow_12 : decode cX12_wishedNow 12 = .ok (.goto 4, 3) := by decide +kernel
theorem dX12_wishedNow_15 : decode cX12_wishedNow 15 = .ok (.iconst 0, 1) := by decide +kernel
theorem dX12_wishedNow_16 : decode cX12_wishedNow 16 = .ok (.iconst 0, 1) := by decide +kernel
theorem dX12_wishedNow_17 : decode cX12_wishedNow 17 = .ok (.invokevirtual 158, 3) := by decide +kernel
theorem dX12_wishedNow_20 : decode cX12_wishedNow 20 = .ok (.aload_n 0, 1) := by decide +kernel
theorem dX12_wishedNow_21 : decode cX12_wishedNow 21 = .ok (.getfield 50, 3) := by decide +kernel
theorem dX12_wishedNow_24 : decode cX12_wishedNow 24 = .ok (.iload_n 2, 1) := by decide +kernel
theorem dX12_wishedNow_25 : decode cX12_wishedNow 25 = .ok (.iaload, 1) := by decide +kernel
theorem dX12_wishedNow_26 : decode cX12_wishedNow 26 = .ok (.ldc 153, 2) := by decide +kernel
theorem dX12_wishedNow_28 : decode cX12_wishedNow 28 = .ok (.if_icmp .ne 5, 3) := by decide +kernel
theorem dX12_wishedNow_31 : decode cX12_wishedNow 31 = .ok (.iconst (-1), 1) := by decide +kernel
theorem dX12_wishedNow_32 : decode cX12_wishedNow 32 = .ok (.ireturn, 1) := by decide +kernel
theorem dX12_wishedNow_33 : decode cX12_wishedNow 33 = .ok (.iload_n 3, 1) := by decide +kernel
theorem dX12_wishedNow_34 : decode cX12_wishedNow 34 = .ok (.iconst 2, 1) := by decide +kernel
theorem dX12_wishedNow_35 : decode cX12_wishedNow 35 = .ok (.irem, 1) := by decide +kernel
theorem dX12_wishedNow_36 : decode cX12_wishedNow 36 = .ok (.ifCond .ne 12, 3) := by decide +kernel
theorem dX12_wishedNow_39 : decode cX12_wishedNow 39 = .ok (.aload_n 0, 1) := by decide +kernel
theorem dX12_wishedNow_40 : decode cX12_wishedNow 40 = .ok (.getfield 50, 3) := by decide +kernel
theorem dX12_wishedNow_43 : decode cX12_wishedNow 43 = .ok (.iload_n 2, 1) := by decide +kernel
theorem dX12_wishedNow_44 : decode cX12_wishedNow 44 = .ok (.iaload, 1) := by decide +kernel
theorem dX12_wishedNow_45 : decode cX12_wishedNow 45 = .ok (.goto 9, 3) := by decide +kernel
theorem dX12_wishedNow_48 : decode cX12_wishedNow 48 = .ok (.aload_n 0, 1) := by decide +kernel
theorem dX12_wishedNow_49 : decode cX12_wishedNow 49 = .ok (.getfield 53, 3) := by decide +kernel
theorem dX12_wishedNow_52 : decode cX12_wishedNow 52 = .ok (.iload_n 2, 1) := by decide +kernel
theorem dX12_wishedNow_53 : decode cX12_wishedNow 53 = .ok (.iaload, 1) := by decide +kernel
theorem dX12_wishedNow_54 : decode cX12_wishedNow 54 = .ok (.ireturn, 1) := by decide +kernel
theorem dX12_wished_0 : decode cX12_wished 0 = .ok (.aload_n 0, 1) := by decide +kernel
theorem dX12_wished_1 : decode cX12_wished 1 = .ok (.iload_n 1, 1) := by decide +kernel
theorem dX12_wished_2 : decode cX12_wished 2 = .ok (.invokevirtual 147, 3) := by decide +kernel
theorem dX12_wished_5 : decode cX12_wished 5 = .ok (.ifCond .ne 6, 3) := by decide +kernel
theorem dX12_wished_8 : decode cX12_wished 8 = .ok (.bipush (-101), 2) := by decide +kernel
theorem dX12_wished_10 : decode cX12_wished 10 = .ok (.ireturn, 1) := by decide +kernel
theorem dX12_wished_11 : decode cX12_wished 11 = .ok (.iload_n 2, 1) := by decide +kernel
theorem dX12_wished_12 : decode cX12_wished 12 = .ok (.invokestatic 138, 3) := by decide +kernel
theorem dX12_wished_15 : decode cX12_wished 15 = .ok (.ifCond .eq 22, 3) := by decide +kernel
theorem dX12_wished_18 : decode cX12_wished 18 = .ok (.iload_n 3, 1) := by decide +kernel
theorem dX12_wished_19 : decode cX12_wished 19 = .ok (.iconst 0, 1) := by decide +kernel
theorem dX12_wished_20 : decode cX12_wished 20 = .ok (.iconst 3, 1) := by decide +kernel
theorem dX12_wished_21 : decode cX12_wished 21 = .ok (.invokestatic 77, 3) := by decide +kernel
theorem dX12_wished_24 : decode cX12_wished 24 = .ok (.ifCond .eq 13, 3) := by decide +kernel
theorem dX12_wished_27 : decode cX12_wished 27 = .ok (.aload_n 0, 1) := by decide +kernel
theorem dX12_wished_28 : decode cX12_wished 28 = .ok (.iload_n 1, 1) := by decide +kernel
theorem dX12_wished_29 : decode cX12_wished 29 = .ok (.iload_n 2, 1) := by decide +kernel
theorem dX12_wished_30 : decode cX12_wished 30 = .ok (.iload_n 3, 1) := by decide +kernel
theorem dX12_wished_31 : decode cX12_wished 31 = .ok (.invokevirtual 162, 3) := by decide +kernel
theorem dX12_wished_34 : decode cX12_wished 34 = .ok (.goto 5, 3) := by decide +kernel
theorem dX12_wished_37 : decode cX12_wished 37 = .ok (.bipush (-102), 2) := by decide +kernel
theorem dX12_wished_39 : decode cX12_wished 39 = .ok (.ireturn, 1) := by decide +kernel
theorem dX12_reachNow_0 : decode cX12_reachNow 0 = .ok (.aload_n 0, 1) := by decide +kernel
theorem dX12_reachNow_1 : decode cX12_reachNow 1 = .ok (.aload_n 0, 1) := by decide +kernel
theorem dX12_reachNow_2 : decode cX12_reachNow 2 = .ok (.iload_n 1, 1) := by decide +kernel
theorem dX12_reachNow_3 : decode cX12_reachNow 3 = .ok (.invokevirtual 144, 3) := by decide +kernel
theorem dX12_reachNow_6 : decode cX12_reachNow 6 = .ok (.iconst 0, 1) := by decide +kernel
theorem dX12_reachNow_7 : decode cX12_reachNow 7 = .ok (.iconst 0, 1) := by decide +kernel
theorem dX12_reachNow_8 : decode cX12_reachNow 8 = .ok (.invokevirtual 158, 3) := by decide +kernel
theorem dX12_reachNow_11 : decode cX12_reachNow 11 = .ok (.iconst 0, 1) := by decide +kernel
theorem dX12_reachNow_12 : decode cX12_reachNow 12 = .ok (.istore_n 2, 1) := by decide +kernel
theorem dX12_reachNow_13 : decode cX12_reachNow 13 = .ok (.iconst 0, 1) := by decide +kernel
theorem dX12_reachNow_14 : decode cX12_reachNow 14 = .ok (.istore_n 3, 1) := by decide +kernel
theorem dX12_reachNow_15 : decode cX12_reachNow 15 = .ok (.iload_n 3, 1) := by decide +kernel
theorem dX12_reachNow_16 : decode cX12_reachNow 16 = .ok (.sipush 512, 3) := by decide +kernel
theorem dX12_reachNow_19 : decode cX12_reachNow 19 = .ok (.if_icmp .ge 28, 3) := by decide +kernel
theorem dX12_reachNow_22 : decode cX12_reachNow 22 = .ok (.iload_n 2, 1) := by decide +kernel
theorem dX12_reachNow_23 : decode cX12_reachNow 23 = .ok (.aload_n 0, 1) := by decide +kernel
theorem dX12_reachNow_24 : decode cX12_reachNow 24 = .ok (.getfield 50, 3) := by decide +kernel
theorem dX12_reachNow_27 : decode cX12_reachNow 27 = .ok (.iload_n 3, 1) := by decide +kernel
theorem dX12_reachNow_28 : decode cX12_reachNow 28 = .ok (.iaload, 1) := by decide +kernel
theorem dX12_reachNow_29 : decode cX12_reachNow 29 = .ok (.ldc 153, 2) := by decide +kernel
theorem dX12_reachNow_31 : decode cX12_reachNow 31 = .ok (.if_icmp .ne 7, 3) := by decide +kernel
theorem dX12_reachNow_34 : decode cX12_reachNow 34 = .ok (.iconst 0, 1) := by decide +kernel
theorem dX12_reachNow_35 : decode cX12_reachNow 35 = .ok (.goto 4, 3) := by decide +kernel
theorem dX12_reachNow_38 : decode cX12_reachNow 38 = .ok (.iconst 1, 1) := by decide +kernel
theorem dX12_reachNow_39 : decode cX12_reachNow 39 = .ok (.iadd, 1) := by decide +kernel
theorem dX12_reachNow_40 : decode cX12_reachNow 40 = .ok (.istore_n 2, 1) := by decide +kernel
theorem dX12_reachNow_41 : decode cX12_reachNow 41 = .ok (.iinc 3 1, 3) := by decide +kernel
theorem dX12_reachNow_44 : decode cX12_reachNow 44 = .ok (.goto (-29), 3) := by decide +kernel
theorem dX12_reachNow_47 : decode cX12_reachNow 47 = .ok (.iload_n 2, 1) := by decide +kernel
theorem dX12_reachNow_48 : decode cX12_reachNow 48 = .ok (.ireturn, 1) := by decide +kernel
theorem dX12_reach_0 : decode cX12_reach 0 = .ok (.aload_n 0, 1) := by decide +kernel
theorem dX12_reach_1 : decode cX12_reach 1 = .ok (.iload_n 1, 1) := by decide +kernel
theorem dX12_reach_2 : decode cX12_reach 2 = .ok (.invokevirtual 147, 3) := by decide +kernel
theorem dX12_reach_5 : decode cX12_reach 5 = .ok (.ifCond .eq 11, 3) := by decide +kernel
theorem dX12_reach_8 : decode cX12_reach 8 = .ok (.aload_n 0, 1) := by decide +kernel
theorem dX12_reach_9 : decode cX12_reach 9 = .ok (.iload_n 1, 1) := by decide +kernel
theorem dX12_reach_10 : decode cX12_reach 10 = .ok (.invokevirtual 165, 3) := by decide +kernel
theorem dX12_reach_13 : decode cX12_reach 13 = .ok (.goto 5, 3) := by decide +kernel
theorem dX12_reach_16 : decode cX12_reach 16 = .ok (.bipush (-101), 2) := by decide +kernel
theorem dX12_reach_18 : decode cX12_reach 18 = .ok (.ireturn, 1) := by decide +kernel
theorem dX12_isSafe_0 : decode cX12_isSafe 0 = .ok (.aload_n 0, 1) := by decide +kernel
theorem dX12_isSafe_1 : decode cX12_isSafe 1 = .ok (.aload_n 0, 1) := by decide +kernel
theorem dX12_isSafe_2 : decode cX12_isSafe 2 = .ok (.iload_n 1, 1) := by decide +kernel
theorem dX12_isSafe_3 : decode cX12_isSafe 3 = .ok (.invokevirtual 144, 3) := by decide +kernel
theorem dX12_isSafe_6 : decode cX12_isSafe 6 = .ok (.iconst 0, 1) := by decide +kernel
theorem dX12_isSafe_7 : decode cX12_isSafe 7 = .ok (.iload 4, 2) := by decide +kernel
theorem dX12_isSafe_9 : decode cX12_isSafe 9 = .ok (.invokevirtual 158, 3) := by decide +kernel
theorem dX12_isSafe_12 : decode cX12_isSafe 12 = .ok (.iconst 1, 1) := by decide +kernel
theorem dX12_isSafe_13 : decode cX12_isSafe 13 = .ok (.istore 5, 2) := by decide +kernel
theorem dX12_isSafe_15 : decode cX12_isSafe 15 = .ok (.iconst 0, 1) := by decide +kernel
theorem dX12_isSafe_16 : decode cX12_isSafe 16 = .ok (.istore 6, 2) := by decide +kernel
theorem dX12_isSafe_18 : decode cX12_isSafe 18 = .ok (.iload 6, 2) := by decide +kernel
theorem dX12_isSafe_20 : decode cX12_isSafe 20 = .ok (.sipush 512, 3) := by decide +kernel
theorem dX12_isSafe_23 : decode cX12_isSafe 23 = .ok (.if_icmp .ge 43, 3) := by decide +kernel
theorem dX12_isSafe_26 : decode cX12_isSafe 26 = .ok (.iload 5, 2) := by decide +kernel
theorem dX12_isSafe_28 : decode cX12_isSafe 28 = .ok (.ifCond .eq 29, 3) := by decide +kernel
theorem dX12_isSafe_31 : decode cX12_isSafe 31 = .ok (.aload_n 0, 1) := by decide +kernel
theorem dX12_isSafe_32 : decode cX12_isSafe 32 = .ok (.getfield 50, 3) := by decide +kernel
theorem dX12_isSafe_35 : decode cX12_isSafe 35 = .ok (.iload 6, 2) := by decide +kernel
theorem dX12_isSafe_37 : decode cX12_isSafe 37 = .ok (.iaload, 1) := by decide +kernel
theorem dX12_isSafe_38 : decode cX12_isSafe 38 = .ok (.ldc 153, 2) := by decide +kernel
theorem dX12_isSafe_40 : decode cX12_isSafe 40 = .ok (.if_icmp .eq 13, 3) := by decide +kernel
theorem dX12_isSafe_43 : decode cX12_isSafe 43 = .ok (.iload 6, 2) := by decide +kernel
theorem dX12_isSafe_45 : decode cX12_isSafe 45 = .ok (.iload_n 2, 1) := by decide +kernel
theorem dX12_isSafe_46 : decode cX12_isSafe 46 = .ok (.invokestatic 121, 3) := by decide +kernel
theorem dX12_isSafe_49 : decode cX12_isSafe 49 = .ok (.iload_n 3, 1) := by decide +kernel
theorem dX12_isSafe_50 : decode cX12_isSafe 50 = .ok (.if_icmp .lt 7, 3) := by decide +kernel
theorem dX12_isSafe_53 : decode cX12_isSafe 53 = .ok (.iconst 1, 1) := by decide +kernel
theorem dX12_isSafe_54 : decode cX12_isSafe 54 = .ok (.goto 4, 3) := by decide +kernel
theorem dX12_isSafe_57 : decode cX12_isSafe 57 = .ok (.iconst 0, 1) := by decide +kernel
theorem dX12_isSafe_58 : decode cX12_isSafe 58 = .ok (.istore 5, 2) := by decide +kernel
theorem dX12_isSafe_60 : decode cX12_isSafe 60 = .ok (.iinc 6 1, 3) := by decide +kernel
theorem dX12_isSafe_63 : decode cX12_isSafe 63 = .ok (.goto (-45), 3) := by decide +kernel
theorem dX12_isSafe_66 : decode cX12_isSafe 66 = .ok (.iload 5, 2) := by decide +kernel
theorem dX12_isSafe_68 : decode cX12_isSafe 68 = .ok (.ireturn, 1) := by decide +kernel
theorem dX12_spoilersNow_0 : decode cX12_spoilersNow 0 = .ok (.iconst (-1), 1) := by decide +kernel
theorem dX12_spoilersNow_1 : decode cX12_spoilersNow 1 = .ok (.istore 4, 2) := by decide +kernel
theorem dX12_spoilersNow_3 : decode cX12_spoilersNow 3 = .ok (.bipush 7, 2) := by decide +kernel
theorem dX12_spoilersNow_5 : decode cX12_spoilersNow 5 = .ok (.istore 5, 2) := by decide +kernel
theorem dX12_spoilersNow_7 : decode cX12_spoilersNow 7 = .ok (.iconst 0, 1) := by decide +kernel
theorem dX12_spoilersNow_8 : decode cX12_spoilersNow 8 = .ok (.istore 6, 2) := by decide +kernel
theorem dX12_spoilersNow_10 : decode cX12_spoilersNow 10 = .ok (.iload 6, 2) := by decide +kernel
theorem dX12_spoilersNow_12 : decode cX12_spoilersNow 12 = .ok (.iconst 1, 1) := by decide +kernel
theorem dX12_spoilersNow_13 : decode cX12_spoilersNow 13 = .ok (.aload_n 0, 1) := by decide +kernel
theorem dX12_spoilersNow_14 : decode cX12_spoilersNow 14 = .ok (.getfield 103, 3) := by decide +kernel
theorem dX12_spoilersNow_17 : decode cX12_spoilersNow 17 = .ok (.ishl, 1) := by decide +kernel
theorem dX12_spoilersNow_18 : decode cX12_spoilersNow 18 = .ok (.if_icmp .ge 42, 3) := by decide +kernel
theorem dX12_spoilersNow_21 : decode cX12_spoilersNow 21 = .ok (.iload 6, 2) := by decide +kernel
theorem dX12_spoilersNow_23 : decode cX12_spoilersNow 23 = .ok (.invokestatic 168, 3) := by decide +kernel
theorem dX12_spoilersNow_26 : decode cX12_spoilersNow 26 = .ok (.iload 5, 2) := by decide +kernel
theorem dX12_spoilersNow_28 : decode cX12_spoilersNow 28 = .ok (.if_icmp .ge 26, 3) := by decide +kernel
theorem dX12_spoilersNow_31 : decode cX12_spoilersNow 31 = .ok (.aload_n 0, 1) := by decide +kernel
theorem dX12_spoilersNow_32 : decode cX12_spoilersNow 32 = .ok (.iload_n 1, 1) := by decide +kernel
theorem dX12_spoilersNow_33 : decode cX12_spoilersNow 33 = .ok (.iload_n 2, 1) := by decide +kernel
theorem dX12_spoilersNow_34 : decode cX12_spoilersNow 34 = .ok (.iload_n 3, 1) := by decide +kernel
theorem dX12_spoilersNow_35 : decode cX12_spoilersNow 35 = .ok (.iload 6, 2) := by decide +kernel
theorem dX12_spoilersNow_37 : decode cX12_spoilersNow 37 = .ok (.invokevirtual 171, 3) := by decide +kernel
theorem dX12_spoilersNow_40 : decode cX12_spoilersNow 40 = .ok (.ifCond .eq 14, 3) := by decide +kernel
theorem dX12_spoilersNow_43 : decode cX12_spoilersNow 43 = .ok (.iload 6, 2) := by decide +kernel
theorem dX12_spoilersNow_45 : decode cX12_spoilersNow 45 = .ok (.istore 4, 2) := by decide +kernel
theorem dX12_spoilersNow_47 : decode cX12_spoilersNow 47 = .ok (.iload 6, 2) := by decide +kernel
theorem dX12_spoilersNow_49 : decode cX12_spoilersNow 49 = .ok (.invokestatic 168, 3) := by decide +kernel
theorem dX12_spoilersNow_52 : decode cX12_spoilersNow 52 = .ok (.istore 5, 2) := by decide +kernel
theorem dX12_spoilersNow_54 : decode cX12_spoilersNow 54 = .ok (.iinc 6 1, 3) := by decide +kernel
theorem dX12_spoilersNow_57 : decode cX12_spoilersNow 57 = .ok (.goto (-47), 3) := by decide +kernel
theorem dX12_spoilersNow_60 : decode cX12_spoilersNow 60 = .ok (.iload 4, 2) := by decide +kernel
theorem dX12_spoilersNow_62 : decode cX12_spoilersNow 62 = .ok (.ireturn, 1) := by decide +kernel
theorem dX12_spoilers_0 : decode cX12_spoilers 0 = .ok (.aload_n 0, 1) := by decide +kernel
theorem dX12_spoilers_1 : decode cX12_spoilers 1 = .ok (.iload_n 1, 1) := by decide +kernel
theorem dX12_spoilers_2 : decode cX12_spoilers 2 = .ok (.invokevirtual 147, 3) := by decide +kernel
theorem dX12_spoilers_5 : decode cX12_spoilers 5 = .ok (.ifCond .ne 6, 3) := by decide +kernel
theorem dX12_spoilers_8 : decode cX12_spoilers 8 = .ok (.bipush (-101), 2) := by decide +kernel
theorem dX12_spoilers_10 : decode cX12_spoilers 10 = .ok (.ireturn, 1) := by decide +kernel
theorem dX12_spoilers_11 : decode cX12_spoilers 11 = .ok (.iload_n 2, 1) := by decide +kernel
theorem dX12_spoilers_12 : decode cX12_spoilers 12 = .ok (.iconst 0, 1) := by decide +kernel
theorem dX12_spoilers_13 : decode cX12_spoilers 13 = .ok (.iconst 2, 1) := by decide +kernel
theorem dX12_spoilers_14 : decode cX12_spoilers 14 = .ok (.invokestatic 77, 3) := by decide +kernel
theorem dX12_spoilers_17 : decode cX12_spoilers 17 = .ok (.ifCond .eq 23, 3) := by decide +kernel
theorem dX12_spoilers_20 : decode cX12_spoilers 20 = .ok (.iload_n 3, 1) := by decide +kernel
theorem dX12_spoilers_21 : decode cX12_spoilers 21 = .ok (.iconst 1, 1) := by decide +kernel
theorem dX12_spoilers_22 : decode cX12_spoilers 22 = .ok (.bipush 7, 2) := by decide +kernel
theorem dX12_spoilers_24 : decode cX12_spoilers 24 = .ok (.invokestatic 77, 3) := by decide +kernel
theorem dX12_spoilers_27 : decode cX12_spoilers 27 = .ok (.ifCond .eq 13, 3) := by decide +kernel
theorem dX12_spoilers_30 : decode cX12_spoilers 30 = .ok (.aload_n 0, 1) := by decide +kernel
theorem dX12_spoilers_31 : decode cX12_spoilers 31 = .ok (.iload_n 1, 1) := by decide +kernel
theorem dX12_spoilers_32 : decode cX12_spoilers 32 = .ok (.iload_n 2, 1) := by decide +kernel
theorem dX12_spoilers_33 : decode cX12_spoilers 33 = .ok (.iload_n 3, 1) := by decide +kernel
theorem dX12_spoilers_34 : decode cX12_spoilers 34 = .ok (.invokevirtual 175, 3) := by decide +kernel
theorem dX12_spoilers_37 : decode cX12_spoilers 37 = .ok (.goto 5, 3) := by decide +kernel
theorem dX12_spoilers_40 : decode cX12_spoilers 40 = .ok (.bipush (-102), 2) := by decide +kernel
theorem dX12_spoilers_42 : decode cX12_spoilers 42 = .ok (.ireturn, 1) := by decide +kernel
theorem dX12_endsOf_0 : decode cX12_endsOf 0 = .ok (.iload_n 1, 1) := by decide +kernel
theorem dX12_endsOf_1 : decode cX12_endsOf 1 = .ok (.istore_n 2, 1) := by decide +kernel
theorem dX12_endsOf_2 : decode cX12_endsOf 2 = .ok (.iconst 0, 1) := by decide +kernel
theorem dX12_endsOf_3 : decode cX12_endsOf 3 = .ok (.istore_n 3, 1) := by decide +kernel
theorem dX12_endsOf_4 : decode cX12_endsOf 4 = .ok (.iload_n 3, 1) := by decide +kernel
theorem dX12_endsOf_5 : decode cX12_endsOf 5 = .ok (.aload_n 0, 1) := by decide +kernel
theorem dX12_endsOf_6 : decode cX12_endsOf 6 = .ok (.getfield 81, 3) := by decide +kernel
theorem dX12_endsOf_9 : decode cX12_endsOf 9 = .ok (.if_icmp .ge 24, 3) := by decide +kernel
theorem dX12_endsOf_12 : decode cX12_endsOf 12 = .ok (.aload_n 0, 1) := by decide +kernel
theorem dX12_endsOf_13 : decode cX12_endsOf 13 = .ok (.aload_n 0, 1) := by decide +kernel
theorem dX12_endsOf_14 : decode cX12_endsOf 14 = .ok (.getfield 34, 3) := by decide +kernel
theorem dX12_endsOf_17 : decode cX12_endsOf 17 = .ok (.iload_n 3, 1) := by decide +kernel
theorem dX12_endsOf_18 : decode cX12_endsOf 18 = .ok (.baload, 1) := by decide +kernel
theorem dX12_endsOf_19 : decode cX12_endsOf 19 = .ok (.bipush 48, 2) := by decide +kernel
theorem dX12_endsOf_21 : decode cX12_endsOf 21 = .ok (.isub, 1) := by decide +kernel
theorem dX12_endsOf_22 : decode cX12_endsOf 22 = .ok (.iload_n 2, 1) := by decide +kernel
theorem dX12_endsOf_23 : decode cX12_endsOf 23 = .ok (.invokevirtual 141, 3) := by decide +kernel
theorem dX12_endsOf_26 : decode cX12_endsOf 26 = .ok (.istore_n 2, 1) := by decide +kernel
theorem dX12_endsOf_27 : decode cX12_endsOf 27 = .ok (.iinc 3 1, 3) := by decide +kernel
theorem dX12_endsOf_30 : decode cX12_endsOf 30 = .ok (.goto (-26), 3) := by decide +kernel
theorem dX12_endsOf_33 : decode cX12_endsOf 33 = .ok (.iload_n 2, 1) := by decide +kernel
theorem dX12_endsOf_34 : decode cX12_endsOf 34 = .ok (.ireturn, 1) := by decide +kernel
theorem dX12_backNow_0 : decode cX12_backNow 0 = .ok (.iconst 0, 1) := by decide +kernel
theorem dX12_backNow_1 : decode cX12_backNow 1 = .ok (.istore_n 1, 1) := by decide +kernel
theorem dX12_backNow_2 : decode cX12_backNow 2 = .ok (.iload_n 1, 1) := by decide +kernel
theorem dX12_backNow_3 : decode cX12_backNow 3 = .ok (.sipush 512, 3) := by decide +kernel
theorem dX12_backNow_6 : decode cX12_backNow 6 = .ok (.if_icmp .ge 16, 3) := by decide +kernel
theorem dX12_backNow_9 : decode cX12_backNow 9 = .ok (.aload_n 0, 1) := by decide +kernel
theorem dX12_backNow_10 : decode cX12_backNow 10 = .ok (.getfield 50, 3) := by decide +kernel
theorem dX12_backNow_13 : decode cX12_backNow 13 = .ok (.iload_n 1, 1) := by decide +kernel
theorem dX12_backNow_14 : decode cX12_backNow 14 = .ok (.iload_n 1, 1) := by decide +kernel
theorem dX12_backNow_15 : decode cX12_backNow 15 = .ok (.iastore, 1) := by decide +kernel
theorem dX12_backNow_16 : decode cX12_backNow 16 = .ok (.iinc 1 1, 3) := by decide +kernel
theorem dX12_backNow_19 : decode cX12_backNow 19 = .ok (.goto (-17), 3) := by decide +kernel
theorem dX12_backNow_22 : decode cX12_backNow 22 = .ok (.iconst 1, 1) := by decide +kernel
theorem dX12_backNow_23 : decode cX12_backNow 23 = .ok (.istore_n 1, 1) := by decide +kernel
theorem dX12_backNow_24 : decode cX12_backNow 24 = .ok (.iload_n 1, 1) := by decide +kernel
theorem dX12_backNow_25 : decode cX12_backNow 25 = .ok (.bipush 60, 2) := by decide +kernel
theorem dX12_backNow_27 : decode cX12_backNow 27 = .ok (.if_icmp .gt 68, 3) := by decide +kernel
theorem dX12_backNow_30 : decode cX12_backNow 30 = .ok (.iconst 1, 1) := by decide +kernel
theorem dX12_backNow_31 : decode cX12_backNow 31 = .ok (.istore_n 2, 1) := by decide +kernel
theorem dX12_backNow_32 : decode cX12_backNow 32 = .ok (.iconst 0, 1) := by decide +kernel
theorem dX12_backNow_33 : decode cX12_backNow 33 = .ok (.istore_n 3, 1) := by decide +kernel
theorem dX12_backNow_34 : decode cX12_backNow 34 = .ok (.iload_n 3, 1) := by decide +kernel
theorem dX12_backNow_35 : decode cX12_backNow 35 = .ok (.sipush 512, 3) := by decide +kernel
theorem dX12_backNow_38 : decode cX12_backNow 38 = .ok (.if_icmp .ge 45, 3) := by decide +kernel
theorem dX12_backNow_41 : decode cX12_backNow 41 = .ok (.aload_n 0, 1) := by decide +kernel
theorem dX12_backNow_42 : decode cX12_backNow 42 = .ok (.getfield 50, 3) := by decide +kernel
theorem dX12_backNow_45 : decode cX12_backNow 45 = .ok (.iload_n 3, 1) := by decide +kernel
theorem dX12_backNow_46 : decode cX12_backNow 46 = .ok (.aload_n 0, 1) := by decide +kernel
theorem dX12_backNow_47 : decode cX12_backNow 47 = .ok (.aload_n 0, 1) := by decide +kernel
theorem dX12_backNow_48 : decode cX12_backNow 48 = .ok (.getfield 50, 3) := by decide +kernel
theorem dX12_backNow_51 : decode cX12_backNow 51 = .ok (.iload_n 3, 1) := by decide +kernel
theorem dX12_backNow_52 : decode cX12_backNow 52 = .ok (.iaload, 1) := by decide +kernel
theorem dX12_backNow_53 : decode cX12_backNow 53 = .ok (.invokevirtual 178, 3) := by decide +kernel
theorem dX12_backNow_56 : decode cX12_backNow 56 = .ok (.iastore, 1) := by decide +kernel
theorem dX12_backNow_57 : decode cX12_backNow 57 = .ok (.iload_n 2, 1) := by decide +kernel
theorem dX12_backNow_58 : decode cX12_backNow 58 = .ok (.ifCond .eq 17, 3) := by decide +kernel
theorem dX12_backNow_61 : decode cX12_backNow 61 = .ok (.aload_n 0, 1) := by decide +kernel
theorem dX12_backNow_62 : decode cX12_backNow 62 = .ok (.getfield 50, 3) := by decide +kernel
theorem dX12_backNow_65 : decode cX12_backNow 65 = .ok (.iload_n 3, 1) := by decide +kernel
theorem dX12_backNow_66 : decode cX12_backNow 66 = .ok (.iaload, 1) := by decide +kernel
theorem dX12_backNow_67 : decode cX12_backNow 67 = .ok (.iload_n 3, 1) := by decide +kernel
theorem dX12_backNow_68 : decode cX12_backNow 68 = .ok (.if_icmp .ne 7, 3) := by decide +kernel
theorem dX12_backNow_71 : decode cX12_backNow 71 = .ok (.iconst 1, 1) := by decide +kernel
theorem dX12_backNow_72 : decode cX12_backNow 72 = .ok (.goto 4, 3) := by decide +kernel
theorem dX12_backNow_75 : decode cX12_backNow 75 = .ok (.iconst 0, 1) := by decide +kernel
theorem dX12_backNow_76 : decode cX12_backNow 76 = .ok (.istore_n 2, 1) := by decide +kernel
theorem dX12_backNow_77 : decode cX12_backNow 77 = .ok (.iinc 3 1, 3) := by decide +kernel
theorem dX12_backNow_80 : decode cX12_backNow 80 = .ok (.goto (-46), 3) := by decide +kernel
theorem dX12_backNow_83 : decode cX12_backNow 83 = .ok (.iload_n 2, 1) := by decide +kernel
theorem dX12_backNow_84 : decode cX12_backNow 84 = .ok (.ifCond .eq 5, 3) := by decide +kernel
theorem dX12_backNow_87 : decode cX12_backNow 87 = .ok (.iload_n 1, 1) := by decide +kernel
theorem dX12_backNow_88 : decode cX12_backNow 88 = .ok (.ireturn, 1) := by decide +kernel
theorem dX12_backNow_89 : decode cX12_backNow 89 = .ok (.iinc 1 1, 3) := by decide +kernel
theorem dX12_backNow_92 : decode cX12_backNow 92 = .ok (.goto (-68), 3) := by decide +kernel
theorem dX12_backNow_95 : decode cX12_backNow 95 = .ok (.iconst (-1), 1) := by decide +kernel
theorem dX12_backNow_96 : decode cX12_backNow 96 = .ok (.ireturn, 1) := by decide +kernel
theorem dX12_round_0 : decode cX12_round 0 = .ok (.iload_n 1, 1) := by decide +kernel
theorem dX12_round_1 : decode cX12_round 1 = .ok (.invokestatic 138, 3) := by decide +kernel
theorem dX12_round_4 : decode cX12_round 4 = .ok (.ifCond .eq 12, 3) := by decide +kernel
theorem dX12_round_7 : decode cX12_round 7 = .ok (.iload_n 2, 1) := by decide +kernel
theorem dX12_round_8 : decode cX12_round 8 = .ok (.iconst 0, 1) := by decide +kernel
theorem dX12_round_9 : decode cX12_round 9 = .ok (.iconst 1, 1) := by decide +kernel
theorem dX12_round_10 : decode cX12_round 10 = .ok (.invokestatic 77, 3) := by decide +kernel
theorem dX12_round_13 : decode cX12_round 13 = .ok (.ifCond .ne 6, 3) := by decide +kernel
theorem dX12_round_16 : decode cX12_round 16 = .ok (.bipush (-102), 2) := by decide +kernel
theorem dX12_round_18 : decode cX12_round 18 = .ok (.ireturn, 1) := by decide +kernel
theorem dX12_round_19 : decode cX12_round 19 = .ok (.aload_n 0, 1) := by decide +kernel
theorem dX12_round_20 : decode cX12_round 20 = .ok (.invokevirtual 109, 3) := by decide +kernel
theorem dX12_round_23 : decode cX12_round 23 = .ok (.aload_n 0, 1) := by decide +kernel
theorem dX12_round_24 : decode cX12_round 24 = .ok (.getfield 96, 3) := by decide +kernel
theorem dX12_round_27 : decode cX12_round 27 = .ok (.ifCond .ne 6, 3) := by decide +kernel
theorem dX12_round_30 : decode cX12_round 30 = .ok (.bipush (-103), 2) := by decide +kernel
theorem dX12_round_32 : decode cX12_round 32 = .ok (.ireturn, 1) := by decide +kernel
theorem dX12_round_33 : decode cX12_round 33 = .ok (.iload_n 2, 1) := by decide +kernel
theorem dX12_round_34 : decode cX12_round 34 = .ok (.ifCond .ne 10, 3) := by decide +kernel
theorem dX12_round_37 : decode cX12_round 37 = .ok (.aload_n 0, 1) := by decide +kernel
theorem dX12_round_38 : decode cX12_round 38 = .ok (.invokevirtual 181, 3) := by decide +kernel
theorem dX12_round_41 : decode cX12_round 41 = .ok (.goto 8, 3) := by decide +kernel
theorem dX12_round_44 : decode cX12_round 44 = .ok (.aload_n 0, 1) := by decide +kernel
theorem dX12_round_45 : decode cX12_round 45 = .ok (.iload_n 1, 1) := by decide +kernel
theorem dX12_round_46 : decode cX12_round 46 = .ok (.invokevirtual 178, 3) := by decide +kernel
theorem dX12_round_49 : decode cX12_round 49 = .ok (.ireturn, 1) := by decide +kernel
theorem dX12_rowsWithout_0 : decode cX12_rowsWithout 0 = .ok (.iconst 0, 1) := by decide +kernel
theorem dX12_rowsWithout_1 : decode cX12_rowsWithout 1 = .ok (.istore 5, 2) := by decide +kernel
theorem dX12_rowsWithout_3 : decode cX12_rowsWithout 3 = .ok (.iload 5, 2) := by decide +kernel
theorem dX12_rowsWithout_5 : decode cX12_rowsWithout 5 = .ok (.sipush 512, 3) := by decide +kernel
theorem dX12_rowsWithout_8 : decode cX12_rowsWithout 8 = .ok (.if_icmp .ge 27, 3) := by decide +kernel
theorem dX12_rowsWithout_11 : decode cX12_rowsWithout 11 = .ok (.aload_n 0, 1) := by decide +kernel
theorem dX12_rowsWithout_12 : decode cX12_rowsWithout 12 = .ok (.getfield 56, 3) := by decide +kernel
theorem dX12_rowsWithout_15 : decode cX12_rowsWithout 15 = .ok (.iload 5, 2) := by decide +kernel
theorem dX12_rowsWithout_17 : decode cX12_rowsWithout 17 = .ok (.iload 5, 2) := by decide +kernel
theorem dX12_rowsWithout_19 : decode cX12_rowsWithout 19 = .ok (.iload_n 1, 1) := by decide +kernel
theorem dX12_rowsWithout_20 : decode cX12_rowsWithout 20 = .ok (.if_icmp .ne 7, 3) := by decide +kernel
theorem dX12_rowsWithout_23 : decode cX12_rowsWithout 23 = .ok (.iconst 1, 1) := by decide +kernel
theorem dX12_rowsWithout_24 : decode cX12_rowsWithout 24 = .ok (.goto 4, 3) := by decide +kernel
theorem dX12_rowsWithout_27 : decode cX12_rowsWithout 27 = .ok (.iconst 0, 1) := by decide +kernel
theorem dX12_rowsWithout_28 : decode cX12_rowsWithout 28 = .ok (.iastore, 1) := by decide +kernel
theorem dX12_rowsWithout_29 : decode cX12_rowsWithout 29 = .ok (.iinc 5 1, 3) := by decide +kernel
theorem dX12_rowsWithout_32 : decode cX12_rowsWithout 32 = .ok (.goto (-29), 3) := by decide +kernel
theorem dX12_rowsWithout_35 : decode cX12_rowsWithout 35 = .ok (.iconst 0, 1) := by decide +kernel
theorem dX12_rowsWithout_36 : decode cX12_rowsWithout 36 = .ok (.istore 5, 2) := by decide +kernel
theorem dX12_rowsWithout_38 : decode cX12_rowsWithout 38 = .ok (.iload 5, 2) := by decide +kernel
theorem dX12_rowsWithout_40 : decode cX12_rowsWithout 40 = .ok (.iload_n 3, 1) := by decide +kernel
theorem dX12_rowsWithout_41 : decode cX12_rowsWithout 41 = .ok (.if_icmp .ge 144, 3) := by decide +kernel
theorem dX12_rowsWithout_44 : decode cX12_rowsWithout 44 = .ok (.iconst 0, 1) := by decide +kernel
theorem dX12_rowsWithout_45 : decode cX12_rowsWithout 45 = .ok (.istore 6, 2) := by decide +kernel
theorem dX12_rowsWithout_47 : decode cX12_rowsWithout 47 = .ok (.iload 6, 2) := by decide +kernel
theorem dX12_rowsWithout_49 : decode cX12_rowsWithout 49 = .ok (.sipush 512, 3) := by decide +kernel
theorem dX12_rowsWithout_52 : decode cX12_rowsWithout 52 = .ok (.if_icmp .ge 17, 3) := by decide +kernel
theorem dX12_rowsWithout_55 : decode cX12_rowsWithout 55 = .ok (.aload_n 0, 1) := by decide +kernel
theorem dX12_rowsWithout_56 : decode cX12_rowsWithout 56 = .ok (.getfield 59, 3) := by decide +kernel
theorem dX12_rowsWithout_59 : decode cX12_rowsWithout 59 = .ok (.iload 6, 2) := by decide +kernel
theorem dX12_rowsWithout_61 : decode cX12_rowsWithout 61 = .ok (.iconst 0, 1) := by decide +kernel
theorem dX12_rowsWithout_62 : decode cX12_rowsWithout 62 = .ok (.iastore, 1) := by decide +kernel
theorem dX12_rowsWithout_63 : decode cX12_rowsWithout 63 = .ok (.iinc 6 1, 3) := by decide +kernel
theorem dX12_rowsWithout_66 : decode cX12_rowsWithout 66 = .ok (.goto (-19), 3) := by decide +kernel
theorem dX12_rowsWithout_69 : decode cX12_rowsWithout 69 = .ok (.iconst 0, 1) := by decide +kernel
theorem dX12_rowsWithout_70 : decode cX12_rowsWithout 70 = .ok (.istore 6, 2) := by decide +kernel
theorem dX12_rowsWithout_72 : decode cX12_rowsWithout 72 = .ok (.iload 6, 2) := by decide +kernel
theorem dX12_rowsWithout_74 : decode cX12_rowsWithout 74 = .ok (.sipush 512, 3) := by decide +kernel
theorem dX12_rowsWithout_77 : decode cX12_rowsWithout 77 = .ok (.if_icmp .ge 71, 3) := by decide +kernel
theorem dX12_rowsWithout_80 : decode cX12_rowsWithout 80 = .ok (.iconst 0, 1) := by decide +kernel
theorem dX12_rowsWithout_81 : decode cX12_rowsWithout 81 = .ok (.istore 7, 2) := by decide +kernel
theorem dX12_rowsWithout_83 : decode cX12_rowsWithout 83 = .ok (.iload 7, 2) := by decide +kernel
theorem dX12_rowsWithout_85 : decode cX12_rowsWithout 85 = .ok (.aload_n 0, 1) := by decide +kernel
theorem dX12_rowsWithout_86 : decode cX12_rowsWithout 86 = .ok (.getfield 103, 3) := by decide +kernel
theorem dX12_rowsWithout_89 : decode cX12_rowsWithout 89 = .ok (.if_icmp .ge 53, 3) := by decide +kernel
theorem dX12_rowsWithout_92 : decode cX12_rowsWithout 92 = .ok (.aload_n 0, 1) := by decide +kernel
theorem dX12_rowsWithout_93 : decode cX12_rowsWithout 93 = .ok (.getfield 56, 3) := by decide +kernel
theorem dX12_rowsWithout_96 : decode cX12_rowsWithout 96 = .ok (.iload 6, 2) := by decide +kernel
theorem dX12_rowsWithout_98 : decode cX12_rowsWithout 98 = .ok (.iaload, 1) := by decide +kernel
theorem dX12_rowsWithout_99 : decode cX12_rowsWithout 99 = .ok (.ifCond .le 43, 3) := by decide +kernel
theorem dX12_rowsWithout_102 : decode cX12_rowsWithout 102 = .ok (.aload_n 0, 1) := by decide +kernel
theorem dX12_rowsWithout_103 : decode cX12_rowsWithout 103 = .ok (.getfield 59, 3) := by decide +kernel
theorem dX12_rowsWithout_106 : decode cX12_rowsWithout 106 = .ok (.aload_n 0, 1) := by decide +kernel
theorem dX12_rowsWithout_107 : decode cX12_rowsWithout 107 = .ok (.iload 7, 2) := by decide +kernel
theorem dX12_rowsWithout_109 : decode cX12_rowsWithout 109 = .ok (.iload 6, 2) := by decide +kernel
theorem dX12_rowsWithout_111 : decode cX12_rowsWithout 111 = .ok (.invokevirtual 141, 3) := by decide +kernel
theorem dX12_rowsWithout_114 : decode cX12_rowsWithout 114 = .ok (.dup2, 1) := by decide +kernel
theorem dX12_rowsWithout_115 : decode cX12_rowsWithout 115 = .ok (.iaload, 1) := by decide +kernel
theorem dX12_rowsWithout_116 : decode cX12_rowsWithout 116 = .ok (.iload 7, 2) := by decide +kernel
theorem dX12_rowsWithout_118 : decode cX12_rowsWithout 118 = .ok (.iload 4, 2) := by decide +kernel
theorem dX12_rowsWithout_120 : decode cX12_rowsWithout 120 = .ok (.if_icmp .ne 7, 3) := by decide +kernel
theorem dX12_rowsWithout_123 : decode cX12_rowsWithout 123 = .ok (.iconst 0, 1) := by decide +kernel
theorem dX12_rowsWithout_124 : decode cX12_rowsWithout 124 = .ok (.goto 10, 3) := by decide +kernel
theorem dX12_rowsWithout_127 : decode cX12_rowsWithout 127 = .ok (.aload_n 0, 1) := by decide +kernel
theorem dX12_rowsWithout_128 : decode cX12_rowsWithout 128 = .ok (.getfield 56, 3) := by decide +kernel
theorem dX12_rowsWithout_131 : decode cX12_rowsWithout 131 = .ok (.iload 6, 2) := by decide +kernel
theorem dX12_rowsWithout_133 : decode cX12_rowsWithout 133 = .ok (.iaload, 1) := by decide +kernel
theorem dX12_rowsWithout_134 : decode cX12_rowsWithout 134 = .ok (.iadd, 1) := by decide +kernel
theorem dX12_rowsWithout_135 : decode cX12_rowsWithout 135 = .ok (.iastore, 1) := by decide +kernel
theorem dX12_rowsWithout_136 : decode cX12_rowsWithout 136 = .ok (.iinc 7 1, 3) := by decide +kernel
theorem dX12_rowsWithout_139 : decode cX12_rowsWithout 139 = .ok (.goto (-56), 3) := by decide +kernel
theorem dX12_rowsWithout_142 : decode cX12_rowsWithout 142 = .ok (.iinc 6 1, 3) := by decide +kernel
theorem dX12_rowsWithout_145 : decode cX12_rowsWithout 145 = .ok (.goto (-73), 3) := by decide +kernel
theorem dX12_rowsWithout_148 : decode cX12_rowsWithout 148 = .ok (.iconst 0, 1) := by decide +kernel
theorem dX12_rowsWithout_149 : decode cX12_rowsWithout 149 = .ok (.istore 6, 2) := by decide +kernel
theorem dX12_rowsWithout_151 : decode cX12_rowsWithout 151 = .ok (.iload 6, 2) := by decide +kernel
theorem dX12_rowsWithout_153 : decode cX12_rowsWithout 153 = .ok (.sipush 512, 3) := by decide +kernel
theorem dX12_rowsWithout_156 : decode cX12_rowsWithout 156 = .ok (.if_icmp .ge 23, 3) := by decide +kernel
theorem dX12_rowsWithout_159 : decode cX12_rowsWithout 159 = .ok (.aload_n 0, 1) := by decide +kernel
theorem dX12_rowsWithout_160 : decode cX12_rowsWithout 160 = .ok (.getfield 56, 3) := by decide +kernel
theorem dX12_rowsWithout_163 : decode cX12_rowsWithout 163 = .ok (.iload 6, 2) := by decide +kernel
theorem dX12_rowsWithout_165 : decode cX12_rowsWithout 165 = .ok (.aload_n 0, 1) := by decide +kernel
theorem dX12_rowsWithout_166 : decode cX12_rowsWithout 166 = .ok (.getfield 59, 3) := by decide +kernel
theorem dX12_rowsWithout_169 : decode cX12_rowsWithout 169 = .ok (.iload 6, 2) := by decide +kernel
theorem dX12_rowsWithout_171 : decode cX12_rowsWithout 171 = .ok (.iaload, 1) := by decide +kernel
theorem dX12_rowsWithout_172 : decode cX12_rowsWithout 172 = .ok (.iastore, 1) := by decide +kernel
theorem dX12_rowsWithout_173 : decode cX12_rowsWithout 173 = .ok (.iinc 6 1, 3) := by decide +kernel
theorem dX12_rowsWithout_176 : decode cX12_rowsWithout 176 = .ok (.goto (-25), 3) := by decide +kernel
theorem dX12_rowsWithout_179 : decode cX12_rowsWithout 179 = .ok (.iinc 5 1, 3) := by decide +kernel
theorem dX12_rowsWithout_182 : decode cX12_rowsWithout 182 = .ok (.goto (-144), 3) := by decide +kernel
theorem dX12_rowsWithout_185 : decode cX12_rowsWithout 185 = .ok (.aload_n 0, 1) := by decide +kernel
theorem dX12_rowsWithout_186 : decode cX12_rowsWithout 186 = .ok (.getfield 56, 3) := by decide +kernel
theorem dX12_rowsWithout_189 : decode cX12_rowsWithout 189 = .ok (.iload_n 2, 1) := by decide +kernel
theorem dX12_rowsWithout_190 : decode cX12_rowsWithout 190 = .ok (.iaload, 1) := by decide +kernel
theorem dX12_rowsWithout_191 : decode cX12_rowsWithout 191 = .ok (.ireturn, 1) := by decide +kernel
theorem dX12_handsNow_0 : decode cX12_handsNow 0 = .ok (.aload_n 0, 1) := by decide +kernel
theorem dX12_handsNow_1 : decode cX12_handsNow 1 = .ok (.iload_n 1, 1) := by decide +kernel
theorem dX12_handsNow_2 : decode cX12_handsNow 2 = .ok (.iload_n 2, 1) := by decide +kernel
theorem dX12_handsNow_3 : decode cX12_handsNow 3 = .ok (.iload_n 3, 1) := by decide +kernel
theorem dX12_handsNow_4 : decode cX12_handsNow 4 = .ok (.iconst (-1), 1) := by decide +kernel
theorem dX12_handsNow_5 : decode cX12_handsNow 5 = .ok (.invokevirtual 185, 3) := by decide +kernel
theorem dX12_handsNow_8 : decode cX12_handsNow 8 = .ok (.istore 5, 2) := by decide +kernel
theorem dX12_handsNow_10 : decode cX12_handsNow 10 = .ok (.iload 4, 2) := by decide +kernel
theorem dX12_handsNow_12 : decode cX12_handsNow 12 = .ok (.ifCond .ne 6, 3) := by decide +kernel
theorem dX12_handsNow_15 : decode cX12_handsNow 15 = .ok (.iload 5, 2) := by decide +kernel
theorem dX12_handsNow_17 : decode cX12_handsNow 17 = .ok (.ireturn, 1) := by decide +kernel
theorem dX12_handsNow_18 : decode cX12_handsNow 18 = .ok (.iconst 0, 1) := by decide +kernel
theorem dX12_handsNow_19 : decode cX12_handsNow 19 = .ok (.istore 6, 2) := by decide +kernel
theorem dX12_handsNow_21 : decode cX12_handsNow 21 = .ok (.iconst 0, 1) := by decide +kernel
theorem dX12_handsNow_22 : decode cX12_handsNow 22 = .ok (.istore 7, 2) := by decide +kernel
theorem dX12_handsNow_24 : decode cX12_handsNow 24 = .ok (.iload 7, 2) := by decide +kernel
theorem dX12_handsNow_26 : decode cX12_handsNow 26 = .ok (.aload_n 0, 1) := by decide +kernel
theorem dX12_handsNow_27 : decode cX12_handsNow 27 = .ok (.getfield 103, 3) := by decide +kernel
theorem dX12_handsNow_30 : decode cX12_handsNow 30 = .ok (.if_icmp .ge 39, 3) := by decide +kernel
theorem dX12_handsNow_33 : decode cX12_handsNow 33 = .ok (.iload 5, 2) := by decide +kernel
theorem dX12_handsNow_35 : decode cX12_handsNow 35 = .ok (.ifCond .le 34, 3) := by decide +kernel
theorem dX12_handsNow_38 : decode cX12_handsNow 38 = .ok (.iload 6, 2) := by decide +kernel
theorem dX12_handsNow_40 : decode cX12_handsNow 40 = .ok (.aload_n 0, 1) := by decide +kernel
theorem dX12_handsNow_41 : decode cX12_handsNow 41 = .ok (.iload_n 1, 1) := by decide +kernel
theorem dX12_handsNow_42 : decode cX12_handsNow 42 = .ok (.iload_n 2, 1) := by decide +kernel
theorem dX12_handsNow_43 : decode cX12_handsNow 43 = .ok (.iload_n 3, 1) := by decide +kernel
theorem dX12_handsNow_44 : decode cX12_handsNow 44 = .ok (.iload 7, 2) := by decide +kernel
theorem dX12_handsNow_46 : decode cX12_handsNow 46 = .ok (.invokevirtual 185, 3) := by decide +kernel
theorem dX12_handsNow_49 : decode cX12_handsNow 49 = .ok (.ifCond .ne 10, 3) := by decide +kernel
theorem dX12_handsNow_52 : decode cX12_handsNow 52 = .ok (.iconst 1, 1) := by decide +kernel
theorem dX12_handsNow_53 : decode cX12_handsNow 53 = .ok (.iload 7, 2) := by decide +kernel
theorem dX12_handsNow_55 : decode cX12_handsNow 55 = .ok (.ishl, 1) := by decide +kernel
theorem dX12_handsNow_56 : decode cX12_handsNow 56 = .ok (.goto 4, 3) := by decide +kernel
theorem dX12_handsNow_59 : decode cX12_handsNow 59 = .ok (.iconst 0, 1) := by decide +kernel
theorem dX12_handsNow_60 : decode cX12_handsNow 60 = .ok (.ior, 1) := by decide +kernel
theorem dX12_handsNow_61 : decode cX12_handsNow 61 = .ok (.istore 6, 2) := by decide +kernel
theorem dX12_handsNow_63 : decode cX12_handsNow 63 = .ok (.iinc 7 1, 3) := by decide +kernel
theorem dX12_handsNow_66 : decode cX12_handsNow 66 = .ok (.goto (-42), 3) := by decide +kernel
theorem dX12_handsNow_69 : decode cX12_handsNow 69 = .ok (.iload 6, 2) := by decide +kernel
theorem dX12_handsNow_71 : decode cX12_handsNow 71 = .ok (.ireturn, 1) := by decide +kernel
theorem dX12_hands_0 : decode cX12_hands 0 = .ok (.iload_n 1, 1) := by decide +kernel
theorem dX12_hands_1 : decode cX12_hands 1 = .ok (.invokestatic 138, 3) := by decide +kernel
theorem dX12_hands_4 : decode cX12_hands 4 = .ok (.ifCond .eq 30, 3) := by decide +kernel
theorem dX12_hands_7 : decode cX12_hands 7 = .ok (.iload_n 2, 1) := by decide +kernel
theorem dX12_hands_8 : decode cX12_hands 8 = .ok (.invokestatic 138, 3) := by decide +kernel
theorem dX12_hands_11 : decode cX12_hands 11 = .ok (.ifCond .eq 23, 3) := by decide +kernel
theorem dX12_hands_14 : decode cX12_hands 14 = .ok (.iload_n 3, 1) := by decide +kernel
theorem dX12_hands_15 : decode cX12_hands 15 = .ok (.iconst 0, 1) := by decide +kernel
theorem dX12_hands_16 : decode cX12_hands 16 = .ok (.bipush 6, 2) := by decide +kernel
theorem dX12_hands_18 : decode cX12_hands 18 = .ok (.invokestatic 77, 3) := by decide +kernel
theorem dX12_hands_21 : decode cX12_hands 21 = .ok (.ifCond .eq 13, 3) := by decide +kernel
theorem dX12_hands_24 : decode cX12_hands 24 = .ok (.iload 4, 2) := by decide +kernel
theorem dX12_hands_26 : decode cX12_hands 26 = .ok (.iconst 0, 1) := by decide +kernel
theorem dX12_hands_27 : decode cX12_hands 27 = .ok (.iconst 1, 1) := by decide +kernel
theorem dX12_hands_28 : decode cX12_hands 28 = .ok (.invokestatic 77, 3) := by decide +kernel
theorem dX12_hands_31 : decode cX12_hands 31 = .ok (.ifCond .ne 6, 3) := by decide +kernel
theorem dX12_hands_34 : decode cX12_hands 34 = .ok (.bipush (-102), 2) := by decide +kernel
theorem dX12_hands_36 : decode cX12_hands 36 = .ok (.ireturn, 1) := by decide +kernel
theorem dX12_hands_37 : decode cX12_hands 37 = .ok (.aload_n 0, 1) := by decide +kernel
theorem dX12_hands_38 : decode cX12_hands 38 = .ok (.getfield 103, 3) := by decide +kernel
theorem dX12_hands_41 : decode cX12_hands 41 = .ok (.ifCond .eq 12, 3) := by decide +kernel
theorem dX12_hands_44 : decode cX12_hands 44 = .ok (.aload_n 0, 1) := by decide +kernel
theorem dX12_hands_45 : decode cX12_hands 45 = .ok (.getfield 189, 3) := by decide +kernel
theorem dX12_hands_48 : decode cX12_hands 48 = .ok (.bipush 60, 2) := by decide +kernel
theorem dX12_hands_50 : decode cX12_hands 50 = .ok (.if_icmp .ne 6, 3) := by decide +kernel
theorem dX12_hands_53 : decode cX12_hands 53 = .ok (.bipush (-103), 2) := by decide +kernel
theorem dX12_hands_55 : decode cX12_hands 55 = .ok (.ireturn, 1) := by decide +kernel
theorem dX12_hands_56 : decode cX12_hands 56 = .ok (.aload_n 0, 1) := by decide +kernel
theorem dX12_hands_57 : decode cX12_hands 57 = .ok (.dup, 1) := by decide +kernel
theorem dX12_hands_58 : decode cX12_hands 58 = .ok (.getfield 189, 3) := by decide +kernel
theorem dX12_hands_61 : decode cX12_hands 61 = .ok (.iconst 1, 1) := by decide +kernel
theorem dX12_hands_62 : decode cX12_hands 62 = .ok (.iadd, 1) := by decide +kernel
theorem dX12_hands_63 : decode cX12_hands 63 = .ok (.putfield 189, 3) := by decide +kernel
theorem dX12_hands_66 : decode cX12_hands 66 = .ok (.aload_n 0, 1) := by decide +kernel
theorem dX12_hands_67 : decode cX12_hands 67 = .ok (.iload_n 1, 1) := by decide +kernel
theorem dX12_hands_68 : decode cX12_hands 68 = .ok (.iload_n 2, 1) := by decide +kernel
theorem dX12_hands_69 : decode cX12_hands 69 = .ok (.iload_n 3, 1) := by decide +kernel
theorem dX12_hands_70 : decode cX12_hands 70 = .ok (.iload 4, 2) := by decide +kernel
theorem dX12_hands_72 : decode cX12_hands 72 = .ok (.invokevirtual 192, 3) := by decide +kernel
theorem dX12_hands_75 : decode cX12_hands 75 = .ok (.ireturn, 1) := by decide +kernel
theorem dX12_draw_0 : decode cX12_draw 0 = .ok (.aload_n 0, 1) := by decide +kernel
theorem dX12_draw_1 : decode cX12_draw 1 = .ok (.ldc2_w 195, 3) := by decide +kernel
theorem dX12_draw_4 : decode cX12_draw 4 = .ok (.aload_n 0, 1) := by decide +kernel
theorem dX12_draw_5 : decode cX12_draw 5 = .ok (.getfield 197, 3) := by decide +kernel
theorem dX12_draw_8 : decode cX12_draw 8 = .ok (.lmul, 1) := by decide +kernel
theorem dX12_draw_9 : decode cX12_draw 9 = .ok (.ldc2_w 201, 3) := by decide +kernel
theorem dX12_draw_12 : decode cX12_draw 12 = .ok (.ladd, 1) := by decide +kernel
theorem dX12_draw_13 : decode cX12_draw 13 = .ok (.ldc2_w 203, 3) := by decide +kernel
theorem dX12_draw_16 : decode cX12_draw 16 = .ok (.land, 1) := by decide +kernel
theorem dX12_draw_17 : decode cX12_draw 17 = .ok (.putfield 197, 3) := by decide +kernel
theorem dX12_draw_20 : decode cX12_draw 20 = .ok (.aload_n 0, 1) := by decide +kernel
theorem dX12_draw_21 : decode cX12_draw 21 = .ok (.getfield 197, 3) := by decide +kernel
theorem dX12_draw_24 : decode cX12_draw 24 = .ok (.ldc2_w 205, 3) := by decide +kernel
theorem dX12_draw_27 : decode cX12_draw 27 = .ok (.ldiv, 1) := by decide +kernel
theorem dX12_draw_28 : decode cX12_draw 28 = .ok (.iload_n 1, 1) := by decide +kernel
theorem dX12_draw_29 : decode cX12_draw 29 = .ok (.i2l, 1) := by decide +kernel
theorem dX12_draw_30 : decode cX12_draw 30 = .ok (.lrem, 1) := by decide +kernel
theorem dX12_draw_31 : decode cX12_draw 31 = .ok (.l2i, 1) := by decide +kernel
theorem dX12_draw_32 : decode cX12_draw 32 = .ok (.ireturn, 1) := by decide +kernel
theorem dX12_traitsIn_0 : decode cX12_traitsIn 0 = .ok (.iload_n 0, 1) := by decide +kernel
theorem dX12_traitsIn_1 : decode cX12_traitsIn 1 = .ok (.iconst 0, 1) := by decide +kernel
theorem dX12_traitsIn_2 : decode cX12_traitsIn 2 = .ok (.invokestatic 121, 3) := by decide +kernel
theorem dX12_traitsIn_5 : decode cX12_traitsIn 5 = .ok (.iload_n 0, 1) := by decide +kernel
theorem dX12_traitsIn_6 : decode cX12_traitsIn 6 = .ok (.iconst 1, 1) := by decide +kernel
theorem dX12_traitsIn_7 : decode cX12_traitsIn 7 = .ok (.invokestatic 121, 3) := by decide +kernel
theorem dX12_traitsIn_10 : decode cX12_traitsIn 10 = .ok (.iadd, 1) := by decide +kernel
theorem dX12_traitsIn_11 : decode cX12_traitsIn 11 = .ok (.iload_n 0, 1) := by decide +kernel
theorem dX12_traitsIn_12 : decode cX12_traitsIn 12 = .ok (.iconst 2, 1) := by decide +kernel
theorem dX12_traitsIn_13 : decode cX12_traitsIn 13 = .ok (.invokestatic 121, 3) := by decide +kernel
theorem dX12_traitsIn_16 : decode cX12_traitsIn 16 = .ok (.iadd, 1) := by decide +kernel
theorem dX12_traitsIn_17 : decode cX12_traitsIn 17 = .ok (.ireturn, 1) := by decide +kernel
theorem dX12_yearsNow_0 : decode cX12_yearsNow 0 = .ok (.aload_n 0, 1) := by decide +kernel
theorem dX12_yearsNow_1 : decode cX12_yearsNow 1 = .ok (.iload_n 2, 1) := by decide +kernel
theorem dX12_yearsNow_2 : decode cX12_yearsNow 2 = .ok (.i2l, 1) := by decide +kernel
theorem dX12_yearsNow_3 : decode cX12_yearsNow 3 = .ok (.putfield 197, 3) := by decide +kernel
theorem dX12_yearsNow_6 : decode cX12_yearsNow 6 = .ok (.iconst 0, 1) := by decide +kernel
theorem dX12_yearsNow_7 : decode cX12_yearsNow 7 = .ok (.istore 4, 2) := by decide +kernel
theorem dX12_yearsNow_9 : decode cX12_yearsNow 9 = .ok (.iload 4, 2) := by decide +kernel
theorem dX12_yearsNow_11 : decode cX12_yearsNow 11 = .ok (.aload_n 0, 1) := by decide +kernel
theorem dX12_yearsNow_12 : decode cX12_yearsNow 12 = .ok (.getfield 115, 3) := by decide +kernel
theorem dX12_yearsNow_15 : decode cX12_yearsNow 15 = .ok (.if_icmp .ge 22, 3) := by decide +kernel
theorem dX12_yearsNow_18 : decode cX12_yearsNow 18 = .ok (.aload_n 0, 1) := by decide +kernel
theorem dX12_yearsNow_19 : decode cX12_yearsNow 19 = .ok (.getfield 62, 3) := by decide +kernel
theorem dX12_yearsNow_22 : decode cX12_yearsNow 22 = .ok (.iload 4, 2) := by decide +kernel
theorem dX12_yearsNow_24 : decode cX12_yearsNow 24 = .ok (.aload_n 0, 1) := by decide +kernel
theorem dX12_yearsNow_25 : decode cX12_yearsNow 25 = .ok (.iload 4, 2) := by decide +kernel
theorem dX12_yearsNow_27 : decode cX12_yearsNow 27 = .ok (.invokevirtual 144, 3) := by decide +kernel
theorem dX12_yearsNow_30 : decode cX12_yearsNow 30 = .ok (.iastore, 1) := by decide +kernel
theorem dX12_yearsNow_31 : decode cX12_yearsNow 31 = .ok (.iinc 4 1, 3) := by decide +kernel
theorem dX12_yearsNow_34 : decode cX12_yearsNow 34 = .ok (.goto (-25), 3) := by decide +kernel
theorem dX12_yearsNow_37 : decode cX12_yearsNow 37 = .ok (.iconst 0, 1) := by decide +kernel
theorem dX12_yearsNow_38 : decode cX12_yearsNow 38 = .ok (.istore 4, 2) := by decide +kernel
theorem dX12_yearsNow_40 : decode cX12_yearsNow 40 = .ok (.iload 4, 2) := by decide +kernel
theorem dX12_yearsNow_42 : decode cX12_yearsNow 42 = .ok (.iload_n 1, 1) := by decide +kernel
theorem dX12_yearsNow_43 : decode cX12_yearsNow 43 = .ok (.if_icmp .ge 49, 3) := by decide +kernel
theorem dX12_yearsNow_46 : decode cX12_yearsNow 46 = .ok (.aload_n 0, 1) := by decide +kernel
theorem dX12_yearsNow_47 : decode cX12_yearsNow 47 = .ok (.aload_n 0, 1) := by decide +kernel
theorem dX12_yearsNow_48 : decode cX12_yearsNow 48 = .ok (.getfield 115, 3) := by decide +kernel
theorem dX12_yearsNow_51 : decode cX12_yearsNow 51 = .ok (.invokevirtual 207, 3) := by decide +kernel
theorem dX12_yearsNow_54 : decode cX12_yearsNow 54 = .ok (.istore 5, 2) := by decide +kernel
theorem dX12_yearsNow_56 : decode cX12_yearsNow 56 = .ok (.aload_n 0, 1) := by decide +kernel
theorem dX12_yearsNow_57 : decode cX12_yearsNow 57 = .ok (.aload_n 0, 1) := by decide +kernel
theorem dX12_yearsNow_58 : decode cX12_yearsNow 58 = .ok (.getfield 103, 3) := by decide +kernel
theorem dX12_yearsNow_61 : decode cX12_yearsNow 61 = .ok (.invokevirtual 207, 3) := by decide +kernel
theorem dX12_yearsNow_64 : decode cX12_yearsNow 64 = .ok (.istore 6, 2) := by decide +kernel
theorem dX12_yearsNow_66 : decode cX12_yearsNow 66 = .ok (.aload_n 0, 1) := by decide +kernel
theorem dX12_yearsNow_67 : decode cX12_yearsNow 67 = .ok (.getfield 62, 3) := by decide +kernel
theorem dX12_yearsNow_70 : decode cX12_yearsNow 70 = .ok (.iload 5, 2) := by decide +kernel
theorem dX12_yearsNow_72 : decode cX12_yearsNow 72 = .ok (.aload_n 0, 1) := by decide +kernel
theorem dX12_yearsNow_73 : decode cX12_yearsNow 73 = .ok (.iload 6, 2) := by decide +kernel
theorem dX12_yearsNow_75 : decode cX12_yearsNow 75 = .ok (.aload_n 0, 1) := by decide +kernel
theorem dX12_yearsNow_76 : decode cX12_yearsNow 76 = .ok (.getfield 62, 3) := by decide +kernel
theorem dX12_yearsNow_79 : decode cX12_yearsNow 79 = .ok (.iload 5, 2) := by decide +kernel
theorem dX12_yearsNow_81 : decode cX12_yearsNow 81 = .ok (.iaload, 1) := by decide +kernel
theorem dX12_yearsNow_82 : decode cX12_yearsNow 82 = .ok (.invokevirtual 141, 3) := by decide +kernel
theorem dX12_yearsNow_85 : decode cX12_yearsNow 85 = .ok (.iastore, 1) := by decide +kernel
theorem dX12_yearsNow_86 : decode cX12_yearsNow 86 = .ok (.iinc 4 1, 3) := by decide +kernel
theorem dX12_yearsNow_89 : decode cX12_yearsNow 89 = .ok (.goto (-49), 3) := by decide +kernel
theorem dX12_yearsNow_92 : decode cX12_yearsNow 92 = .ok (.iconst 0, 1) := by decide +kernel
theorem dX12_yearsNow_93 : decode cX12_yearsNow 93 = .ok (.istore 4, 2) := by decide +kernel
theorem dX12_yearsNow_95 : decode cX12_yearsNow 95 = .ok (.iconst 0, 1) := by decide +kernel
theorem dX12_yearsNow_96 : decode cX12_yearsNow 96 = .ok (.istore 5, 2) := by decide +kernel
theorem dX12_yearsNow_98 : decode cX12_yearsNow 98 = .ok (.iload 5, 2) := by decide +kernel
theorem dX12_yearsNow_100 : decode cX12_yearsNow 100 = .ok (.aload_n 0, 1) := by decide +kernel
theorem dX12_yearsNow_101 : decode cX12_yearsNow 101 = .ok (.getfield 115, 3) := by decide +kernel
theorem dX12_yearsNow_104 : decode cX12_yearsNow 104 = .ok (.if_icmp .ge 24, 3) := by decide +kernel
theorem dX12_yearsNow_107 : decode cX12_yearsNow 107 = .ok (.iload 4, 2) := by decide +kernel
theorem dX12_yearsNow_109 : decode cX12_yearsNow 109 = .ok (.aload_n 0, 1) := by decide +kernel
theorem dX12_yearsNow_110 : decode cX12_yearsNow 110 = .ok (.getfield 62, 3) := by decide +kernel
theorem dX12_yearsNow_113 : decode cX12_yearsNow 113 = .ok (.iload 5, 2) := by decide +kernel
theorem dX12_yearsNow_115 : decode cX12_yearsNow 115 = .ok (.iaload, 1) := by decide +kernel
theorem dX12_yearsNow_116 : decode cX12_yearsNow 116 = .ok (.invokestatic 210, 3) := by decide +kernel
theorem dX12_yearsNow_119 : decode cX12_yearsNow 119 = .ok (.iadd, 1) := by decide +kernel
theorem dX12_yearsNow_120 : decode cX12_yearsNow 120 = .ok (.istore 4, 2) := by decide +kernel
theorem dX12_yearsNow_122 : decode cX12_yearsNow 122 = .ok (.iinc 5 1, 3) := by decide +kernel
theorem dX12_yearsNow_125 : decode cX12_yearsNow 125 = .ok (.goto (-27), 3) := by decide +kernel
theorem dX12_yearsNow_128 : decode cX12_yearsNow 128 = .ok (.iload_n 3, 1) := by decide +kernel
theorem dX12_yearsNow_129 : decode cX12_yearsNow 129 = .ok (.ifCond .ne 12, 3) := by decide +kernel
theorem dX12_yearsNow_132 : decode cX12_yearsNow 132 = .ok (.aload_n 0, 1) := by decide +kernel
theorem dX12_yearsNow_133 : decode cX12_yearsNow 133 = .ok (.getfield 62, 3) := by decide +kernel
theorem dX12_yearsNow_136 : decode cX12_yearsNow 136 = .ok (.iconst 0, 1) := by decide +kernel
theorem dX12_yearsNow_137 : decode cX12_yearsNow 137 = .ok (.iaload, 1) := by decide +kernel
theorem dX12_yearsNow_138 : decode cX12_yearsNow 138 = .ok (.goto 18, 3) := by decide +kernel
theorem dX12_yearsNow_141 : decode cX12_yearsNow 141 = .ok (.iload_n 3, 1) := by decide +kernel
theorem dX12_yearsNow_142 : decode cX12_yearsNow 142 = .ok (.iconst 1, 1) := by decide +kernel
theorem dX12_yearsNow_143 : decode cX12_yearsNow 143 = .ok (.if_icmp .ne 8, 3) := by decide +kernel
theorem dX12_yearsNow_146 : decode cX12_yearsNow 146 = .ok (.iload 4, 2) := by decide +kernel
theorem dX12_yearsNow_148 : decode cX12_yearsNow 148 = .ok (.goto 8, 3) := by decide +kernel
theorem dX12_yearsNow_151 : decode cX12_yearsNow 151 = .ok (.aload_n 0, 1) := by decide +kernel
theorem dX12_yearsNow_152 : decode cX12_yearsNow 152 = .ok (.getfield 197, 3) := by decide +kernel
theorem dX12_yearsNow_155 : decode cX12_yearsNow 155 = .ok (.l2i, 1) := by decide +kernel
theorem dX12_yearsNow_156 : decode cX12_yearsNow 156 = .ok (.ireturn, 1) := by decide +kernel
theorem dX12_years_0 : decode cX12_years 0 = .ok (.iload_n 1, 1) := by decide +kernel
theorem dX12_years_1 : decode cX12_years 1 = .ok (.iconst 1, 1) := by decide +kernel
theorem dX12_years_2 : decode cX12_years 2 = .ok (.bipush 90, 2) := by decide +kernel
theorem dX12_years_4 : decode cX12_years 4 = .ok (.invokestatic 77, 3) := by decide +kernel
theorem dX12_years_7 : decode cX12_years 7 = .ok (.ifCond .eq 16, 3) := by decide +kernel
theorem dX12_years_10 : decode cX12_years 10 = .ok (.iload_n 2, 1) := by decide +kernel
theorem dX12_years_11 : decode cX12_years 11 = .ok (.ifCond .lt 12, 3) := by decide +kernel
theorem dX12_years_14 : decode cX12_years 14 = .ok (.iload_n 3, 1) := by decide +kernel
theorem dX12_years_15 : decode cX12_years 15 = .ok (.iconst 0, 1) := by decide +kernel
theorem dX12_years_16 : decode cX12_years 16 = .ok (.iconst 2, 1) := by decide +kernel
theorem dX12_years_17 : decode cX12_years 17 = .ok (.invokestatic 77, 3) := by decide +kernel
theorem dX12_years_20 : decode cX12_years 20 = .ok (.ifCond .ne 6, 3) := by decide +kernel
theorem dX12_years_23 : decode cX12_years 23 = .ok (.bipush (-102), 2) := by decide +kernel
theorem dX12_years_25 : decode cX12_years 25 = .ok (.ireturn, 1) := by decide +kernel
theorem dX12_years_26 : decode cX12_years 26 = .ok (.aload_n 0, 1) := by decide +kernel
theorem dX12_years_27 : decode cX12_years 27 = .ok (.getfield 115, 3) := by decide +kernel
theorem dX12_years_30 : decode cX12_years 30 = .ok (.ifCond .ne 8, 3) := by decide +kernel
theorem dX12_years_33 : decode cX12_years 33 = .ok (.bipush (-103), 2) := by decide +kernel
theorem dX12_years_35 : decode cX12_years 35 = .ok (.goto 10, 3) := by decide +kernel
theorem dX12_years_38 : decode cX12_years 38 = .ok (.aload_n 0, 1) := by decide +kernel
theorem dX12_years_39 : decode cX12_years 39 = .ok (.iload_n 1, 1) := by decide +kernel
theorem dX12_years_40 : decode cX12_years 40 = .ok (.iload_n 2, 1) := by decide +kernel
theorem dX12_years_41 : decode cX12_years 41 = .ok (.iload_n 3, 1) := by decide +kernel
theorem dX12_years_42 : decode cX12_years 42 = .ok (.invokevirtual 213, 3) := by decide +kernel
theorem dX12_years_45 : decode cX12_years 45 = .ok (.ireturn, 1) := by decide +kernel
theorem dX12_image_0 : decode cX12_image 0 = .ok (.aload_n 0, 1) := by decide +kernel
theorem dX12_image_1 : decode cX12_image 1 = .ok (.getfield 103, 3) := by decide +kernel
theorem dX12_image_4 : decode cX12_image 4 = .ok (.ifCond .ne 6, 3) := by decide +kernel
theorem dX12_image_7 : decode cX12_image 7 = .ok (.bipush (-103), 2) := by decide +kernel
theorem dX12_image_9 : decode cX12_image 9 = .ok (.ireturn, 1) := by decide +kernel
theorem dX12_image_10 : decode cX12_image 10 = .ok (.aload_n 0, 1) := by decide +kernel
theorem dX12_image_11 : decode cX12_image 11 = .ok (.iconst 1, 1) := by decide +kernel
theorem dX12_image_12 : decode cX12_image 12 = .ok (.putfield 216, 3) := by decide +kernel
theorem dX12_image_15 : decode cX12_image 15 = .ok (.aload_n 0, 1) := by decide +kernel
theorem dX12_image_16 : decode cX12_image 16 = .ok (.aload_n 0, 1) := by decide +kernel
theorem dX12_image_17 : decode cX12_image 17 = .ok (.getfield 112, 3) := by decide +kernel
theorem dX12_image_20 : decode cX12_image 20 = .ok (.putfield 219, 3) := by decide +kernel
theorem dX12_image_23 : decode cX12_image 23 = .ok (.aload_n 0, 1) := by decide +kernel
theorem dX12_image_24 : decode cX12_image 24 = .ok (.aload_n 0, 1) := by decide +kernel
theorem dX12_image_25 : decode cX12_image 25 = .ok (.getfield 115, 3) := by decide +kernel
theorem dX12_image_28 : decode cX12_image 28 = .ok (.putfield 222, 3) := by decide +kernel
theorem dX12_image_31 : decode cX12_image 31 = .ok (.aload_n 0, 1) := by decide +kernel
theorem dX12_image_32 : decode cX12_image 32 = .ok (.aload_n 0, 1) := by decide +kernel
theorem dX12_image_33 : decode cX12_image 33 = .ok (.getfield 118, 3) := by decide +kernel
theorem dX12_image_36 : decode cX12_image 36 = .ok (.putfield 225, 3) := by decide +kernel
theorem dX12_image_39 : decode cX12_image 39 = .ok (.iconst 0, 1) := by decide +kernel
theorem dX12_image_40 : decode cX12_image 40 = .ok (.istore_n 1, 1) := by decide +kernel
theorem dX12_image_41 : decode cX12_image 41 = .ok (.iload_n 1, 1) := by decide +kernel
theorem dX12_image_42 : decode cX12_image 42 = .ok (.iconst 4, 1) := by decide +kernel
theorem dX12_image_43 : decode cX12_image 43 = .ok (.if_icmp .ge 57, 3) := by decide +kernel
theorem dX12_image_46 : decode cX12_image 46 = .ok (.aload_n 0, 1) := by decide +kernel
theorem dX12_image_47 : decode cX12_image 47 = .ok (.getfield 65, 3) := by decide +kernel
theorem dX12_image_50 : decode cX12_image 50 = .ok (.iload_n 1, 1) := by decide +kernel
theorem dX12_image_51 : decode cX12_image 51 = .ok (.aload_n 0, 1) := by decide +kernel
theorem dX12_image_52 : decode cX12_image 52 = .ok (.getfield 22, 3) := by decide +kernel
theorem dX12_image_55 : decode cX12_image 55 = .ok (.iload_n 1, 1) := by decide +kernel
theorem dX12_image_56 : decode cX12_image 56 = .ok (.iaload, 1) := by decide +kernel
theorem dX12_image_57 : decode cX12_image 57 = .ok (.iastore, 1) := by decide +kernel
theorem dX12_image_58 : decode cX12_image 58 = .ok (.aload_n 0, 1) := by decide +kernel
theorem dX12_image_59 : decode cX12_image 59 = .ok (.getfield 68, 3) := by decide +kernel
theorem dX12_image_62 : decode cX12_image 62 = .ok (.iload_n 1, 1) := by decide +kernel
theorem dX12_image_63 : decode cX12_image 63 = .ok (.aload_n 0, 1) := by decide +kernel
theorem dX12_image_64 : decode cX12_image 64 = .ok (.getfield 25, 3) := by decide +kernel
theorem dX12_image_67 : decode cX12_image 67 = .ok (.iload_n 1, 1) := by decide +kernel
theorem dX12_image_68 : decode cX12_image 68 = .ok (.iaload, 1) := by decide +kernel
theorem dX12_image_69 : decode cX12_image 69 = .ok (.iastore, 1) := by decide +kernel
theorem dX12_image_70 : decode cX12_image 70 = .ok (.aload_n 0, 1) := by decide +kernel
theorem dX12_image_71 : decode cX12_image 71 = .ok (.getfield 71, 3) := by decide +kernel
theorem dX12_image_74 : decode cX12_image 74 = .ok (.iload_n 1, 1) := by decide +kernel
theorem dX12_image_75 : decode cX12_image 75 = .ok (.aload_n 0, 1) := by decide +kernel
theorem dX12_image_76 : decode cX12_image 76 = .ok (.getfield 28, 3) := by decide +kernel
theorem dX12_image_79 : decode cX12_image 79 = .ok (.iload_n 1, 1) := by decide +kernel
theorem dX12_image_80 : decode cX12_image 80 = .ok (.iaload, 1) := by decide +kernel
theorem dX12_image_81 : decode cX12_image 81 = .ok (.iastore, 1) := by decide +kernel
theorem dX12_image_82 : decode cX12_image 82 = .ok (.aload_n 0, 1) := by decide +kernel
theorem dX12_image_83 : decode cX12_image 83 = .ok (.getfield 74, 3) := by decide +kernel
theorem dX12_image_86 : decode cX12_image 86 = .ok (.iload_n 1, 1) := by decide +kernel
theorem dX12_image_87 : decode cX12_image 87 = .ok (.aload_n 0, 1) := by decide +kernel
theorem dX12_image_88 : decode cX12_image 88 = .ok (.getfield 31, 3) := by decide +kernel
theorem dX12_image_91 : decode cX12_image 91 = .ok (.iload_n 1, 1) := by decide +kernel
theorem dX12_image_92 : decode cX12_image 92 = .ok (.iaload, 1) := by decide +kernel
theorem dX12_image_93 : decode cX12_image 93 = .ok (.iastore, 1) := by decide +kernel
theorem dX12_image_94 : decode cX12_image 94 = .ok (.iinc 1 1, 3) := by decide +kernel
theorem dX12_image_97 : decode cX12_image 97 = .ok (.goto (-56), 3) := by decide +kernel
theorem dX12_image_100 : decode cX12_image 100 = .ok (.aload_n 0, 1) := by decide +kernel
theorem dX12_image_101 : decode cX12_image 101 = .ok (.getfield 118, 3) := by decide +kernel
theorem dX12_image_104 : decode cX12_image 104 = .ok (.ireturn, 1) := by decide +kernel
theorem dX12_restore_0 : decode cX12_restore 0 = .ok (.aload_n 0, 1) := by decide +kernel
theorem dX12_restore_1 : decode cX12_restore 1 = .ok (.getfield 216, 3) := by decide +kernel
theorem dX12_restore_4 : decode cX12_restore 4 = .ok (.ifCond .eq 14, 3) := by decide +kernel
theorem dX12_restore_7 : decode cX12_restore 7 = .ok (.aload_n 0, 1) := by decide +kernel
theorem dX12_restore_8 : decode cX12_restore 8 = .ok (.getfield 219, 3) := by decide +kernel
theorem dX12_restore_11 : decode cX12_restore 11 = .ok (.aload_n 0, 1) := by decide +kernel
theorem dX12_restore_12 : decode cX12_restore 12 = .ok (.getfield 112, 3) := by decide +kernel
theorem dX12_restore_15 : decode cX12_restore 15 = .ok (.if_icmp .eq 6, 3) := by decide +kernel
theorem dX12_restore_18 : decode cX12_restore 18 = .ok (.bipush (-103), 2) := by decide +kernel
theorem dX12_restore_20 : decode cX12_restore 20 = .ok (.ireturn, 1) := by decide +kernel
theorem dX12_restore_21 : decode cX12_restore 21 = .ok (.aload_n 0, 1) := by decide +kernel
theorem dX12_restore_22 : decode cX12_restore 22 = .ok (.aload_n 0, 1) := by decide +kernel
theorem dX12_restore_23 : decode cX12_restore 23 = .ok (.getfield 222, 3) := by decide +kernel
theorem dX12_restore_26 : decode cX12_restore 26 = .ok (.putfield 115, 3) := by decide +kernel
theorem dX12_restore_29 : decode cX12_restore 29 = .ok (.aload_n 0, 1) := by decide +kernel
theorem dX12_restore_30 : decode cX12_restore 30 = .ok (.aload_n 0, 1) := by decide +kernel
theorem dX12_restore_31 : decode cX12_restore 31 = .ok (.getfield 225, 3) := by decide +kernel
theorem dX12_restore_34 : decode cX12_restore 34 = .ok (.putfield 118, 3) := by decide +kernel
theorem dX12_restore_37 : decode cX12_restore 37 = .ok (.iconst 0, 1) := by decide +kernel
theorem dX12_restore_38 : decode cX12_restore 38 = .ok (.istore_n 1, 1) := by decide +kernel
theorem dX12_restore_39 : decode cX12_restore 39 = .ok (.iload_n 1, 1) := by decide +kernel
theorem dX12_restore_40 : decode cX12_restore 40 = .ok (.iconst 4, 1) := by decide +kernel
theorem dX12_restore_41 : decode cX12_restore 41 = .ok (.if_icmp .ge 57, 3) := by decide +kernel
theorem dX12_restore_44 : decode cX12_restore 44 = .ok (.aload_n 0, 1) := by decide +kernel
theorem dX12_restore_45 : decode cX12_restore 45 = .ok (.getfield 22, 3) := by decide +kernel
theorem dX12_restore_48 : decode cX12_restore 48 = .ok (.iload_n 1, 1) := by decide +kernel
theorem dX12_restore_49 : decode cX12_restore 49 = .ok (.aload_n 0, 1) := by decide +kernel
theorem dX12_restore_50 : decode cX12_restore 50 = .ok (.getfield 65, 3) := by decide +kernel
theorem dX12_restore_53 : decode cX12_restore 53 = .ok (.iload_n 1, 1) := by decide +kernel
theorem dX12_restore_54 : decode cX12_restore 54 = .ok (.iaload, 1) := by decide +kernel
theorem dX12_restore_55 : decode cX12_restore 55 = .ok (.iastore, 1) := by decide +kernel
theorem dX12_restore_56 : decode cX12_restore 56 = .ok (.aload_n 0, 1) := by decide +kernel
theorem dX12_restore_57 : decode cX12_restore 57 = .ok (.getfield 25, 3) := by decide +kernel
theorem dX12_restore_60 : decode cX12_restore 60 = .ok (.iload_n 1, 1) := by decide +kernel
theorem dX12_restore_61 : decode cX12_restore 61 = .ok (.aload_n 0, 1) := by decide +kernel
theorem dX12_restore_62 : decode cX12_restore 62 = .ok (.getfield 68, 3) := by decide +kernel
theorem dX12_restore_65 : decode cX12_restore 65 = .ok (.iload_n 1, 1) := by decide +kernel
theorem dX12_restore_66 : decode cX12_restore 66 = .ok (.iaload, 1) := by decide +kernel
theorem dX12_restore_67 : decode cX12_restore 67 = .ok (.iastore, 1) := by decide +kernel
theorem dX12_restore_68 : decode cX12_restore 68 = .ok (.aload_n 0, 1) := by decide +kernel
theorem dX12_restore_69 : decode cX12_restore 69 = .ok (.getfield 28, 3) := by decide +kernel
theorem dX12_restore_72 : decode cX12_restore 72 = .ok (.iload_n 1, 1) := by decide +kernel
theorem dX12_restore_73 : decode cX12_restore 73 = .ok (.aload_n 0, 1) := by decide +kernel
theorem dX12_restore_74 : decode cX12_restore 74 = .ok (.getfield 71, 3) := by decide +kernel
theorem dX12_restore_77 : decode cX12_restore 77 = .ok (.iload_n 1, 1) := by decide +kernel
theorem dX12_restore_78 : decode cX12_restore 78 = .ok (.iaload, 1) := by decide +kernel
theorem dX12_restore_79 : decode cX12_restore 79 = .ok (.iastore, 1) := by decide +kernel
theorem dX12_restore_80 : decode cX12_restore 80 = .ok (.aload_n 0, 1) := by decide +kernel
theorem dX12_restore_81 : decode cX12_restore 81 = .ok (.getfield 31, 3) := by decide +kernel
theorem dX12_restore_84 : decode cX12_restore 84 = .ok (.iload_n 1, 1) := by decide +kernel
theorem dX12_restore_85 : decode cX12_restore 85 = .ok (.aload_n 0, 1) := by decide +kernel
theorem dX12_restore_86 : decode cX12_restore 86 = .ok (.getfield 74, 3) := by decide +kernel
theorem dX12_restore_89 : decode cX12_restore 89 = .ok (.iload_n 1, 1) := by decide +kernel
theorem dX12_restore_90 : decode cX12_restore 90 = .ok (.iaload, 1) := by decide +kernel
theorem dX12_restore_91 : decode cX12_restore 91 = .ok (.iastore, 1) := by decide +kernel
theorem dX12_restore_92 : decode cX12_restore 92 = .ok (.iinc 1 1, 3) := by decide +kernel
theorem dX12_restore_95 : decode cX12_restore 95 = .ok (.goto (-56), 3) := by decide +kernel
theorem dX12_restore_98 : decode cX12_restore 98 = .ok (.aload_n 0, 1) := by decide +kernel
theorem dX12_restore_99 : decode cX12_restore 99 = .ok (.getfield 118, 3) := by decide +kernel
theorem dX12_restore_102 : decode cX12_restore 102 = .ok (.ireturn, 1) := by decide +kernel
theorem dX12_lentMany_0 : decode cX12_lentMany 0 = .ok (.iconst 0, 1) := by decide +kernel
theorem dX12_lentMany_1 : decode cX12_lentMany 1 = .ok (.istore_n 1, 1) := by decide +kernel
theorem dX12_lentMany_2 : decode cX12_lentMany 2 = .ok (.iconst 0, 1) := by decide +kernel
theorem dX12_lentMany_3 : decode cX12_lentMany 3 = .ok (.istore_n 2, 1) := by decide +kernel
theorem dX12_lentMany_4 : decode cX12_lentMany 4 = .ok (.iload_n 2, 1) := by decide +kernel
theorem dX12_lentMany_5 : decode cX12_lentMany 5 = .ok (.aload_n 0, 1) := by decide +kernel
theorem dX12_lentMany_6 : decode cX12_lentMany 6 = .ok (.getfield 115, 3) := by decide +kernel
theorem dX12_lentMany_9 : decode cX12_lentMany 9 = .ok (.if_icmp .ge 27, 3) := by decide +kernel
theorem dX12_lentMany_12 : decode cX12_lentMany 12 = .ok (.iload_n 1, 1) := by decide +kernel
theorem dX12_lentMany_13 : decode cX12_lentMany 13 = .ok (.aload_n 0, 1) := by decide +kernel
theorem dX12_lentMany_14 : decode cX12_lentMany 14 = .ok (.getfield 25, 3) := by decide +kernel
theorem dX12_lentMany_17 : decode cX12_lentMany 17 = .ok (.iload_n 2, 1) := by decide +kernel
theorem dX12_lentMany_18 : decode cX12_lentMany 18 = .ok (.iaload, 1) := by decide +kernel
theorem dX12_lentMany_19 : decode cX12_lentMany 19 = .ok (.iconst (-1), 1) := by decide +kernel
theorem dX12_lentMany_20 : decode cX12_lentMany 20 = .ok (.if_icmp .ne 7, 3) := by decide +kernel
theorem dX12_lentMany_23 : decode cX12_lentMany 23 = .ok (.iconst 0, 1) := by decide +kernel
theorem dX12_lentMany_24 : decode cX12_lentMany 24 = .ok (.goto 4, 3) := by decide +kernel
theorem dX12_lentMany_27 : decode cX12_lentMany 27 = .ok (.iconst 1, 1) := by decide +kernel
theorem dX12_lentMany_28 : decode cX12_lentMany 28 = .ok (.iadd, 1) := by decide +kernel
theorem dX12_lentMany_29 : decode cX12_lentMany 29 = .ok (.istore_n 1, 1) := by decide +kernel
theorem dX12_lentMany_30 : decode cX12_lentMany 30 = .ok (.iinc 2 1, 3) := by decide +kernel
theorem dX12_lentMany_33 : decode cX12_lentMany 33 = .ok (.goto (-29), 3) := by decide +kernel
theorem dX12_lentMany_36 : decode cX12_lentMany 36 = .ok (.iload_n 1, 1) := by decide +kernel
theorem dX12_lentMany_37 : decode cX12_lentMany 37 = .ok (.ireturn, 1) := by decide +kernel
theorem dX12_traitsAll_0 : decode cX12_traitsAll 0 = .ok (.iconst 0, 1) := by decide +kernel
theorem dX12_traitsAll_1 : decode cX12_traitsAll 1 = .ok (.istore_n 1, 1) := by decide +kernel
theorem dX12_traitsAll_2 : decode cX12_traitsAll 2 = .ok (.iconst 0, 1) := by decide +kernel
theorem dX12_traitsAll_3 : decode cX12_traitsAll 3 = .ok (.istore_n 2, 1) := by decide +kernel
theorem dX12_traitsAll_4 : decode cX12_traitsAll 4 = .ok (.iload_n 2, 1) := by decide +kernel
theorem dX12_traitsAll_5 : decode cX12_traitsAll 5 = .ok (.aload_n 0, 1) := by decide +kernel
theorem dX12_traitsAll_6 : decode cX12_traitsAll 6 = .ok (.getfield 115, 3) := by decide +kernel
theorem dX12_traitsAll_9 : decode cX12_traitsAll 9 = .ok (.if_icmp .ge 21, 3) := by decide +kernel
theorem dX12_traitsAll_12 : decode cX12_traitsAll 12 = .ok (.iload_n 1, 1) := by decide +kernel
theorem dX12_traitsAll_13 : decode cX12_traitsAll 13 = .ok (.aload_n 0, 1) := by decide +kernel
theorem dX12_traitsAll_14 : decode cX12_traitsAll 14 = .ok (.getfield 22, 3) := by decide +kernel
theorem dX12_traitsAll_17 : decode cX12_traitsAll 17 = .ok (.iload_n 2, 1) := by decide +kernel
theorem dX12_traitsAll_18 : decode cX12_traitsAll 18 = .ok (.iaload, 1) := by decide +kernel
theorem dX12_traitsAll_19 : decode cX12_traitsAll 19 = .ok (.invokestatic 210, 3) := by decide +kernel
theorem dX12_traitsAll_22 : decode cX12_traitsAll 22 = .ok (.iadd, 1) := by decide +kernel
theorem dX12_traitsAll_23 : decode cX12_traitsAll 23 = .ok (.istore_n 1, 1) := by decide +kernel
theorem dX12_traitsAll_24 : decode cX12_traitsAll 24 = .ok (.iinc 2 1, 3) := by decide +kernel
theorem dX12_traitsAll_27 : decode cX12_traitsAll 27 = .ok (.goto (-23), 3) := by decide +kernel
theorem dX12_traitsAll_30 : decode cX12_traitsAll 30 = .ok (.iload_n 1, 1) := by decide +kernel
theorem dX12_traitsAll_31 : decode cX12_traitsAll 31 = .ok (.ireturn, 1) := by decide +kernel
theorem dX12_howMany_0 : decode cX12_howMany 0 = .ok (.iload_n 1, 1) := by decide +kernel
theorem dX12_howMany_1 : decode cX12_howMany 1 = .ok (.tableswitch 87 0 7 #[47, 52, 57, 62, 67, 72, 77, 82], 47) := by decide +kernel
theorem dX12_howMany_48 : decode cX12_howMany 48 = .ok (.aload_n 0, 1) := by decide +kernel
theorem dX12_howMany_49 : decode cX12_howMany 49 = .ok (.getfield 103, 3) := by decide +kernel
theorem dX12_howMany_52 : decode cX12_howMany 52 = .ok (.ireturn, 1) := by decide +kernel
theorem dX12_howMany_53 : decode cX12_howMany 53 = .ok (.aload_n 0, 1) := by decide +kernel
theorem dX12_howMany_54 : decode cX12_howMany 54 = .ok (.getfield 115, 3) := by decide +kernel
theorem dX12_howMany_57 : decode cX12_howMany 57 = .ok (.ireturn, 1) := by decide +kernel
theorem dX12_howMany_58 : decode cX12_howMany 58 = .ok (.aload_n 0, 1) := by decide +kernel
theorem dX12_howMany_59 : decode cX12_howMany 59 = .ok (.invokevirtual 228, 3) := by decide +kernel
theorem dX12_howMany_62 : decode cX12_howMany 62 = .ok (.ireturn, 1) := by decide +kernel
theorem dX12_howMany_63 : decode cX12_howMany 63 = .ok (.aload_n 0, 1) := by decide +kernel
theorem dX12_howMany_64 : decode cX12_howMany 64 = .ok (.getfield 118, 3) := by decide +kernel
theorem dX12_howMany_67 : decode cX12_howMany 67 = .ok (.ireturn, 1) := by decide +kernel
theorem dX12_howMany_68 : decode cX12_howMany 68 = .ok (.aload_n 0, 1) := by decide +kernel
theorem dX12_howMany_69 : decode cX12_howMany 69 = .ok (.invokevirtual 231, 3) := by decide +kernel
theorem dX12_howMany_72 : decode cX12_howMany 72 = .ok (.ireturn, 1) := by decide +kernel
theorem dX12_howMany_73 : decode cX12_howMany 73 = .ok (.aload_n 0, 1) := by decide +kernel
theorem dX12_howMany_74 : decode cX12_howMany 74 = .ok (.getfield 81, 3) := by decide +kernel
theorem dX12_howMany_77 : decode cX12_howMany 77 = .ok (.ireturn, 1) := by decide +kernel
theorem dX12_howMany_78 : decode cX12_howMany 78 = .ok (.aload_n 0, 1) := by decide +kernel
theorem dX12_howMany_79 : decode cX12_howMany 79 = .ok (.getfield 112, 3) := by decide +kernel
theorem dX12_howMany_82 : decode cX12_howMany 82 = .ok (.ireturn, 1) := by decide +kernel
theorem dX12_howMany_83 : decode cX12_howMany 83 = .ok (.aload_n 0, 1) := by decide +kernel
theorem dX12_howMany_84 : decode cX12_howMany 84 = .ok (.getfield 189, 3) := by decide +kernel
theorem dX12_howMany_87 : decode cX12_howMany 87 = .ok (.ireturn, 1) := by decide +kernel
theorem dX12_howMany_88 : decode cX12_howMany 88 = .ok (.bipush (-102), 2) := by decide +kernel
theorem dX12_howMany_90 : decode cX12_howMany 90 = .ok (.ireturn, 1) := by decide +kernel
theorem dX12_count_0 : decode cX12_count 0 = .ok (.aload_n 0, 1) := by decide +kernel
theorem dX12_count_1 : decode cX12_count 1 = .ok (.iload_n 1, 1) := by decide +kernel
theorem dX12_count_2 : decode cX12_count 2 = .ok (.invokevirtual 234, 3) := by decide +kernel
theorem dX12_count_5 : decode cX12_count 5 = .ok (.ireturn, 1) := by decide +kernel
theorem dX12_mix_0 : decode cX12_mix 0 = .ok (.aload_n 0, 1) := by decide +kernel
theorem dX12_mix_1 : decode cX12_mix 1 = .ok (.ldc2_w 237, 3) := by decide +kernel
theorem dX12_mix_4 : decode cX12_mix 4 = .ok (.aload_n 0, 1) := by decide +kernel
theorem dX12_mix_5 : decode cX12_mix 5 = .ok (.getfield 239, 3) := by decide +kernel
theorem dX12_mix_8 : decode cX12_mix 8 = .ok (.lmul, 1) := by decide +kernel
theorem dX12_mix_9 : decode cX12_mix 9 = .ok (.lload_n 1, 1) := by decide +kernel
theorem dX12_mix_10 : decode cX12_mix 10 = .ok (.ladd, 1) := by decide +kernel
theorem dX12_mix_11 : decode cX12_mix 11 = .ok (.putfield 239, 3) := by decide +kernel
theorem dX12_mix_14 : decode cX12_mix 14 = .ok (.return_, 1) := by decide +kernel
theorem dX12_mixThing_0 : decode cX12_mixThing 0 = .ok (.iconst 0, 1) := by decide +kernel
theorem dX12_mixThing_1 : decode cX12_mixThing 1 = .ok (.istore_n 2, 1) := by decide +kernel
theorem dX12_mixThing_2 : decode cX12_mixThing 2 = .ok (.iload_n 2, 1) := by decide +kernel
theorem dX12_mixThing_3 : decode cX12_mixThing 3 = .ok (.bipush 7, 2) := by decide +kernel
theorem dX12_mixThing_5 : decode cX12_mixThing 5 = .ok (.if_icmp .ge 20, 3) := by decide +kernel
theorem dX12_mixThing_8 : decode cX12_mixThing 8 = .ok (.aload_n 0, 1) := by decide +kernel
theorem dX12_mixThing_9 : decode cX12_mixThing 9 = .ok (.aload_n 0, 1) := by decide +kernel
theorem dX12_mixThing_10 : decode cX12_mixThing 10 = .ok (.iload_n 1, 1) := by decide +kernel
theorem dX12_mixThing_11 : decode cX12_mixThing 11 = .ok (.iload_n 2, 1) := by decide +kernel
theorem dX12_mixThing_12 : decode cX12_mixThing 12 = .ok (.invokevirtual 150, 3) := by decide +kernel
theorem dX12_mixThing_15 : decode cX12_mixThing 15 = .ok (.i2l, 1) := by decide +kernel
theorem dX12_mixThing_16 : decode cX12_mixThing 16 = .ok (.invokevirtual 242, 3) := by decide +kernel
theorem dX12_mixThing_19 : decode cX12_mixThing 19 = .ok (.iinc 2 1, 3) := by decide +kernel
theorem dX12_mixThing_22 : decode cX12_mixThing 22 = .ok (.goto (-20), 3) := by decide +kernel
theorem dX12_mixThing_25 : decode cX12_mixThing 25 = .ok (.aload_n 0, 1) := by decide +kernel
theorem dX12_mixThing_26 : decode cX12_mixThing 26 = .ok (.aload_n 0, 1) := by decide +kernel
theorem dX12_mixThing_27 : decode cX12_mixThing 27 = .ok (.iload_n 1, 1) := by decide +kernel
theorem dX12_mixThing_28 : decode cX12_mixThing 28 = .ok (.invokevirtual 165, 3) := by decide +kernel
theorem dX12_mixThing_31 : decode cX12_mixThing 31 = .ok (.i2l, 1) := by decide +kernel
theorem dX12_mixThing_32 : decode cX12_mixThing 32 = .ok (.invokevirtual 242, 3) := by decide +kernel
theorem dX12_mixThing_35 : decode cX12_mixThing 35 = .ok (.iconst 0, 1) := by decide +kernel
theorem dX12_mixThing_36 : decode cX12_mixThing 36 = .ok (.istore_n 2, 1) := by decide +kernel
theorem dX12_mixThing_37 : decode cX12_mixThing 37 = .ok (.iload_n 2, 1) := by decide +kernel
theorem dX12_mixThing_38 : decode cX12_mixThing 38 = .ok (.iconst 4, 1) := by decide +kernel
theorem dX12_mixThing_39 : decode cX12_mixThing 39 = .ok (.if_icmp .ge 21, 3) := by decide +kernel
theorem dX12_mixThing_42 : decode cX12_mixThing 42 = .ok (.aload_n 0, 1) := by decide +kernel
theorem dX12_mixThing_43 : decode cX12_mixThing 43 = .ok (.aload_n 0, 1) := by decide +kernel
theorem dX12_mixThing_44 : decode cX12_mixThing 44 = .ok (.iload_n 1, 1) := by decide +kernel
theorem dX12_mixThing_45 : decode cX12_mixThing 45 = .ok (.iconst 0, 1) := by decide +kernel
theorem dX12_mixThing_46 : decode cX12_mixThing 46 = .ok (.iload_n 2, 1) := by decide +kernel
theorem dX12_mixThing_47 : decode cX12_mixThing 47 = .ok (.invokevirtual 162, 3) := by decide +kernel
theorem dX12_mixThing_50 : decode cX12_mixThing 50 = .ok (.i2l, 1) := by decide +kernel
theorem dX12_mixThing_51 : decode cX12_mixThing 51 = .ok (.invokevirtual 242, 3) := by decide +kernel
theorem dX12_mixThing_54 : decode cX12_mixThing 54 = .ok (.iinc 2 1, 3) := by decide +kernel
theorem dX12_mixThing_57 : decode cX12_mixThing 57 = .ok (.goto (-20), 3) := by decide +kernel
theorem dX12_mixThing_60 : decode cX12_mixThing 60 = .ok (.return_, 1) := by decide +kernel
theorem dX12_digest_0 : decode cX12_digest 0 = .ok (.aload_n 0, 1) := by decide +kernel
theorem dX12_digest_1 : decode cX12_digest 1 = .ok (.ldc2_w 246, 3) := by decide +kernel
theorem dX12_digest_4 : decode cX12_digest 4 = .ok (.putfield 239, 3) := by decide +kernel
theorem dX12_digest_7 : decode cX12_digest 7 = .ok (.iconst 0, 1) := by decide +kernel
theorem dX12_digest_8 : decode cX12_digest 8 = .ok (.istore_n 1, 1) := by decide +kernel
theorem dX12_digest_9 : decode cX12_digest 9 = .ok (.iload_n 1, 1) := by decide +kernel
theorem dX12_digest_10 : decode cX12_digest 10 = .ok (.aload_n 0, 1) := by decide +kernel
theorem dX12_digest_11 : decode cX12_digest 11 = .ok (.getfield 103, 3) := by decide +kernel
theorem dX12_digest_14 : decode cX12_digest 14 = .ok (.if_icmp .ge 34, 3) := by decide +kernel
theorem dX12_digest_17 : decode cX12_digest 17 = .ok (.iconst 0, 1) := by decide +kernel
theorem dX12_digest_18 : decode cX12_digest 18 = .ok (.istore_n 2, 1) := by decide +kernel
theorem dX12_digest_19 : decode cX12_digest 19 = .ok (.iload_n 2, 1) := by decide +kernel
theorem dX12_digest_20 : decode cX12_digest 20 = .ok (.bipush 6, 2) := by decide +kernel
theorem dX12_digest_22 : decode cX12_digest 22 = .ok (.if_icmp .ge 20, 3) := by decide +kernel
theorem dX12_digest_25 : decode cX12_digest 25 = .ok (.aload_n 0, 1) := by decide +kernel
theorem dX12_digest_26 : decode cX12_digest 26 = .ok (.aload_n 0, 1) := by decide +kernel
theorem dX12_digest_27 : decode cX12_digest 27 = .ok (.iload_n 1, 1) := by decide +kernel
theorem dX12_digest_28 : decode cX12_digest 28 = .ok (.iload_n 2, 1) := by decide +kernel
theorem dX12_digest_29 : decode cX12_digest 29 = .ok (.invokevirtual 135, 3) := by decide +kernel
theorem dX12_digest_32 : decode cX12_digest 32 = .ok (.i2l, 1) := by decide +kernel
theorem dX12_digest_33 : decode cX12_digest 33 = .ok (.invokevirtual 242, 3) := by decide +kernel
theorem dX12_digest_36 : decode cX12_digest 36 = .ok (.iinc 2 1, 3) := by decide +kernel
theorem dX12_digest_39 : decode cX12_digest 39 = .ok (.goto (-20), 3) := by decide +kernel
theorem dX12_digest_42 : decode cX12_digest 42 = .ok (.iinc 1 1, 3) := by decide +kernel
theorem dX12_digest_45 : decode cX12_digest 45 = .ok (.goto (-36), 3) := by decide +kernel
theorem dX12_digest_48 : decode cX12_digest 48 = .ok (.iconst 0, 1) := by decide +kernel
theorem dX12_digest_49 : decode cX12_digest 49 = .ok (.istore_n 1, 1) := by decide +kernel
theorem dX12_digest_50 : decode cX12_digest 50 = .ok (.iload_n 1, 1) := by decide +kernel
theorem dX12_digest_51 : decode cX12_digest 51 = .ok (.aload_n 0, 1) := by decide +kernel
theorem dX12_digest_52 : decode cX12_digest 52 = .ok (.getfield 115, 3) := by decide +kernel
theorem dX12_digest_55 : decode cX12_digest 55 = .ok (.if_icmp .ge 14, 3) := by decide +kernel
theorem dX12_digest_58 : decode cX12_digest 58 = .ok (.aload_n 0, 1) := by decide +kernel
theorem dX12_digest_59 : decode cX12_digest 59 = .ok (.iload_n 1, 1) := by decide +kernel
theorem dX12_digest_60 : decode cX12_digest 60 = .ok (.invokevirtual 248, 3) := by decide +kernel
theorem dX12_digest_63 : decode cX12_digest 63 = .ok (.iinc 1 1, 3) := by decide +kernel
theorem dX12_digest_66 : decode cX12_digest 66 = .ok (.goto (-16), 3) := by decide +kernel
theorem dX12_digest_69 : decode cX12_digest 69 = .ok (.iconst 0, 1) := by decide +kernel
theorem dX12_digest_70 : decode cX12_digest 70 = .ok (.istore_n 1, 1) := by decide +kernel
theorem dX12_digest_71 : decode cX12_digest 71 = .ok (.iload_n 1, 1) := by decide +kernel
theorem dX12_digest_72 : decode cX12_digest 72 = .ok (.aload_n 0, 1) := by decide +kernel
theorem dX12_digest_73 : decode cX12_digest 73 = .ok (.getfield 81, 3) := by decide +kernel
theorem dX12_digest_76 : decode cX12_digest 76 = .ok (.if_icmp .ge 20, 3) := by decide +kernel
theorem dX12_digest_79 : decode cX12_digest 79 = .ok (.aload_n 0, 1) := by decide +kernel
theorem dX12_digest_80 : decode cX12_digest 80 = .ok (.aload_n 0, 1) := by decide +kernel
theorem dX12_digest_81 : decode cX12_digest 81 = .ok (.getfield 34, 3) := by decide +kernel
theorem dX12_digest_84 : decode cX12_digest 84 = .ok (.iload_n 1, 1) := by decide +kernel
theorem dX12_digest_85 : decode cX12_digest 85 = .ok (.baload, 1) := by decide +kernel
theorem dX12_digest_86 : decode cX12_digest 86 = .ok (.i2l, 1) := by decide +kernel
theorem dX12_digest_87 : decode cX12_digest 87 = .ok (.invokevirtual 242, 3) := by decide +kernel
theorem dX12_digest_90 : decode cX12_digest 90 = .ok (.iinc 1 1, 3) := by decide +kernel
theorem dX12_digest_93 : decode cX12_digest 93 = .ok (.goto (-22), 3) := by decide +kernel
theorem dX12_digest_96 : decode cX12_digest 96 = .ok (.iconst 0, 1) := by decide +kernel
theorem dX12_digest_97 : decode cX12_digest 97 = .ok (.istore_n 1, 1) := by decide +kernel
theorem dX12_digest_98 : decode cX12_digest 98 = .ok (.iload_n 1, 1) := by decide +kernel
theorem dX12_digest_99 : decode cX12_digest 99 = .ok (.bipush 8, 2) := by decide +kernel
theorem dX12_digest_101 : decode cX12_digest 101 = .ok (.if_icmp .ge 19, 3) := by decide +kernel
theorem dX12_digest_104 : decode cX12_digest 104 = .ok (.aload_n 0, 1) := by decide +kernel
theorem dX12_digest_105 : decode cX12_digest 105 = .ok (.aload_n 0, 1) := by decide +kernel
theorem dX12_digest_106 : decode cX12_digest 106 = .ok (.iload_n 1, 1) := by decide +kernel
theorem dX12_digest_107 : decode cX12_digest 107 = .ok (.invokevirtual 234, 3) := by decide +kernel
theorem dX12_digest_110 : decode cX12_digest 110 = .ok (.i2l, 1) := by decide +kernel
theorem dX12_digest_111 : decode cX12_digest 111 = .ok (.invokevirtual 242, 3) := by decide +kernel
theorem dX12_digest_114 : decode cX12_digest 114 = .ok (.iinc 1 1, 3) := by decide +kernel
theorem dX12_digest_117 : decode cX12_digest 117 = .ok (.goto (-19), 3) := by decide +kernel
theorem dX12_digest_120 : decode cX12_digest 120 = .ok (.aload_n 0, 1) := by decide +kernel
theorem dX12_digest_121 : decode cX12_digest 121 = .ok (.getfield 239, 3) := by decide +kernel
theorem dX12_digest_124 : decode cX12_digest 124 = .ok (.lreturn, 1) := by decide +kernel
theorem dJ6_bitCount_0f7a4_0 : decode cJ6_bitCount_0f7a4 0 = .ok (.iload_n 0, 1) := by decide +kernel
theorem dJ6_bitCount_0f7a4_1 : decode cJ6_bitCount_0f7a4 1 = .ok (.iload_n 0, 1) := by decide +kernel
theorem dJ6_bitCount_0f7a4_2 : decode cJ6_bitCount_0f7a4 2 = .ok (.iconst 1, 1) := by decide +kernel
theorem dJ6_bitCount_0f7a4_3 : decode cJ6_bitCount_0f7a4 3 = .ok (.iushr, 1) := by decide +kernel
theorem dJ6_bitCount_0f7a4_4 : decode cJ6_bitCount_0f7a4 4 = .ok (.ldc_w 265, 3) := by decide +kernel
theorem dJ6_bitCount_0f7a4_7 : decode cJ6_bitCount_0f7a4 7 = .ok (.iand, 1) := by decide +kernel
theorem dJ6_bitCount_0f7a4_8 : decode cJ6_bitCount_0f7a4 8 = .ok (.isub, 1) := by decide +kernel
theorem dJ6_bitCount_0f7a4_9 : decode cJ6_bitCount_0f7a4 9 = .ok (.istore_n 0, 1) := by decide +kernel
theorem dJ6_bitCount_0f7a4_10 : decode cJ6_bitCount_0f7a4 10 = .ok (.iload_n 0, 1) := by decide +kernel
theorem dJ6_bitCount_0f7a4_11 : decode cJ6_bitCount_0f7a4 11 = .ok (.ldc_w 266, 3) := by decide +kernel
theorem dJ6_bitCount_0f7a4_14 : decode cJ6_bitCount_0f7a4 14 = .ok (.iand, 1) := by decide +kernel
theorem dJ6_bitCount_0f7a4_15 : decode cJ6_bitCount_0f7a4 15 = .ok (.iload_n 0, 1) := by decide +kernel
theorem dJ6_bitCount_0f7a4_16 : decode cJ6_bitCount_0f7a4 16 = .ok (.iconst 2, 1) := by decide +kernel
theorem dJ6_bitCount_0f7a4_17 : decode cJ6_bitCount_0f7a4 17 = .ok (.iushr, 1) := by decide +kernel
theorem dJ6_bitCount_0f7a4_18 : decode cJ6_bitCount_0f7a4 18 = .ok (.ldc_w 266, 3) := by decide +kernel
theorem dJ6_bitCount_0f7a4_21 : decode cJ6_bitCount_0f7a4 21 = .ok (.iand, 1) := by decide +kernel
theorem dJ6_bitCount_0f7a4_22 : decode cJ6_bitCount_0f7a4 22 = .ok (.iadd, 1) := by decide +kernel
theorem dJ6_bitCount_0f7a4_23 : decode cJ6_bitCount_0f7a4 23 = .ok (.istore_n 0, 1) := by decide +kernel
theorem dJ6_bitCount_0f7a4_24 : decode cJ6_bitCount_0f7a4 24 = .ok (.iload_n 0, 1) := by decide +kernel
theorem dJ6_bitCount_0f7a4_25 : decode cJ6_bitCount_0f7a4 25 = .ok (.iload_n 0, 1) := by decide +kernel
theorem dJ6_bitCount_0f7a4_26 : decode cJ6_bitCount_0f7a4 26 = .ok (.iconst 4, 1) := by decide +kernel
theorem dJ6_bitCount_0f7a4_27 : decode cJ6_bitCount_0f7a4 27 = .ok (.iushr, 1) := by decide +kernel
theorem dJ6_bitCount_0f7a4_28 : decode cJ6_bitCount_0f7a4 28 = .ok (.iadd, 1) := by decide +kernel
theorem dJ6_bitCount_0f7a4_29 : decode cJ6_bitCount_0f7a4 29 = .ok (.ldc_w 267, 3) := by decide +kernel
theorem dJ6_bitCount_0f7a4_32 : decode cJ6_bitCount_0f7a4 32 = .ok (.iand, 1) := by decide +kernel
theorem dJ6_bitCount_0f7a4_33 : decode cJ6_bitCount_0f7a4 33 = .ok (.istore_n 0, 1) := by decide +kernel
theorem dJ6_bitCount_0f7a4_34 : decode cJ6_bitCount_0f7a4 34 = .ok (.iload_n 0, 1) := by decide +kernel
theorem dJ6_bitCount_0f7a4_35 : decode cJ6_bitCount_0f7a4 35 = .ok (.iload_n 0, 1) := by decide +kernel
theorem dJ6_bitCount_0f7a4_36 : decode cJ6_bitCount_0f7a4 36 = .ok (.bipush 8, 2) := by decide +kernel
theorem dJ6_bitCount_0f7a4_38 : decode cJ6_bitCount_0f7a4 38 = .ok (.iushr, 1) := by decide +kernel
theorem dJ6_bitCount_0f7a4_39 : decode cJ6_bitCount_0f7a4 39 = .ok (.iadd, 1) := by decide +kernel
theorem dJ6_bitCount_0f7a4_40 : decode cJ6_bitCount_0f7a4 40 = .ok (.istore_n 0, 1) := by decide +kernel
theorem dJ6_bitCount_0f7a4_41 : decode cJ6_bitCount_0f7a4 41 = .ok (.iload_n 0, 1) := by decide +kernel
theorem dJ6_bitCount_0f7a4_42 : decode cJ6_bitCount_0f7a4 42 = .ok (.iload_n 0, 1) := by decide +kernel
theorem dJ6_bitCount_0f7a4_43 : decode cJ6_bitCount_0f7a4 43 = .ok (.bipush 16, 2) := by decide +kernel
theorem dJ6_bitCount_0f7a4_45 : decode cJ6_bitCount_0f7a4 45 = .ok (.iushr, 1) := by decide +kernel
theorem dJ6_bitCount_0f7a4_46 : decode cJ6_bitCount_0f7a4 46 = .ok (.iadd, 1) := by decide +kernel
theorem dJ6_bitCount_0f7a4_47 : decode cJ6_bitCount_0f7a4 47 = .ok (.istore_n 0, 1) := by decide +kernel
theorem dJ6_bitCount_0f7a4_48 : decode cJ6_bitCount_0f7a4 48 = .ok (.iload_n 0, 1) := by decide +kernel
theorem dJ6_bitCount_0f7a4_49 : decode cJ6_bitCount_0f7a4 49 = .ok (.bipush 63, 2) := by decide +kernel
theorem dJ6_bitCount_0f7a4_51 : decode cJ6_bitCount_0f7a4 51 = .ok (.iand, 1) := by decide +kernel
theorem dJ6_bitCount_0f7a4_52 : decode cJ6_bitCount_0f7a4 52 = .ok (.ireturn, 1) := by decide +kernel
theorem dJ9_min_7cf53_0 : decode cJ9_min_7cf53 0 = .ok (.iload_n 0, 1) := by decide +kernel
theorem dJ9_min_7cf53_1 : decode cJ9_min_7cf53 1 = .ok (.iload_n 1, 1) := by decide +kernel
theorem dJ9_min_7cf53_2 : decode cJ9_min_7cf53 2 = .ok (.if_icmp .gt 7, 3) := by decide +kernel
theorem dJ9_min_7cf53_5 : decode cJ9_min_7cf53 5 = .ok (.iload_n 0, 1) := by decide +kernel
theorem dJ9_min_7cf53_6 : decode cJ9_min_7cf53 6 = .ok (.goto 4, 3) := by decide +kernel
theorem dJ9_min_7cf53_9 : decode cJ9_min_7cf53 9 = .ok (.iload_n 1, 1) := by decide +kernel
theorem dJ9_min_7cf53_10 : decode cJ9_min_7cf53 10 = .ok (.ireturn, 1) := by decide +kernel
theorem dL_law_0 : decode cL_law 0 = .ok (.new 7, 3) := by decide +kernel
theorem dL_law_3 : decode cL_law 3 = .ok (.dup, 1) := by decide +kernel
theorem dL_law_4 : decode cL_law 4 = .ok (.invokespecial 9, 3) := by decide +kernel
theorem dL_law_7 : decode cL_law 7 = .ok (.astore_n 1, 1) := by decide +kernel
theorem dL_law_8 : decode cL_law 8 = .ok (.new 10, 3) := by decide +kernel
theorem dL_law_11 : decode cL_law 11 = .ok (.dup, 1) := by decide +kernel
theorem dL_law_12 : decode cL_law 12 = .ok (.invokespecial 12, 3) := by decide +kernel
theorem dL_law_15 : decode cL_law 15 = .ok (.astore_n 2, 1) := by decide +kernel
theorem dL_law_16 : decode cL_law 16 = .ok (.iconst 0, 1) := by decide +kernel
theorem dL_law_17 : decode cL_law 17 = .ok (.istore_n 3, 1) := by decide +kernel
theorem dL_law_18 : decode cL_law 18 = .ok (.iload_n 3, 1) := by decide +kernel
theorem dL_law_19 : decode cL_law 19 = .ok (.aload_n 0, 1) := by decide +kernel
theorem dL_law_20 : decode cL_law 20 = .ok (.arraylength, 1) := by decide +kernel
theorem dL_law_21 : decode cL_law 21 = .ok (.iconst 5, 1) := by decide +kernel
theorem dL_law_22 : decode cL_law 22 = .ok (.isub, 1) := by decide +kernel
theorem dL_law_23 : decode cL_law 23 = .ok (.if_icmp .gt 689, 3) := by decide +kernel
theorem dL_law_26 : decode cL_law 26 = .ok (.aload_n 0, 1) := by decide +kernel
theorem dL_law_27 : decode cL_law 27 = .ok (.iload_n 3, 1) := by decide +kernel
theorem dL_law_28 : decode cL_law 28 = .ok (.iaload, 1) := by decide +kernel
theorem dL_law_29 : decode cL_law 29 = .ok (.bipush 31, 2) := by decide +kernel
theorem dL_law_31 : decode cL_law 31 = .ok (.iand, 1) := by decide +kernel
theorem dL_law_32 : decode cL_law 32 = .ok (.tableswitch 674 0 20 #[100, 123, 136, 159, 172, 205, 238, 261, 294, 327, 340, 373, 416, 439, 482, 515, 568, 611, 624, 637, 660], 100) := by decide +kernel
theorem dL_law_132 : decode cL_law 132 = .ok (.aload_n 1, 1) := by decide +kernel
theorem dL_law_133 : decode cL_law 133 = .ok (.aload_n 0, 1) := by decide +kernel
theorem dL_law_134 : decode cL_law 134 = .ok (.iload_n 3, 1) := by decide +kernel
theorem dL_law_135 : decode cL_law 135 = .ok (.iconst 1, 1) := by decide +kernel
theorem dL_law_136 : decode cL_law 136 = .ok (.iadd, 1) := by decide +kernel
theorem dL_law_137 : decode cL_law 137 = .ok (.iaload, 1) := by decide +kernel
theorem dL_law_138 : decode cL_law 138 = .ok (.invokevirtual 13, 3) := by decide +kernel
theorem dL_law_141 : decode cL_law 141 = .ok (.aload_n 2, 1) := by decide +kernel
theorem dL_law_142 : decode cL_law 142 = .ok (.aload_n 0, 1) := by decide +kernel
theorem dL_law_143 : decode cL_law 143 = .ok (.iload_n 3, 1) := by decide +kernel
theorem dL_law_144 : decode cL_law 144 = .ok (.iconst 1, 1) := by decide +kernel
theorem dL_law_145 : decode cL_law 145 = .ok (.iadd, 1) := by decide +kernel
theorem dL_law_146 : decode cL_law 146 = .ok (.iaload, 1) := by decide +kernel
theorem dL_law_147 : decode cL_law 147 = .ok (.invokevirtual 17, 3) := by decide +kernel
theorem dL_law_150 : decode cL_law 150 = .ok (.if_icmp .eq 556, 3) := by decide +kernel
theorem dL_law_153 : decode cL_law 153 = .ok (.iconst 0, 1) := by decide +kernel
theorem dL_law_154 : decode cL_law 154 = .ok (.ireturn, 1) := by decide +kernel
theorem dL_law_155 : decode cL_law 155 = .ok (.aload_n 1, 1) := by decide +kernel
theorem dL_law_156 : decode cL_law 156 = .ok (.invokevirtual 18, 3) := by decide +kernel
theorem dL_law_159 : decode cL_law 159 = .ok (.aload_n 2, 1) := by decide +kernel
theorem dL_law_160 : decode cL_law 160 = .ok (.invokevirtual 22, 3) := by decide +kernel
theorem dL_law_163 : decode cL_law 163 = .ok (.if_icmp .eq 543, 3) := by decide +kernel
theorem dL_law_166 : decode cL_law 166 = .ok (.iconst 0, 1) := by decide +kernel
theorem dL_law_167 : decode cL_law 167 = .ok (.ireturn, 1) := by decide +kernel
theorem dL_law_168 : decode cL_law 168 = .ok (.aload_n 1, 1) := by decide +kernel
theorem dL_law_169 : decode cL_law 169 = .ok (.aload_n 0, 1) := by decide +kernel
theorem dL_law_170 : decode cL_law 170 = .ok (.iload_n 3, 1) := by decide +kernel
theorem dL_law_171 : decode cL_law 171 = .ok (.iconst 1, 1) := by decide +kernel
theorem dL_law_172 : decode cL_law 172 = .ok (.iadd, 1) := by decide +kernel
theorem dL_law_173 : decode cL_law 173 = .ok (.iaload, 1) := by decide +kernel
theorem dL_law_174 : decode cL_law 174 = .ok (.invokevirtual 23, 3) := by decide +kernel
theorem dL_law_177 : decode cL_law 177 = .ok (.aload_n 2, 1) := by decide +kernel
theorem dL_law_178 : decode cL_law 178 = .ok (.aload_n 0, 1) := by decide +kernel
theorem dL_law_179 : decode cL_law 179 = .ok (.iload_n 3, 1) := by decide +kernel
theorem dL_law_180 : decode cL_law 180 = .ok (.iconst 1, 1) := by decide +kernel
theorem dL_law_181 : decode cL_law 181 = .ok (.iadd, 1) := by decide +kernel
theorem dL_law_182 : decode cL_law 182 = .ok (.iaload, 1) := by decide +kernel
theorem dL_law_183 : decode cL_law 183 = .ok (.invokevirtual 26, 3) := by decide +kernel
theorem dL_law_186 : decode cL_law 186 = .ok (.if_icmp .eq 520, 3) := by decide +kernel
theorem dL_law_189 : decode cL_law 189 = .ok (.iconst 0, 1) := by decide +kernel
theorem dL_law_190 : decode cL_law 190 = .ok (.ireturn, 1) := by decide +kernel
theorem dL_law_191 : decode cL_law 191 = .ok (.aload_n 1, 1) := by decide +kernel
theorem dL_law_192 : decode cL_law 192 = .ok (.invokevirtual 27, 3) := by decide +kernel
theorem dL_law_195 : decode cL_law 195 = .ok (.aload_n 2, 1) := by decide +kernel
theorem dL_law_196 : decode cL_law 196 = .ok (.invokevirtual 30, 3) := by decide +kernel
theorem dL_law_199 : decode cL_law 199 = .ok (.if_icmp .eq 507, 3) := by decide +kernel
theorem dL_law_202 : decode cL_law 202 = .ok (.iconst 0, 1) := by decide +kernel
theorem dL_law_203 : decode cL_law 203 = .ok (.ireturn, 1) := by decide +kernel
theorem dL_law_204 : decode cL_law 204 = .ok (.aload_n 1, 1) := by decide +kernel
theorem dL_law_205 : decode cL_law 205 = .ok (.aload_n 0, 1) := by decide +kernel
theorem dL_law_206 : decode cL_law 206 = .ok (.iload_n 3, 1) := by decide +kernel
theorem dL_law_207 : decode cL_law 207 = .ok (.iconst 1, 1) := by decide +kernel
theorem dL_law_208 : decode cL_law 208 = .ok (.iadd, 1) := by decide +kernel
theorem dL_law_209 : decode cL_law 209 = .ok (.iaload, 1) := by decide +kernel
theorem dL_law_210 : decode cL_law 210 = .ok (.aload_n 0, 1) := by decide +kernel
theorem dL_law_211 : decode cL_law 211 = .ok (.iload_n 3, 1) := by decide +kernel
theorem dL_law_212 : decode cL_law 212 = .ok (.iconst 2, 1) := by decide +kernel
theorem dL_law_213 : decode cL_law 213 = .ok (.iadd, 1) := by decide +kernel
theorem dL_law_214 : decode cL_law 214 = .ok (.iaload, 1) := by decide +kernel
theorem dL_law_215 : decode cL_law 215 = .ok (.invokevirtual 31, 3) := by decide +kernel
theorem dL_law_218 : decode cL_law 218 = .ok (.aload_n 2, 1) := by decide +kernel
theorem dL_law_219 : decode cL_law 219 = .ok (.aload_n 0, 1) := by decide +kernel
theorem dL_law_220 : decode cL_law 220 = .ok (.iload_n 3, 1) := by decide +kernel
theorem dL_law_221 : decode cL_law 221 = .ok (.iconst 1, 1) := by decide +kernel
theorem dL_law_222 : decode cL_law 222 = .ok (.iadd, 1) := by decide +kernel
theorem dL_law_223 : decode cL_law 223 = .ok (.iaload, 1) := by decide +kernel
theorem dL_law_224 : decode cL_law 224 = .ok (.aload_n 0, 1) := by decide +kernel
theorem dL_law_225 : decode cL_law 225 = .ok (.iload_n 3, 1) := by decide +kernel
theorem dL_law_226 : decode cL_law 226 = .ok (.iconst 2, 1) := by decide +kernel
theorem dL_law_227 : decode cL_law 227 = .ok (.iadd, 1) := by decide +kernel
theorem dL_law_228 : decode cL_law 228 = .ok (.iaload, 1) := by decide +kernel
theorem dL_law_229 : decode cL_law 229 = .ok (.invokevirtual 35, 3) := by decide +kernel
theorem dL_law_232 : decode cL_law 232 = .ok (.if_icmp .eq 474, 3) := by decide +kernel
theorem dL_law_235 : decode cL_law 235 = .ok (.iconst 0, 1) := by decide +kernel
theorem dL_law_236 : decode cL_law 236 = .ok (.ireturn, 1) := by decide +kernel
theorem dL_law_237 : decode cL_law 237 = .ok (.aload_n 1, 1) := by decide +kernel
theorem dL_law_238 : decode cL_law 238 = .ok (.aload_n 0, 1) := by decide +kernel
theorem dL_law_239 : decode cL_law 239 = .ok (.iload_n 3, 1) := by decide +kernel
theorem dL_law_240 : decode cL_law 240 = .ok (.iconst 1, 1) := by decide +kernel
theorem dL_law_241 : decode cL_law 241 = .ok (.iadd, 1) := by decide +kernel
theorem dL_law_242 : decode cL_law 242 = .ok (.iaload, 1) := by decide +kernel
theorem dL_law_243 : decode cL_law 243 = .ok (.aload_n 0, 1) := by decide +kernel
theorem dL_law_244 : decode cL_law 244 = .ok (.iload_n 3, 1) := by decide +kernel
theorem dL_law_245 : decode cL_law 245 = .ok (.iconst 2, 1) := by decide +kernel
theorem dL_law_246 : decode cL_law 246 = .ok (.iadd, 1) := by decide +kernel
theorem dL_law_247 : decode cL_law 247 = .ok (.iaload, 1) := by decide +kernel
theorem dL_law_248 : decode cL_law 248 = .ok (.invokevirtual 36, 3) := by decide +kernel
theorem dL_law_251 : decode cL_law 251 = .ok (.aload_n 2, 1) := by decide +kernel
theorem dL_law_252 : decode cL_law 252 = .ok (.aload_n 0, 1) := by decide +kernel
theorem dL_law_253 : decode cL_law 253 = .ok (.iload_n 3, 1) := by decide +kernel
theorem dL_law_254 : decode cL_law 254 = .ok (.iconst 1, 1) := by decide +kernel
theorem dL_law_255 : decode cL_law 255 = .ok (.iadd, 1) := by decide +kernel
theorem dL_law_256 : decode cL_law 256 = .ok (.iaload, 1) := by decide +kernel
theorem dL_law_257 : decode cL_law 257 = .ok (.aload_n 0, 1) := by decide +kernel
theorem dL_law_258 : decode cL_law 258 = .ok (.iload_n 3, 1) := by decide +kernel
theorem dL_law_259 : decode cL_law 259 = .ok (.iconst 2, 1) := by decide +kernel
theorem dL_law_260 : decode cL_law 260 = .ok (.iadd, 1) := by decide +kernel
theorem dL_law_261 : decode cL_law 261 = .ok (.iaload, 1) := by decide +kernel
theorem dL_law_262 : decode cL_law 262 = .ok (.invokevirtual 39, 3) := by decide +kernel
theorem dL_law_265 : decode cL_law 265 = .ok (.if_icmp .eq 441, 3) := by decide +kernel
theorem dL_law_268 : decode cL_law 268 = .ok (.iconst 0, 1) := by decide +kernel
theorem dL_law_269 : decode cL_law 269 = .ok (.ireturn, 1) := by decide +kernel
theorem dL_law_270 : decode cL_law 270 = .ok (.aload_n 1, 1) := by decide +kernel
theorem dL_law_271 : decode cL_law 271 = .ok (.aload_n 0, 1) := by decide +kernel
theorem dL_law_272 : decode cL_law 272 = .ok (.iload_n 3, 1) := by decide +kernel
theorem dL_law_273 : decode cL_law 273 = .ok (.iconst 1, 1) := by decide +kernel
theorem dL_law_274 : decode cL_law 274 = .ok (.iadd, 1) := by decide +kernel
theorem dL_law_275 : decode cL_law 275 = .ok (.iaload, 1) := by decide +kernel
theorem dL_law_276 : decode cL_law 276 = .ok (.invokevirtual 40, 3) := by decide +kernel
theorem dL_law_279 : decode cL_law 279 = .ok (.aload_n 2, 1) := by decide +kernel
theorem dL_law_280 : decode cL_law 280 = .ok (.aload_n 0, 1) := by decide +kernel
theorem dL_law_281 : decode cL_law 281 = .ok (.iload_n 3, 1) := by decide +kernel
theorem dL_law_282 : decode cL_law 282 = .ok (.iconst 1, 1) := by decide +kernel
theorem dL_law_283 : decode cL_law 283 = .ok (.iadd, 1) := by decide +kernel
theorem dL_law_284 : decode cL_law 284 = .ok (.iaload, 1) := by decide +kernel
theorem dL_law_285 : decode cL_law 285 = .ok (.invokevirtual 43, 3) := by decide +kernel
theorem dL_law_288 : decode cL_law 288 = .ok (.if_icmp .eq 418, 3) := by decide +kernel
theorem dL_law_291 : decode cL_law 291 = .ok (.iconst 0, 1) := by decide +kernel
theorem dL_law_292 : decode cL_law 292 = .ok (.ireturn, 1) := by decide +kernel
theorem dL_law_293 : decode cL_law 293 = .ok (.aload_n 1, 1) := by decide +kernel
theorem dL_law_294 : decode cL_law 294 = .ok (.aload_n 0, 1) := by decide +kernel
theorem dL_law_295 : decode cL_law 295 = .ok (.iload_n 3, 1) := by decide +kernel
theorem dL_law_296 : decode cL_law 296 = .ok (.iconst 1, 1) := by decide +kernel
theorem dL_law_297 : decode cL_law 297 = .ok (.iadd, 1) := by decide +kernel
theorem dL_law_298 : decode cL_law 298 = .ok (.iaload, 1) := by decide +kernel
theorem dL_law_299 : decode cL_law 299 = .ok (.aload_n 0, 1) := by decide +kernel
theorem dL_law_300 : decode cL_law 300 = .ok (.iload_n 3, 1) := by decide +kernel
theorem dL_law_301 : decode cL_law 301 = .ok (.iconst 2, 1) := by decide +kernel
theorem dL_law_302 : decode cL_law 302 = .ok (.iadd, 1) := by decide +kernel
theorem dL_law_303 : decode cL_law 303 = .ok (.iaload, 1) := by decide +kernel
theorem dL_law_304 : decode cL_law 304 = .ok (.invokevirtual 44, 3) := by decide +kernel
theorem dL_law_307 : decode cL_law 307 = .ok (.aload_n 2, 1) := by decide +kernel
theorem dL_law_308 : decode cL_law 308 = .ok (.aload_n 0, 1) := by decide +kernel
theorem dL_law_309 : decode cL_law 309 = .ok (.iload_n 3, 1) := by decide +kernel
theorem dL_law_310 : decode cL_law 310 = .ok (.iconst 1, 1) := by decide +kernel
theorem dL_law_311 : decode cL_law 311 = .ok (.iadd, 1) := by decide +kernel
theorem dL_law_312 : decode cL_law 312 = .ok (.iaload, 1) := by decide +kernel
theorem dL_law_313 : decode cL_law 313 = .ok (.aload_n 0, 1) := by decide +kernel
theorem dL_law_314 : decode cL_law 314 = .ok (.iload_n 3, 1) := by decide +kernel
theorem dL_law_315 : decode cL_law 315 = .ok (.iconst 2, 1) := by decide +kernel
theorem dL_law_316 : decode cL_law 316 = .ok (.iadd, 1) := by decide +kernel
theorem dL_law_317 : decode cL_law 317 = .ok (.iaload, 1) := by decide +kernel
theorem dL_law_318 : decode cL_law 318 = .ok (.invokevirtual 47, 3) := by decide +kernel
theorem dL_law_321 : decode cL_law 321 = .ok (.if_icmp .eq 385, 3) := by decide +kernel
theorem dL_law_324 : decode cL_law 324 = .ok (.iconst 0, 1) := by decide +kernel
theorem dL_law_325 : decode cL_law 325 = .ok (.ireturn, 1) := by decide +kernel
theorem dL_law_326 : decode cL_law 326 = .ok (.aload_n 1, 1) := by decide +kernel
theorem dL_law_327 : decode cL_law 327 = .ok (.aload_n 0, 1) := by decide +kernel
theorem dL_law_328 : decode cL_law 328 = .ok (.iload_n 3, 1) := by decide +kernel
theorem dL_law_329 : decode cL_law 329 = .ok (.iconst 1, 1) := by decide +kernel
theorem dL_law_330 : decode cL_law 330 = .ok (.iadd, 1) := by decide +kernel
theorem dL_law_331 : decode cL_law 331 = .ok (.iaload, 1) := by decide +kernel
theorem dL_law_332 : decode cL_law 332 = .ok (.aload_n 0, 1) := by decide +kernel
theorem dL_law_333 : decode cL_law 333 = .ok (.iload_n 3, 1) := by decide +kernel
theorem dL_law_334 : decode cL_law 334 = .ok (.iconst 2, 1) := by decide +kernel
theorem dL_law_335 : decode cL_law 335 = .ok (.iadd, 1) := by decide +kernel
theorem dL_law_336 : decode cL_law 336 = .ok (.iaload, 1) := by decide +kernel
theorem dL_law_337 : decode cL_law 337 = .ok (.invokevirtual 48, 3) := by decide +kernel
theorem dL_law_340 : decode cL_law 340 = .ok (.aload_n 2, 1) := by decide +kernel
theorem dL_law_341 : decode cL_law 341 = .ok (.aload_n 0, 1) := by decide +kernel
theorem dL_law_342 : decode cL_law 342 = .ok (.iload_n 3, 1) := by decide +kernel
theorem dL_law_343 : decode cL_law 343 = .ok (.iconst 1, 1) := by decide +kernel
theorem dL_law_344 : decode cL_law 344 = .ok (.iadd, 1) := by decide +kernel
theorem dL_law_345 : decode cL_law 345 = .ok (.iaload, 1) := by decide +kernel
theorem dL_law_346 : decode cL_law 346 = .ok (.aload_n 0, 1) := by decide +kernel
theorem dL_law_347 : decode cL_law 347 = .ok (.iload_n 3, 1) := by decide +kernel
theorem dL_law_348 : decode cL_law 348 = .ok (.iconst 2, 1) := by decide +kernel
theorem dL_law_349 : decode cL_law 349 = .ok (.iadd, 1) := by decide +kernel
theorem dL_law_350 : decode cL_law 350 = .ok (.iaload, 1) := by decide +kernel
theorem dL_law_351 : decode cL_law 351 = .ok (.invokevirtual 51, 3) := by decide +kernel
theorem dL_law_354 : decode cL_law 354 = .ok (.if_icmp .eq 352, 3) := by decide +kernel
theorem dL_law_357 : decode cL_law 357 = .ok (.iconst 0, 1) := by decide +kernel
theorem dL_law_358 : decode cL_law 358 = .ok (.ireturn, 1) := by decide +kernel
theorem dL_law_359 : decode cL_law 359 = .ok (.aload_n 1, 1) := by decide +kernel
theorem dL_law_360 : decode cL_law 360 = .ok (.invokevirtual 52, 3) := by decide +kernel
theorem dL_law_363 : decode cL_law 363 = .ok (.aload_n 2, 1) := by decide +kernel
theorem dL_law_364 : decode cL_law 364 = .ok (.invokevirtual 55, 3) := by decide +kernel
theorem dL_law_367 : decode cL_law 367 = .ok (.if_icmp .eq 339, 3) := by decide +kernel
theorem dL_law_370 : decode cL_law 370 = .ok (.iconst 0, 1) := by decide +kernel
theorem dL_law_371 : decode cL_law 371 = .ok (.ireturn, 1) := by decide +kernel
theorem dL_law_372 : decode cL_law 372 = .ok (.aload_n 1, 1) := by decide +kernel
theorem dL_law_373 : decode cL_law 373 = .ok (.aload_n 0, 1) := by decide +kernel
theorem dL_law_374 : decode cL_law 374 = .ok (.iload_n 3, 1) := by decide +kernel
theorem dL_law_375 : decode cL_law 375 = .ok (.iconst 1, 1) := by decide +kernel
theorem dL_law_376 : decode cL_law 376 = .ok (.iadd, 1) := by decide +kernel
theorem dL_law_377 : decode cL_law 377 = .ok (.iaload, 1) := by decide +kernel
theorem dL_law_378 : decode cL_law 378 = .ok (.aload_n 0, 1) := by decide +kernel
theorem dL_law_379 : decode cL_law 379 = .ok (.iload_n 3, 1) := by decide +kernel
theorem dL_law_380 : decode cL_law 380 = .ok (.iconst 2, 1) := by decide +kernel
theorem dL_law_381 : decode cL_law 381 = .ok (.iadd, 1) := by decide +kernel
theorem dL_law_382 : decode cL_law 382 = .ok (.iaload, 1) := by decide +kernel
theorem dL_law_383 : decode cL_law 383 = .ok (.invokevirtual 56, 3) := by decide +kernel
theorem dL_law_386 : decode cL_law 386 = .ok (.aload_n 2, 1) := by decide +kernel
theorem dL_law_387 : decode cL_law 387 = .ok (.aload_n 0, 1) := by decide +kernel
theorem dL_law_388 : decode cL_law 388 = .ok (.iload_n 3, 1) := by decide +kernel
theorem dL_law_389 : decode cL_law 389 = .ok (.iconst 1, 1) := by decide +kernel
theorem dL_law_390 : decode cL_law 390 = .ok (.iadd, 1) := by decide +kernel
theorem dL_law_391 : decode cL_law 391 = .ok (.iaload, 1) := by decide +kernel
theorem dL_law_392 : decode cL_law 392 = .ok (.aload_n 0, 1) := by decide +kernel
theorem dL_law_393 : decode cL_law 393 = .ok (.iload_n 3, 1) := by decide +kernel
theorem dL_law_394 : decode cL_law 394 = .ok (.iconst 2, 1) := by decide +kernel
theorem dL_law_395 : decode cL_law 395 = .ok (.iadd, 1) := by decide +kernel
theorem dL_law_396 : decode cL_law 396 = .ok (.iaload, 1) := by decide +kernel
theorem dL_law_397 : decode cL_law 397 = .ok (.invokevirtual 59, 3) := by decide +kernel
theorem dL_law_400 : decode cL_law 400 = .ok (.if_icmp .eq 306, 3) := by decide +kernel
theorem dL_law_403 : decode cL_law 403 = .ok (.iconst 0, 1) := by decide +kernel
theorem dL_law_404 : decode cL_law 404 = .ok (.ireturn, 1) := by decide +kernel
theorem dL_law_405 : decode cL_law 405 = .ok (.aload_n 1, 1) := by decide +kernel
theorem dL_law_406 : decode cL_law 406 = .ok (.aload_n 0, 1) := by decide +kernel
theorem dL_law_407 : decode cL_law 407 = .ok (.iload_n 3, 1) := by decide +kernel
theorem dL_law_408 : decode cL_law 408 = .ok (.iconst 1, 1) := by decide +kernel
theorem dL_law_409 : decode cL_law 409 = .ok (.iadd, 1) := by decide +kernel
theorem dL_law_410 : decode cL_law 410 = .ok (.iaload, 1) := by decide +kernel
theorem dL_law_411 : decode cL_law 411 = .ok (.aload_n 0, 1) := by decide +kernel
theorem dL_law_412 : decode cL_law 412 = .ok (.iload_n 3, 1) := by decide +kernel
theorem dL_law_413 : decode cL_law 413 = .ok (.iconst 2, 1) := by decide +kernel
theorem dL_law_414 : decode cL_law 414 = .ok (.iadd, 1) := by decide +kernel
theorem dL_law_415 : decode cL_law 415 = .ok (.iaload, 1) := by decide +kernel
theorem dL_law_416 : decode cL_law 416 = .ok (.aload_n 0, 1) := by decide +kernel
theorem dL_law_417 : decode cL_law 417 = .ok (.iload_n 3, 1) := by decide +kernel
theorem dL_law_418 : decode cL_law 418 = .ok (.iconst 3, 1) := by decide +kernel
theorem dL_law_419 : decode cL_law 419 = .ok (.iadd, 1) := by decide +kernel
theorem dL_law_420 : decode cL_law 420 = .ok (.iaload, 1) := by decide +kernel
theorem dL_law_421 : decode cL_law 421 = .ok (.invokevirtual 60, 3) := by decide +kernel
theorem dL_law_424 : decode cL_law 424 = .ok (.aload_n 2, 1) := by decide +kernel
theorem dL_law_425 : decode cL_law 425 = .ok (.aload_n 0, 1) := by decide +kernel
theorem dL_law_426 : decode cL_law 426 = .ok (.iload_n 3, 1) := by decide +kernel
theorem dL_law_427 : decode cL_law 427 = .ok (.iconst 1, 1) := by decide +kernel
theorem dL_law_428 : decode cL_law 428 = .ok (.iadd, 1) := by decide +kernel
theorem dL_law_429 : decode cL_law 429 = .ok (.iaload, 1) := by decide +kernel
theorem dL_law_430 : decode cL_law 430 = .ok (.aload_n 0, 1) := by decide +kernel
theorem dL_law_431 : decode cL_law 431 = .ok (.iload_n 3, 1) := by decide +kernel
theorem dL_law_432 : decode cL_law 432 = .ok (.iconst 2, 1) := by decide +kernel
theorem dL_law_433 : decode cL_law 433 = .ok (.iadd, 1) := by decide +kernel
theorem dL_law_434 : decode cL_law 434 = .ok (.iaload, 1) := by decide +kernel
theorem dL_law_435 : decode cL_law 435 = .ok (.aload_n 0, 1) := by decide +kernel
theorem dL_law_436 : decode cL_law 436 = .ok (.iload_n 3, 1) := by decide +kernel
theorem dL_law_437 : decode cL_law 437 = .ok (.iconst 3, 1) := by decide +kernel
theorem dL_law_438 : decode cL_law 438 = .ok (.iadd, 1) := by decide +kernel
theorem dL_law_439 : decode cL_law 439 = .ok (.iaload, 1) := by decide +kernel
theorem dL_law_440 : decode cL_law 440 = .ok (.invokevirtual 64, 3) := by decide +kernel
theorem dL_law_443 : decode cL_law 443 = .ok (.if_icmp .eq 263, 3) := by decide +kernel
theorem dL_law_446 : decode cL_law 446 = .ok (.iconst 0, 1) := by decide +kernel
theorem dL_law_447 : decode cL_law 447 = .ok (.ireturn, 1) := by decide +kernel
theorem dL_law_448 : decode cL_law 448 = .ok (.aload_n 1, 1) := by decide +kernel
theorem dL_law_449 : decode cL_law 449 = .ok (.aload_n 0, 1) := by decide +kernel
theorem dL_law_450 : decode cL_law 450 = .ok (.iload_n 3, 1) := by decide +kernel
theorem dL_law_451 : decode cL_law 451 = .ok (.iconst 1, 1) := by decide +kernel
theorem dL_law_452 : decode cL_law 452 = .ok (.iadd, 1) := by decide +kernel
theorem dL_law_453 : decode cL_law 453 = .ok (.iaload, 1) := by decide +kernel
theorem dL_law_454 : decode cL_law 454 = .ok (.invokevirtual 65, 3) := by decide +kernel
theorem dL_law_457 : decode cL_law 457 = .ok (.aload_n 2, 1) := by decide +kernel
theorem dL_law_458 : decode cL_law 458 = .ok (.aload_n 0, 1) := by decide +kernel
theorem dL_law_459 : decode cL_law 459 = .ok (.iload_n 3, 1) := by decide +kernel
theorem dL_law_460 : decode cL_law 460 = .ok (.iconst 1, 1) := by decide +kernel
theorem dL_law_461 : decode cL_law 461 = .ok (.iadd, 1) := by decide +kernel
theorem dL_law_462 : decode cL_law 462 = .ok (.iaload, 1) := by decide +kernel
theorem dL_law_463 : decode cL_law 463 = .ok (.invokevirtual 68, 3) := by decide +kernel
theorem dL_law_466 : decode cL_law 466 = .ok (.if_icmp .eq 240, 3) := by decide +kernel
theorem dL_law_469 : decode cL_law 469 = .ok (.iconst 0, 1) := by decide +kernel
theorem dL_law_470 : decode cL_law 470 = .ok (.ireturn, 1) := by decide +kernel
theorem dL_law_471 : decode cL_law 471 = .ok (.aload_n 1, 1) := by decide +kernel
theorem dL_law_472 : decode cL_law 472 = .ok (.aload_n 0, 1) := by decide +kernel
theorem dL_law_473 : decode cL_law 473 = .ok (.iload_n 3, 1) := by decide +kernel
theorem dL_law_474 : decode cL_law 474 = .ok (.iconst 1, 1) := by decide +kernel
theorem dL_law_475 : decode cL_law 475 = .ok (.iadd, 1) := by decide +kernel
theorem dL_law_476 : decode cL_law 476 = .ok (.iaload, 1) := by decide +kernel
theorem dL_law_477 : decode cL_law 477 = .ok (.aload_n 0, 1) := by decide +kernel
theorem dL_law_478 : decode cL_law 478 = .ok (.iload_n 3, 1) := by decide +kernel
theorem dL_law_479 : decode cL_law 479 = .ok (.iconst 2, 1) := by decide +kernel
theorem dL_law_480 : decode cL_law 480 = .ok (.iadd, 1) := by decide +kernel
theorem dL_law_481 : decode cL_law 481 = .ok (.iaload, 1) := by decide +kernel
theorem dL_law_482 : decode cL_law 482 = .ok (.aload_n 0, 1) := by decide +kernel
theorem dL_law_483 : decode cL_law 483 = .ok (.iload_n 3, 1) := by decide +kernel
theorem dL_law_484 : decode cL_law 484 = .ok (.iconst 3, 1) := by decide +kernel
theorem dL_law_485 : decode cL_law 485 = .ok (.iadd, 1) := by decide +kernel
theorem dL_law_486 : decode cL_law 486 = .ok (.iaload, 1) := by decide +kernel
theorem dL_law_487 : decode cL_law 487 = .ok (.invokevirtual 69, 3) := by decide +kernel
theorem dL_law_490 : decode cL_law 490 = .ok (.aload_n 2, 1) := by decide +kernel
theorem dL_law_491 : decode cL_law 491 = .ok (.aload_n 0, 1) := by decide +kernel
theorem dL_law_492 : decode cL_law 492 = .ok (.iload_n 3, 1) := by decide +kernel
theorem dL_law_493 : decode cL_law 493 = .ok (.iconst 1, 1) := by decide +kernel
theorem dL_law_494 : decode cL_law 494 = .ok (.iadd, 1) := by decide +kernel
theorem dL_law_495 : decode cL_law 495 = .ok (.iaload, 1) := by decide +kernel
theorem dL_law_496 : decode cL_law 496 = .ok (.aload_n 0, 1) := by decide +kernel
theorem dL_law_497 : decode cL_law 497 = .ok (.iload_n 3, 1) := by decide +kernel
theorem dL_law_498 : decode cL_law 498 = .ok (.iconst 2, 1) := by decide +kernel
theorem dL_law_499 : decode cL_law 499 = .ok (.iadd, 1) := by decide +kernel
theorem dL_law_500 : decode cL_law 500 = .ok (.iaload, 1) := by decide +kernel
theorem dL_law_501 : decode cL_law 501 = .ok (.aload_n 0, 1) := by decide +kernel
theorem dL_law_502 : decode cL_law 502 = .ok (.iload_n 3, 1) := by decide +kernel
theorem dL_law_503 : decode cL_law 503 = .ok (.iconst 3, 1) := by decide +kernel
theorem dL_law_504 : decode cL_law 504 = .ok (.iadd, 1) := by decide +kernel
theorem dL_law_505 : decode cL_law 505 = .ok (.iaload, 1) := by decide +kernel
theorem dL_law_506 : decode cL_law 506 = .ok (.invokevirtual 72, 3) := by decide +kernel
theorem dL_law_509 : decode cL_law 509 = .ok (.if_icmp .eq 197, 3) := by decide +kernel
theorem dL_law_512 : decode cL_law 512 = .ok (.iconst 0, 1) := by decide +kernel
theorem dL_law_513 : decode cL_law 513 = .ok (.ireturn, 1) := by decide +kernel
theorem dL_law_514 : decode cL_law 514 = .ok (.aload_n 1, 1) := by decide +kernel
theorem dL_law_515 : decode cL_law 515 = .ok (.aload_n 0, 1) := by decide +kernel
theorem dL_law_516 : decode cL_law 516 = .ok (.iload_n 3, 1) := by decide +kernel
theorem dL_law_517 : decode cL_law 517 = .ok (.iconst 1, 1) := by decide +kernel
theorem dL_law_518 : decode cL_law 518 = .ok (.iadd, 1) := by decide +kernel
theorem dL_law_519 : decode cL_law 519 = .ok (.iaload, 1) := by decide +kernel
theorem dL_law_520 : decode cL_law 520 = .ok (.aload_n 0, 1) := by decide +kernel
theorem dL_law_521 : decode cL_law 521 = .ok (.iload_n 3, 1) := by decide +kernel
theorem dL_law_522 : decode cL_law 522 = .ok (.iconst 2, 1) := by decide +kernel
theorem dL_law_523 : decode cL_law 523 = .ok (.iadd, 1) := by decide +kernel
theorem dL_law_524 : decode cL_law 524 = .ok (.iaload, 1) := by decide +kernel
theorem dL_law_525 : decode cL_law 525 = .ok (.invokevirtual 73, 3) := by decide +kernel
theorem dL_law_528 : decode cL_law 528 = .ok (.aload_n 2, 1) := by decide +kernel
theorem dL_law_529 : decode cL_law 529 = .ok (.aload_n 0, 1) := by decide +kernel
theorem dL_law_530 : decode cL_law 530 = .ok (.iload_n 3, 1) := by decide +kernel
theorem dL_law_531 : decode cL_law 531 = .ok (.iconst 1, 1) := by decide +kernel
theorem dL_law_532 : decode cL_law 532 = .ok (.iadd, 1) := by decide +kernel
theorem dL_law_533 : decode cL_law 533 = .ok (.iaload, 1) := by decide +kernel
theorem dL_law_534 : decode cL_law 534 = .ok (.aload_n 0, 1) := by decide +kernel
theorem dL_law_535 : decode cL_law 535 = .ok (.iload_n 3, 1) := by decide +kernel
theorem dL_law_536 : decode cL_law 536 = .ok (.iconst 2, 1) := by decide +kernel
theorem dL_law_537 : decode cL_law 537 = .ok (.iadd, 1) := by decide +kernel
theorem dL_law_538 : decode cL_law 538 = .ok (.iaload, 1) := by decide +kernel
theorem dL_law_539 : decode cL_law 539 = .ok (.invokevirtual 76, 3) := by decide +kernel
theorem dL_law_542 : decode cL_law 542 = .ok (.if_icmp .eq 164, 3) := by decide +kernel
theorem dL_law_545 : decode cL_law 545 = .ok (.iconst 0, 1) := by decide +kernel
theorem dL_law_546 : decode cL_law 546 = .ok (.ireturn, 1) := by decide +kernel
theorem dL_law_547 : decode cL_law 547 = .ok (.aload_n 1, 1) := by decide +kernel
theorem dL_law_548 : decode cL_law 548 = .ok (.aload_n 0, 1) := by decide +kernel
theorem dL_law_549 : decode cL_law 549 = .ok (.iload_n 3, 1) := by decide +kernel
theorem dL_law_550 : decode cL_law 550 = .ok (.iconst 1, 1) := by decide +kernel
theorem dL_law_551 : decode cL_law 551 = .ok (.iadd, 1) := by decide +kernel
theorem dL_law_552 : decode cL_law 552 = .ok (.iaload, 1) := by decide +kernel
theorem dL_law_553 : decode cL_law 553 = .ok (.aload_n 0, 1) := by decide +kernel
theorem dL_law_554 : decode cL_law 554 = .ok (.iload_n 3, 1) := by decide +kernel
theorem dL_law_555 : decode cL_law 555 = .ok (.iconst 2, 1) := by decide +kernel
theorem dL_law_556 : decode cL_law 556 = .ok (.iadd, 1) := by decide +kernel
theorem dL_law_557 : decode cL_law 557 = .ok (.iaload, 1) := by decide +kernel
theorem dL_law_558 : decode cL_law 558 = .ok (.aload_n 0, 1) := by decide +kernel
theorem dL_law_559 : decode cL_law 559 = .ok (.iload_n 3, 1) := by decide +kernel
theorem dL_law_560 : decode cL_law 560 = .ok (.iconst 3, 1) := by decide +kernel
theorem dL_law_561 : decode cL_law 561 = .ok (.iadd, 1) := by decide +kernel
theorem dL_law_562 : decode cL_law 562 = .ok (.iaload, 1) := by decide +kernel
theorem dL_law_563 : decode cL_law 563 = .ok (.aload_n 0, 1) := by decide +kernel
theorem dL_law_564 : decode cL_law 564 = .ok (.iload_n 3, 1) := by decide +kernel
theorem dL_law_565 : decode cL_law 565 = .ok (.iconst 4, 1) := by decide +kernel
theorem dL_law_566 : decode cL_law 566 = .ok (.iadd, 1) := by decide +kernel
theorem dL_law_567 : decode cL_law 567 = .ok (.iaload, 1) := by decide +kernel
theorem dL_law_568 : decode cL_law 568 = .ok (.invokevirtual 77, 3) := by decide +kernel
theorem dL_law_571 : decode cL_law 571 = .ok (.aload_n 2, 1) := by decide +kernel
theorem dL_law_572 : decode cL_law 572 = .ok (.aload_n 0, 1) := by decide +kernel
theorem dL_law_573 : decode cL_law 573 = .ok (.iload_n 3, 1) := by decide +kernel
theorem dL_law_574 : decode cL_law 574 = .ok (.iconst 1, 1) := by decide +kernel
theorem dL_law_575 : decode cL_law 575 = .ok (.iadd, 1) := by decide +kernel
theorem dL_law_576 : decode cL_law 576 = .ok (.iaload, 1) := by decide +kernel
theorem dL_law_577 : decode cL_law 577 = .ok (.aload_n 0, 1) := by decide +kernel
theorem dL_law_578 : decode cL_law 578 = .ok (.iload_n 3, 1) := by decide +kernel
theorem dL_law_579 : decode cL_law 579 = .ok (.iconst 2, 1) := by decide +kernel
theorem dL_law_580 : decode cL_law 580 = .ok (.iadd, 1) := by decide +kernel
theorem dL_law_581 : decode cL_law 581 = .ok (.iaload, 1) := by decide +kernel
theorem dL_law_582 : decode cL_law 582 = .ok (.aload_n 0, 1) := by decide +kernel
theorem dL_law_583 : decode cL_law 583 = .ok (.iload_n 3, 1) := by decide +kernel
theorem dL_law_584 : decode cL_law 584 = .ok (.iconst 3, 1) := by decide +kernel
theorem dL_law_585 : decode cL_law 585 = .ok (.iadd, 1) := by decide +kernel
theorem dL_law_586 : decode cL_law 586 = .ok (.iaload, 1) := by decide +kernel
theorem dL_law_587 : decode cL_law 587 = .ok (.aload_n 0, 1) := by decide +kernel
theorem dL_law_588 : decode cL_law 588 = .ok (.iload_n 3, 1) := by decide +kernel
theorem dL_law_589 : decode cL_law 589 = .ok (.iconst 4, 1) := by decide +kernel
theorem dL_law_590 : decode cL_law 590 = .ok (.iadd, 1) := by decide +kernel
theorem dL_law_591 : decode cL_law 591 = .ok (.iaload, 1) := by decide +kernel
theorem dL_law_592 : decode cL_law 592 = .ok (.invokevirtual 81, 3) := by decide +kernel
theorem dL_law_595 : decode cL_law 595 = .ok (.if_icmp .eq 111, 3) := by decide +kernel
theorem dL_law_598 : decode cL_law 598 = .ok (.iconst 0, 1) := by decide +kernel
theorem dL_law_599 : decode cL_law 599 = .ok (.ireturn, 1) := by decide +kernel
theorem dL_law_600 : decode cL_law 600 = .ok (.aload_n 1, 1) := by decide +kernel
theorem dL_law_601 : decode cL_law 601 = .ok (.aload_n 0, 1) := by decide +kernel
theorem dL_law_602 : decode cL_law 602 = .ok (.iload_n 3, 1) := by decide +kernel
theorem dL_law_603 : decode cL_law 603 = .ok (.iconst 1, 1) := by decide +kernel
theorem dL_law_604 : decode cL_law 604 = .ok (.iadd, 1) := by decide +kernel
theorem dL_law_605 : decode cL_law 605 = .ok (.iaload, 1) := by decide +kernel
theorem dL_law_606 : decode cL_law 606 = .ok (.aload_n 0, 1) := by decide +kernel
theorem dL_law_607 : decode cL_law 607 = .ok (.iload_n 3, 1) := by decide +kernel
theorem dL_law_608 : decode cL_law 608 = .ok (.iconst 2, 1) := by decide +kernel
theorem dL_law_609 : decode cL_law 609 = .ok (.iadd, 1) := by decide +kernel
theorem dL_law_610 : decode cL_law 610 = .ok (.iaload, 1) := by decide +kernel
theorem dL_law_611 : decode cL_law 611 = .ok (.aload_n 0, 1) := by decide +kernel
theorem dL_law_612 : decode cL_law 612 = .ok (.iload_n 3, 1) := by decide +kernel
theorem dL_law_613 : decode cL_law 613 = .ok (.iconst 3, 1) := by decide +kernel
theorem dL_law_614 : decode cL_law 614 = .ok (.iadd, 1) := by decide +kernel
theorem dL_law_615 : decode cL_law 615 = .ok (.iaload, 1) := by decide +kernel
theorem dL_law_616 : decode cL_law 616 = .ok (.invokevirtual 82, 3) := by decide +kernel
theorem dL_law_619 : decode cL_law 619 = .ok (.aload_n 2, 1) := by decide +kernel
theorem dL_law_620 : decode cL_law 620 = .ok (.aload_n 0, 1) := by decide +kernel
theorem dL_law_621 : decode cL_law 621 = .ok (.iload_n 3, 1) := by decide +kernel
theorem dL_law_622 : decode cL_law 622 = .ok (.iconst 1, 1) := by decide +kernel
theorem dL_law_623 : decode cL_law 623 = .ok (.iadd, 1) := by decide +kernel
theorem dL_law_624 : decode cL_law 624 = .ok (.iaload, 1) := by decide +kernel
theorem dL_law_625 : decode cL_law 625 = .ok (.aload_n 0, 1) := by decide +kernel
theorem dL_law_626 : decode cL_law 626 = .ok (.iload_n 3, 1) := by decide +kernel
theorem dL_law_627 : decode cL_law 627 = .ok (.iconst 2, 1) := by decide +kernel
theorem dL_law_628 : decode cL_law 628 = .ok (.iadd, 1) := by decide +kernel
theorem dL_law_629 : decode cL_law 629 = .ok (.iaload, 1) := by decide +kernel
theorem dL_law_630 : decode cL_law 630 = .ok (.aload_n 0, 1) := by decide +kernel
theorem dL_law_631 : decode cL_law 631 = .ok (.iload_n 3, 1) := by decide +kernel
theorem dL_law_632 : decode cL_law 632 = .ok (.iconst 3, 1) := by decide +kernel
theorem dL_law_633 : decode cL_law 633 = .ok (.iadd, 1) := by decide +kernel
theorem dL_law_634 : decode cL_law 634 = .ok (.iaload, 1) := by decide +kernel
theorem dL_law_635 : decode cL_law 635 = .ok (.invokevirtual 85, 3) := by decide +kernel
theorem dL_law_638 : decode cL_law 638 = .ok (.if_icmp .eq 68, 3) := by decide +kernel
theorem dL_law_641 : decode cL_law 641 = .ok (.iconst 0, 1) := by decide +kernel
theorem dL_law_642 : decode cL_law 642 = .ok (.ireturn, 1) := by decide +kernel
theorem dL_law_643 : decode cL_law 643 = .ok (.aload_n 1, 1) := by decide +kernel
theorem dL_law_644 : decode cL_law 644 = .ok (.invokevirtual 86, 3) := by decide +kernel
theorem dL_law_647 : decode cL_law 647 = .ok (.aload_n 2, 1) := by decide +kernel
theorem dL_law_648 : decode cL_law 648 = .ok (.invokevirtual 89, 3) := by decide +kernel
theorem dL_law_651 : decode cL_law 651 = .ok (.if_icmp .eq 55, 3) := by decide +kernel
theorem dL_law_654 : decode cL_law 654 = .ok (.iconst 0, 1) := by decide +kernel
theorem dL_law_655 : decode cL_law 655 = .ok (.ireturn, 1) := by decide +kernel
theorem dL_law_656 : decode cL_law 656 = .ok (.aload_n 1, 1) := by decide +kernel
theorem dL_law_657 : decode cL_law 657 = .ok (.invokevirtual 90, 3) := by decide +kernel
theorem dL_law_660 : decode cL_law 660 = .ok (.aload_n 2, 1) := by decide +kernel
theorem dL_law_661 : decode cL_law 661 = .ok (.invokevirtual 93, 3) := by decide +kernel
theorem dL_law_664 : decode cL_law 664 = .ok (.if_icmp .eq 42, 3) := by decide +kernel
theorem dL_law_667 : decode cL_law 667 = .ok (.iconst 0, 1) := by decide +kernel
theorem dL_law_668 : decode cL_law 668 = .ok (.ireturn, 1) := by decide +kernel
theorem dL_law_669 : decode cL_law 669 = .ok (.aload_n 1, 1) := by decide +kernel
theorem dL_law_670 : decode cL_law 670 = .ok (.aload_n 0, 1) := by decide +kernel
theorem dL_law_671 : decode cL_law 671 = .ok (.iload_n 3, 1) := by decide +kernel
theorem dL_law_672 : decode cL_law 672 = .ok (.iconst 1, 1) := by decide +kernel
theorem dL_law_673 : decode cL_law 673 = .ok (.iadd, 1) := by decide +kernel
theorem dL_law_674 : decode cL_law 674 = .ok (.iaload, 1) := by decide +kernel
theorem dL_law_675 : decode cL_law 675 = .ok (.invokevirtual 94, 3) := by decide +kernel
theorem dL_law_678 : decode cL_law 678 = .ok (.aload_n 2, 1) := by decide +kernel
theorem dL_law_679 : decode cL_law 679 = .ok (.aload_n 0, 1) := by decide +kernel
theorem dL_law_680 : decode cL_law 680 = .ok (.iload_n 3, 1) := by decide +kernel
theorem dL_law_681 : decode cL_law 681 = .ok (.iconst 1, 1) := by decide +kernel
theorem dL_law_682 : decode cL_law 682 = .ok (.iadd, 1) := by decide +kernel
theorem dL_law_683 : decode cL_law 683 = .ok (.iaload, 1) := by decide +kernel
theorem dL_law_684 : decode cL_law 684 = .ok (.invokevirtual 97, 3) := by decide +kernel
theorem dL_law_687 : decode cL_law 687 = .ok (.if_icmp .eq 19, 3) := by decide +kernel
theorem dL_law_690 : decode cL_law 690 = .ok (.iconst 0, 1) := by decide +kernel
theorem dL_law_691 : decode cL_law 691 = .ok (.ireturn, 1) := by decide +kernel
theorem dL_law_692 : decode cL_law 692 = .ok (.aload_n 1, 1) := by decide +kernel
theorem dL_law_693 : decode cL_law 693 = .ok (.invokevirtual 98, 3) := by decide +kernel
theorem dL_law_696 : decode cL_law 696 = .ok (.aload_n 2, 1) := by decide +kernel
theorem dL_law_697 : decode cL_law 697 = .ok (.invokevirtual 102, 3) := by decide +kernel
theorem dL_law_700 : decode cL_law 700 = .ok (.lcmp, 1) := by decide +kernel
theorem dL_law_701 : decode cL_law 701 = .ok (.ifCond .eq 5, 3) := by decide +kernel
theorem dL_law_704 : decode cL_law 704 = .ok (.iconst 0, 1) := by decide +kernel
theorem dL_law_705 : decode cL_law 705 = .ok (.ireturn, 1) := by decide +kernel
theorem dL_law_706 : decode cL_law 706 = .ok (.iinc 3 5, 3) := by decide +kernel
theorem dL_law_709 : decode cL_law 709 = .ok (.goto (-691), 3) := by decide +kernel
theorem dL_law_712 : decode cL_law 712 = .ok (.iconst 1, 1) := by decide +kernel
theorem dL_law_713 : decode cL_law 713 = .ok (.ireturn, 1) := by decide +kernel
