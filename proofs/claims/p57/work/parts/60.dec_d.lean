theorem dL_cell_0 : decode cL_cell 0 = .ok (.aload_n 0, 1) := by decide +kernel
theorem dL_cell_1 : decode cL_cell 1 = .ok (.arraylength, 1) := by decide +kernel
theorem dL_cell_2 : decode cL_cell 2 = .ok (.ifCond .ne 11, 3) := by decide +kernel
theorem dL_cell_5 : decode cL_cell 5 = .ok (.sipush 577, 3) := by decide +kernel
theorem dL_cell_8 : decode cL_cell 8 = .ok (.iload_n 1, 1) := by decide +kernel
theorem dL_cell_9 : decode cL_cell 9 = .ok (.imul, 1) := by decide +kernel
theorem dL_cell_10 : decode cL_cell 10 = .ok (.goto 12, 3) := by decide +kernel
theorem dL_cell_13 : decode cL_cell 13 = .ok (.aload_n 0, 1) := by decide +kernel
theorem dL_cell_14 : decode cL_cell 14 = .ok (.iload_n 1, 1) := by decide +kernel
theorem dL_cell_15 : decode cL_cell 15 = .ok (.ldc 7, 2) := by decide +kernel
theorem dL_cell_17 : decode cL_cell 17 = .ok (.iand, 1) := by decide +kernel
theorem dL_cell_18 : decode cL_cell 18 = .ok (.aload_n 0, 1) := by decide +kernel
theorem dL_cell_19 : decode cL_cell 19 = .ok (.arraylength, 1) := by decide +kernel
theorem dL_cell_20 : decode cL_cell 20 = .ok (.irem, 1) := by decide +kernel
theorem dL_cell_21 : decode cL_cell 21 = .ok (.iaload, 1) := by decide +kernel
theorem dL_cell_22 : decode cL_cell 22 = .ok (.ireturn, 1) := by decide +kernel
theorem dL_addMember_0 : decode cL_addMember 0 = .ok (.ldc 10, 2) := by decide +kernel
theorem dL_addMember_2 : decode cL_addMember 2 = .ok (.istore_n 3, 1) := by decide +kernel
theorem dL_addMember_3 : decode cL_addMember 3 = .ok (.aload_n 0, 1) := by decide +kernel
theorem dL_addMember_4 : decode cL_addMember 4 = .ok (.iload_n 1, 1) := by decide +kernel
theorem dL_addMember_5 : decode cL_addMember 5 = .ok (.iload_n 2, 1) := by decide +kernel
theorem dL_addMember_6 : decode cL_addMember 6 = .ok (.invokevirtual 11, 3) := by decide +kernel
theorem dL_addMember_9 : decode cL_addMember 9 = .ok (.istore_n 3, 1) := by decide +kernel
theorem dL_addMember_10 : decode cL_addMember 10 = .ok (.goto 18, 3) := by decide +kernel
theorem dL_addMember_13 : decode cL_addMember 13 = .ok (.astore 4, 2) := by decide +kernel
theorem dL_addMember_15 : decode cL_addMember 15 = .ok (.ldc 10, 2) := by decide +kernel
theorem dL_addMember_17 : decode cL_addMember 17 = .ok (.ireturn, 1) := by decide +kernel
theorem dL_addMember_18 : decode cL_addMember 18 = .ok (.astore 4, 2) := by decide +kernel
theorem dL_addMember_20 : decode cL_addMember 20 = .ok (.ldc 10, 2) := by decide +kernel
theorem dL_addMember_22 : decode cL_addMember 22 = .ok (.ireturn, 1) := by decide +kernel
theorem dL_addMember_23 : decode cL_addMember 23 = .ok (.astore 4, 2) := by decide +kernel
theorem dL_addMember_25 : decode cL_addMember 25 = .ok (.ldc 10, 2) := by decide +kernel
theorem dL_addMember_27 : decode cL_addMember 27 = .ok (.ireturn, 1) := by decide +kernel
theorem dL_addMember_28 : decode cL_addMember 28 = .ok (.iload_n 3, 1) := by decide +kernel
theorem dL_addMember_29 : decode cL_addMember 29 = .ok (.ireturn, 1) := by decide +kernel
theorem dL_enter_0 : decode cL_enter 0 = .ok (.ldc 10, 2) := by decide +kernel
theorem dL_enter_2 : decode cL_enter 2 = .ok (.istore_n 2, 1) := by decide +kernel
theorem dL_enter_3 : decode cL_enter 3 = .ok (.aload_n 0, 1) := by decide +kernel
theorem dL_enter_4 : decode cL_enter 4 = .ok (.iload_n 1, 1) := by decide +kernel
theorem dL_enter_5 : decode cL_enter 5 = .ok (.invokevirtual 23, 3) := by decide +kernel
theorem dL_enter_8 : decode cL_enter 8 = .ok (.istore_n 2, 1) := by decide +kernel
theorem dL_enter_9 : decode cL_enter 9 = .ok (.goto 11, 3) := by decide +kernel
theorem dL_enter_12 : decode cL_enter 12 = .ok (.astore_n 3, 1) := by decide +kernel
theorem dL_enter_13 : decode cL_enter 13 = .ok (.ldc 10, 2) := by decide +kernel
theorem dL_enter_15 : decode cL_enter 15 = .ok (.ireturn, 1) := by decide +kernel
theorem dL_enter_16 : decode cL_enter 16 = .ok (.astore_n 3, 1) := by decide +kernel
theorem dL_enter_17 : decode cL_enter 17 = .ok (.ldc 10, 2) := by decide +kernel
theorem dL_enter_19 : decode cL_enter 19 = .ok (.ireturn, 1) := by decide +kernel
theorem dL_enter_20 : decode cL_enter 20 = .ok (.iload_n 2, 1) := by decide +kernel
theorem dL_enter_21 : decode cL_enter 21 = .ok (.ireturn, 1) := by decide +kernel
theorem dL_leave_0 : decode cL_leave 0 = .ok (.ldc 10, 2) := by decide +kernel
theorem dL_leave_2 : decode cL_leave 2 = .ok (.istore_n 2, 1) := by decide +kernel
theorem dL_leave_3 : decode cL_leave 3 = .ok (.aload_n 0, 1) := by decide +kernel
theorem dL_leave_4 : decode cL_leave 4 = .ok (.iload_n 1, 1) := by decide +kernel
theorem dL_leave_5 : decode cL_leave 5 = .ok (.invokevirtual 27, 3) := by decide +kernel
theorem dL_leave_8 : decode cL_leave 8 = .ok (.istore_n 2, 1) := by decide +kernel
theorem dL_leave_9 : decode cL_leave 9 = .ok (.goto 11, 3) := by decide +kernel
theorem dL_leave_12 : decode cL_leave 12 = .ok (.astore_n 3, 1) := by decide +kernel
theorem dL_leave_13 : decode cL_leave 13 = .ok (.ldc 10, 2) := by decide +kernel
theorem dL_leave_15 : decode cL_leave 15 = .ok (.ireturn, 1) := by decide +kernel
theorem dL_leave_16 : decode cL_leave 16 = .ok (.astore_n 3, 1) := by decide +kernel
theorem dL_leave_17 : decode cL_leave 17 = .ok (.ldc 10, 2) := by decide +kernel
theorem dL_leave_19 : decode cL_leave 19 = .ok (.ireturn, 1) := by decide +kernel
theorem dL_leave_20 : decode cL_leave 20 = .ok (.iload_n 2, 1) := by decide +kernel
theorem dL_leave_21 : decode cL_leave 21 = .ok (.ireturn, 1) := by decide +kernel
theorem dL_setQuorum_0 : decode cL_setQuorum 0 = .ok (.ldc 10, 2) := by decide +kernel
theorem dL_setQuorum_2 : decode cL_setQuorum 2 = .ok (.istore_n 2, 1) := by decide +kernel
theorem dL_setQuorum_3 : decode cL_setQuorum 3 = .ok (.aload_n 0, 1) := by decide +kernel
theorem dL_setQuorum_4 : decode cL_setQuorum 4 = .ok (.iload_n 1, 1) := by decide +kernel
theorem dL_setQuorum_5 : decode cL_setQuorum 5 = .ok (.invokevirtual 30, 3) := by decide +kernel
theorem dL_setQuorum_8 : decode cL_setQuorum 8 = .ok (.istore_n 2, 1) := by decide +kernel
theorem dL_setQuorum_9 : decode cL_setQuorum 9 = .ok (.goto 7, 3) := by decide +kernel
theorem dL_setQuorum_12 : decode cL_setQuorum 12 = .ok (.astore_n 3, 1) := by decide +kernel
theorem dL_setQuorum_13 : decode cL_setQuorum 13 = .ok (.ldc 10, 2) := by decide +kernel
theorem dL_setQuorum_15 : decode cL_setQuorum 15 = .ok (.ireturn, 1) := by decide +kernel
theorem dL_setQuorum_16 : decode cL_setQuorum 16 = .ok (.iload_n 2, 1) := by decide +kernel
theorem dL_setQuorum_17 : decode cL_setQuorum 17 = .ok (.ireturn, 1) := by decide +kernel
theorem dL_introduce_0 : decode cL_introduce 0 = .ok (.ldc 10, 2) := by decide +kernel
theorem dL_introduce_2 : decode cL_introduce 2 = .ok (.istore 4, 2) := by decide +kernel
theorem dL_introduce_4 : decode cL_introduce 4 = .ok (.aload_n 0, 1) := by decide +kernel
theorem dL_introduce_5 : decode cL_introduce 5 = .ok (.iload_n 1, 1) := by decide +kernel
theorem dL_introduce_6 : decode cL_introduce 6 = .ok (.iload_n 2, 1) := by decide +kernel
theorem dL_introduce_7 : decode cL_introduce 7 = .ok (.iload_n 3, 1) := by decide +kernel
theorem dL_introduce_8 : decode cL_introduce 8 = .ok (.invokevirtual 33, 3) := by decide +kernel
theorem dL_introduce_11 : decode cL_introduce 11 = .ok (.istore 4, 2) := by decide +kernel
theorem dL_introduce_13 : decode cL_introduce 13 = .ok (.goto 23, 3) := by decide +kernel
theorem dL_introduce_16 : decode cL_introduce 16 = .ok (.astore 5, 2) := by decide +kernel
theorem dL_introduce_18 : decode cL_introduce 18 = .ok (.ldc 10, 2) := by decide +kernel
theorem dL_introduce_20 : decode cL_introduce 20 = .ok (.ireturn, 1) := by decide +kernel
theorem dL_introduce_21 : decode cL_introduce 21 = .ok (.astore 5, 2) := by decide +kernel
theorem dL_introduce_23 : decode cL_introduce 23 = .ok (.ldc 10, 2) := by decide +kernel
theorem dL_introduce_25 : decode cL_introduce 25 = .ok (.ireturn, 1) := by decide +kernel
theorem dL_introduce_26 : decode cL_introduce 26 = .ok (.astore 5, 2) := by decide +kernel
theorem dL_introduce_28 : decode cL_introduce 28 = .ok (.ldc 10, 2) := by decide +kernel
theorem dL_introduce_30 : decode cL_introduce 30 = .ok (.ireturn, 1) := by decide +kernel
theorem dL_introduce_31 : decode cL_introduce 31 = .ok (.astore 5, 2) := by decide +kernel
theorem dL_introduce_33 : decode cL_introduce 33 = .ok (.ldc 10, 2) := by decide +kernel
theorem dL_introduce_35 : decode cL_introduce 35 = .ok (.ireturn, 1) := by decide +kernel
theorem dL_introduce_36 : decode cL_introduce 36 = .ok (.iload 4, 2) := by decide +kernel
theorem dL_introduce_38 : decode cL_introduce 38 = .ok (.ireturn, 1) := by decide +kernel
theorem dL_billAtRank_0 : decode cL_billAtRank 0 = .ok (.sipush (-1000), 3) := by decide +kernel
theorem dL_billAtRank_3 : decode cL_billAtRank 3 = .ok (.istore_n 2, 1) := by decide +kernel
theorem dL_billAtRank_4 : decode cL_billAtRank 4 = .ok (.aload_n 0, 1) := by decide +kernel
theorem dL_billAtRank_5 : decode cL_billAtRank 5 = .ok (.iload_n 1, 1) := by decide +kernel
theorem dL_billAtRank_6 : decode cL_billAtRank 6 = .ok (.invokevirtual 39, 3) := by decide +kernel
theorem dL_billAtRank_9 : decode cL_billAtRank 9 = .ok (.istore_n 2, 1) := by decide +kernel
theorem dL_billAtRank_10 : decode cL_billAtRank 10 = .ok (.goto 8, 3) := by decide +kernel
theorem dL_billAtRank_13 : decode cL_billAtRank 13 = .ok (.astore_n 3, 1) := by decide +kernel
theorem dL_billAtRank_14 : decode cL_billAtRank 14 = .ok (.sipush (-1000), 3) := by decide +kernel
theorem dL_billAtRank_17 : decode cL_billAtRank 17 = .ok (.ireturn, 1) := by decide +kernel
theorem dL_billAtRank_18 : decode cL_billAtRank 18 = .ok (.iload_n 2, 1) := by decide +kernel
theorem dL_billAtRank_19 : decode cL_billAtRank 19 = .ok (.ireturn, 1) := by decide +kernel
theorem dL_voteFor_0 : decode cL_voteFor 0 = .ok (.ldc 10, 2) := by decide +kernel
theorem dL_voteFor_2 : decode cL_voteFor 2 = .ok (.istore_n 3, 1) := by decide +kernel
theorem dL_voteFor_3 : decode cL_voteFor 3 = .ok (.aload_n 0, 1) := by decide +kernel
theorem dL_voteFor_4 : decode cL_voteFor 4 = .ok (.iload_n 1, 1) := by decide +kernel
theorem dL_voteFor_5 : decode cL_voteFor 5 = .ok (.iload_n 2, 1) := by decide +kernel
theorem dL_voteFor_6 : decode cL_voteFor 6 = .ok (.invokevirtual 44, 3) := by decide +kernel
theorem dL_voteFor_9 : decode cL_voteFor 9 = .ok (.istore_n 3, 1) := by decide +kernel
theorem dL_voteFor_10 : decode cL_voteFor 10 = .ok (.goto 18, 3) := by decide +kernel
theorem dL_voteFor_13 : decode cL_voteFor 13 = .ok (.astore 4, 2) := by decide +kernel
theorem dL_voteFor_15 : decode cL_voteFor 15 = .ok (.ldc 10, 2) := by decide +kernel
theorem dL_voteFor_17 : decode cL_voteFor 17 = .ok (.ireturn, 1) := by decide +kernel
theorem dL_voteFor_18 : decode cL_voteFor 18 = .ok (.astore 4, 2) := by decide +kernel
theorem dL_voteFor_20 : decode cL_voteFor 20 = .ok (.ldc 10, 2) := by decide +kernel
theorem dL_voteFor_22 : decode cL_voteFor 22 = .ok (.ireturn, 1) := by decide +kernel
theorem dL_voteFor_23 : decode cL_voteFor 23 = .ok (.astore 4, 2) := by decide +kernel
theorem dL_voteFor_25 : decode cL_voteFor 25 = .ok (.ldc 10, 2) := by decide +kernel
theorem dL_voteFor_27 : decode cL_voteFor 27 = .ok (.ireturn, 1) := by decide +kernel
theorem dL_voteFor_28 : decode cL_voteFor 28 = .ok (.iload_n 3, 1) := by decide +kernel
theorem dL_voteFor_29 : decode cL_voteFor 29 = .ok (.ireturn, 1) := by decide +kernel
theorem dL_voteAgainst_0 : decode cL_voteAgainst 0 = .ok (.ldc 10, 2) := by decide +kernel
theorem dL_voteAgainst_2 : decode cL_voteAgainst 2 = .ok (.istore_n 3, 1) := by decide +kernel
theorem dL_voteAgainst_3 : decode cL_voteAgainst 3 = .ok (.aload_n 0, 1) := by decide +kernel
theorem dL_voteAgainst_4 : decode cL_voteAgainst 4 = .ok (.iload_n 1, 1) := by decide +kernel
theorem dL_voteAgainst_5 : decode cL_voteAgainst 5 = .ok (.iload_n 2, 1) := by decide +kernel
theorem dL_voteAgainst_6 : decode cL_voteAgainst 6 = .ok (.invokevirtual 47, 3) := by decide +kernel
theorem dL_voteAgainst_9 : decode cL_voteAgainst 9 = .ok (.istore_n 3, 1) := by decide +kernel
theorem dL_voteAgainst_10 : decode cL_voteAgainst 10 = .ok (.goto 18, 3) := by decide +kernel
theorem dL_voteAgainst_13 : decode cL_voteAgainst 13 = .ok (.astore 4, 2) := by decide +kernel
theorem dL_voteAgainst_15 : decode cL_voteAgainst 15 = .ok (.ldc 10, 2) := by decide +kernel
theorem dL_voteAgainst_17 : decode cL_voteAgainst 17 = .ok (.ireturn, 1) := by decide +kernel
theorem dL_voteAgainst_18 : decode cL_voteAgainst 18 = .ok (.astore 4, 2) := by decide +kernel
theorem dL_voteAgainst_20 : decode cL_voteAgainst 20 = .ok (.ldc 10, 2) := by decide +kernel
theorem dL_voteAgainst_22 : decode cL_voteAgainst 22 = .ok (.ireturn, 1) := by decide +kernel
theorem dL_voteAgainst_23 : decode cL_voteAgainst 23 = .ok (.astore 4, 2) := by decide +kernel
theorem dL_voteAgainst_25 : decode cL_voteAgainst 25 = .ok (.ldc 10, 2) := by decide +kernel
theorem dL_voteAgainst_27 : decode cL_voteAgainst 27 = .ok (.ireturn, 1) := by decide +kernel
theorem dL_voteAgainst_28 : decode cL_voteAgainst 28 = .ok (.iload_n 3, 1) := by decide +kernel
theorem dL_voteAgainst_29 : decode cL_voteAgainst 29 = .ok (.ireturn, 1) := by decide +kernel
theorem dL_closeReading_0 : decode cL_closeReading 0 = .ok (.ldc 10, 2) := by decide +kernel
theorem dL_closeReading_2 : decode cL_closeReading 2 = .ok (.istore_n 2, 1) := by decide +kernel
theorem dL_closeReading_3 : decode cL_closeReading 3 = .ok (.aload_n 0, 1) := by decide +kernel
theorem dL_closeReading_4 : decode cL_closeReading 4 = .ok (.iload_n 1, 1) := by decide +kernel
theorem dL_closeReading_5 : decode cL_closeReading 5 = .ok (.invokevirtual 50, 3) := by decide +kernel
theorem dL_closeReading_8 : decode cL_closeReading 8 = .ok (.ifCond .eq 7, 3) := by decide +kernel
theorem dL_closeReading_11 : decode cL_closeReading 11 = .ok (.iconst 1, 1) := by decide +kernel
theorem dL_closeReading_12 : decode cL_closeReading 12 = .ok (.goto 4, 3) := by decide +kernel
theorem dL_closeReading_15 : decode cL_closeReading 15 = .ok (.iconst 0, 1) := by decide +kernel
theorem dL_closeReading_16 : decode cL_closeReading 16 = .ok (.istore_n 2, 1) := by decide +kernel
theorem dL_closeReading_17 : decode cL_closeReading 17 = .ok (.goto 15, 3) := by decide +kernel
theorem dL_closeReading_20 : decode cL_closeReading 20 = .ok (.astore_n 3, 1) := by decide +kernel
theorem dL_closeReading_21 : decode cL_closeReading 21 = .ok (.ldc 10, 2) := by decide +kernel
theorem dL_closeReading_23 : decode cL_closeReading 23 = .ok (.ireturn, 1) := by decide +kernel
theorem dL_closeReading_24 : decode cL_closeReading 24 = .ok (.astore_n 3, 1) := by decide +kernel
theorem dL_closeReading_25 : decode cL_closeReading 25 = .ok (.ldc 10, 2) := by decide +kernel
theorem dL_closeReading_27 : decode cL_closeReading 27 = .ok (.ireturn, 1) := by decide +kernel
theorem dL_closeReading_28 : decode cL_closeReading 28 = .ok (.astore_n 3, 1) := by decide +kernel
theorem dL_closeReading_29 : decode cL_closeReading 29 = .ok (.ldc 10, 2) := by decide +kernel
theorem dL_closeReading_31 : decode cL_closeReading 31 = .ok (.ireturn, 1) := by decide +kernel
theorem dL_closeReading_32 : decode cL_closeReading 32 = .ok (.iload_n 2, 1) := by decide +kernel
theorem dL_closeReading_33 : decode cL_closeReading 33 = .ok (.ireturn, 1) := by decide +kernel
theorem dL_propose_0 : decode cL_propose 0 = .ok (.ldc 10, 2) := by decide +kernel
theorem dL_propose_2 : decode cL_propose 2 = .ok (.istore 4, 2) := by decide +kernel
theorem dL_propose_4 : decode cL_propose 4 = .ok (.aload_n 0, 1) := by decide +kernel
theorem dL_propose_5 : decode cL_propose 5 = .ok (.iload_n 1, 1) := by decide +kernel
theorem dL_propose_6 : decode cL_propose 6 = .ok (.iload_n 2, 1) := by decide +kernel
theorem dL_propose_7 : decode cL_propose 7 = .ok (.iload_n 3, 1) := by decide +kernel
theorem dL_propose_8 : decode cL_propose 8 = .ok (.invokevirtual 54, 3) := by decide +kernel
theorem dL_propose_11 : decode cL_propose 11 = .ok (.istore 4, 2) := by decide +kernel
theorem dL_propose_13 : decode cL_propose 13 = .ok (.goto 18, 3) := by decide +kernel
theorem dL_propose_16 : decode cL_propose 16 = .ok (.astore 5, 2) := by decide +kernel
theorem dL_propose_18 : decode cL_propose 18 = .ok (.ldc 10, 2) := by decide +kernel
theorem dL_propose_20 : decode cL_propose 20 = .ok (.ireturn, 1) := by decide +kernel
theorem dL_propose_21 : decode cL_propose 21 = .ok (.astore 5, 2) := by decide +kernel
theorem dL_propose_23 : decode cL_propose 23 = .ok (.ldc 10, 2) := by decide +kernel
theorem dL_propose_25 : decode cL_propose 25 = .ok (.ireturn, 1) := by decide +kernel
theorem dL_propose_26 : decode cL_propose 26 = .ok (.astore 5, 2) := by decide +kernel
theorem dL_propose_28 : decode cL_propose 28 = .ok (.ldc 10, 2) := by decide +kernel
theorem dL_propose_30 : decode cL_propose 30 = .ok (.ireturn, 1) := by decide +kernel
theorem dL_propose_31 : decode cL_propose 31 = .ok (.iload 4, 2) := by decide +kernel
theorem dL_propose_33 : decode cL_propose 33 = .ok (.ireturn, 1) := by decide +kernel
theorem dL_support_0 : decode cL_support 0 = .ok (.ldc 10, 2) := by decide +kernel
theorem dL_support_2 : decode cL_support 2 = .ok (.istore 4, 2) := by decide +kernel
theorem dL_support_4 : decode cL_support 4 = .ok (.aload_n 0, 1) := by decide +kernel
theorem dL_support_5 : decode cL_support 5 = .ok (.iload_n 1, 1) := by decide +kernel
theorem dL_support_6 : decode cL_support 6 = .ok (.iload_n 2, 1) := by decide +kernel
theorem dL_support_7 : decode cL_support 7 = .ok (.iload_n 3, 1) := by decide +kernel
theorem dL_support_8 : decode cL_support 8 = .ok (.invokevirtual 57, 3) := by decide +kernel
theorem dL_support_11 : decode cL_support 11 = .ok (.istore 4, 2) := by decide +kernel
theorem dL_support_13 : decode cL_support 13 = .ok (.goto 23, 3) := by decide +kernel
theorem dL_support_16 : decode cL_support 16 = .ok (.astore 5, 2) := by decide +kernel
theorem dL_support_18 : decode cL_support 18 = .ok (.ldc 10, 2) := by decide +kernel
theorem dL_support_20 : decode cL_support 20 = .ok (.ireturn, 1) := by decide +kernel
theorem dL_support_21 : decode cL_support 21 = .ok (.astore 5, 2) := by decide +kernel
theorem dL_support_23 : decode cL_support 23 = .ok (.ldc 10, 2) := by decide +kernel
theorem dL_support_25 : decode cL_support 25 = .ok (.ireturn, 1) := by decide +kernel
theorem dL_support_26 : decode cL_support 26 = .ok (.astore 5, 2) := by decide +kernel
theorem dL_support_28 : decode cL_support 28 = .ok (.ldc 10, 2) := by decide +kernel
theorem dL_support_30 : decode cL_support 30 = .ok (.ireturn, 1) := by decide +kernel
theorem dL_support_31 : decode cL_support 31 = .ok (.astore 5, 2) := by decide +kernel
theorem dL_support_33 : decode cL_support 33 = .ok (.ldc 10, 2) := by decide +kernel
theorem dL_support_35 : decode cL_support 35 = .ok (.ireturn, 1) := by decide +kernel
theorem dL_support_36 : decode cL_support 36 = .ok (.iload 4, 2) := by decide +kernel
theorem dL_support_38 : decode cL_support 38 = .ok (.ireturn, 1) := by decide +kernel
theorem dL_decide_0 : decode cL_decide 0 = .ok (.ldc 10, 2) := by decide +kernel
theorem dL_decide_2 : decode cL_decide 2 = .ok (.istore_n 2, 1) := by decide +kernel
theorem dL_decide_3 : decode cL_decide 3 = .ok (.aload_n 0, 1) := by decide +kernel
theorem dL_decide_4 : decode cL_decide 4 = .ok (.iload_n 1, 1) := by decide +kernel
theorem dL_decide_5 : decode cL_decide 5 = .ok (.invokevirtual 60, 3) := by decide +kernel
theorem dL_decide_8 : decode cL_decide 8 = .ok (.ifCond .eq 7, 3) := by decide +kernel
theorem dL_decide_11 : decode cL_decide 11 = .ok (.iconst 1, 1) := by decide +kernel
theorem dL_decide_12 : decode cL_decide 12 = .ok (.goto 4, 3) := by decide +kernel
theorem dL_decide_15 : decode cL_decide 15 = .ok (.iconst 0, 1) := by decide +kernel
theorem dL_decide_16 : decode cL_decide 16 = .ok (.istore_n 2, 1) := by decide +kernel
theorem dL_decide_17 : decode cL_decide 17 = .ok (.goto 19, 3) := by decide +kernel
theorem dL_decide_20 : decode cL_decide 20 = .ok (.astore_n 3, 1) := by decide +kernel
theorem dL_decide_21 : decode cL_decide 21 = .ok (.ldc 10, 2) := by decide +kernel
theorem dL_decide_23 : decode cL_decide 23 = .ok (.ireturn, 1) := by decide +kernel
theorem dL_decide_24 : decode cL_decide 24 = .ok (.astore_n 3, 1) := by decide +kernel
theorem dL_decide_25 : decode cL_decide 25 = .ok (.ldc 10, 2) := by decide +kernel
theorem dL_decide_27 : decode cL_decide 27 = .ok (.ireturn, 1) := by decide +kernel
theorem dL_decide_28 : decode cL_decide 28 = .ok (.astore_n 3, 1) := by decide +kernel
theorem dL_decide_29 : decode cL_decide 29 = .ok (.ldc 10, 2) := by decide +kernel
theorem dL_decide_31 : decode cL_decide 31 = .ok (.ireturn, 1) := by decide +kernel
theorem dL_decide_32 : decode cL_decide 32 = .ok (.astore_n 3, 1) := by decide +kernel
theorem dL_decide_33 : decode cL_decide 33 = .ok (.ldc 10, 2) := by decide +kernel
theorem dL_decide_35 : decode cL_decide 35 = .ok (.ireturn, 1) := by decide +kernel
theorem dL_decide_36 : decode cL_decide 36 = .ok (.iload_n 2, 1) := by decide +kernel
theorem dL_decide_37 : decode cL_decide 37 = .ok (.ireturn, 1) := by decide +kernel
theorem dL_amendedClause_0 : decode cL_amendedClause 0 = .ok (.sipush (-1000), 3) := by decide +kernel
theorem dL_amendedClause_3 : decode cL_amendedClause 3 = .ok (.istore_n 3, 1) := by decide +kernel
theorem dL_amendedClause_4 : decode cL_amendedClause 4 = .ok (.aload_n 0, 1) := by decide +kernel
theorem dL_amendedClause_5 : decode cL_amendedClause 5 = .ok (.iload_n 1, 1) := by decide +kernel
theorem dL_amendedClause_6 : decode cL_amendedClause 6 = .ok (.iload_n 2, 1) := by decide +kernel
theorem dL_amendedClause_7 : decode cL_amendedClause 7 = .ok (.invokevirtual 63, 3) := by decide +kernel
theorem dL_amendedClause_10 : decode cL_amendedClause 10 = .ok (.istore_n 3, 1) := by decide +kernel
theorem dL_amendedClause_11 : decode cL_amendedClause 11 = .ok (.goto 15, 3) := by decide +kernel
theorem dL_amendedClause_14 : decode cL_amendedClause 14 = .ok (.astore 4, 2) := by decide +kernel
theorem dL_amendedClause_16 : decode cL_amendedClause 16 = .ok (.sipush (-1000), 3) := by decide +kernel
theorem dL_amendedClause_19 : decode cL_amendedClause 19 = .ok (.ireturn, 1) := by decide +kernel
theorem dL_amendedClause_20 : decode cL_amendedClause 20 = .ok (.astore 4, 2) := by decide +kernel
theorem dL_amendedClause_22 : decode cL_amendedClause 22 = .ok (.sipush (-1000), 3) := by decide +kernel
theorem dL_amendedClause_25 : decode cL_amendedClause 25 = .ok (.ireturn, 1) := by decide +kernel
theorem dL_amendedClause_26 : decode cL_amendedClause 26 = .ok (.iload_n 3, 1) := by decide +kernel
theorem dL_amendedClause_27 : decode cL_amendedClause 27 = .ok (.ireturn, 1) := by decide +kernel
theorem dL_ride_0 : decode cL_ride 0 = .ok (.ldc 10, 2) := by decide +kernel
theorem dL_ride_2 : decode cL_ride 2 = .ok (.istore 4, 2) := by decide +kernel
theorem dL_ride_4 : decode cL_ride 4 = .ok (.aload_n 0, 1) := by decide +kernel
theorem dL_ride_5 : decode cL_ride 5 = .ok (.iload_n 1, 1) := by decide +kernel
theorem dL_ride_6 : decode cL_ride 6 = .ok (.iload_n 2, 1) := by decide +kernel
theorem dL_ride_7 : decode cL_ride 7 = .ok (.iload_n 3, 1) := by decide +kernel
theorem dL_ride_8 : decode cL_ride 8 = .ok (.invokevirtual 69, 3) := by decide +kernel
theorem dL_ride_11 : decode cL_ride 11 = .ok (.istore 4, 2) := by decide +kernel
theorem dL_ride_13 : decode cL_ride 13 = .ok (.goto 23, 3) := by decide +kernel
theorem dL_ride_16 : decode cL_ride 16 = .ok (.astore 5, 2) := by decide +kernel
theorem dL_ride_18 : decode cL_ride 18 = .ok (.ldc 10, 2) := by decide +kernel
theorem dL_ride_20 : decode cL_ride 20 = .ok (.ireturn, 1) := by decide +kernel
theorem dL_ride_21 : decode cL_ride 21 = .ok (.astore 5, 2) := by decide +kernel
theorem dL_ride_23 : decode cL_ride 23 = .ok (.ldc 10, 2) := by decide +kernel
theorem dL_ride_25 : decode cL_ride 25 = .ok (.ireturn, 1) := by decide +kernel
theorem dL_ride_26 : decode cL_ride 26 = .ok (.astore 5, 2) := by decide +kernel
theorem dL_ride_28 : decode cL_ride 28 = .ok (.ldc 10, 2) := by decide +kernel
theorem dL_ride_30 : decode cL_ride 30 = .ok (.ireturn, 1) := by decide +kernel
theorem dL_ride_31 : decode cL_ride 31 = .ok (.astore 5, 2) := by decide +kernel
theorem dL_ride_33 : decode cL_ride 33 = .ok (.ldc 10, 2) := by decide +kernel
theorem dL_ride_35 : decode cL_ride 35 = .ok (.ireturn, 1) := by decide +kernel
theorem dL_ride_36 : decode cL_ride 36 = .ok (.iload 4, 2) := by decide +kernel
theorem dL_ride_38 : decode cL_ride 38 = .ok (.ireturn, 1) := by decide +kernel
theorem dL_ridesUntilFall_0 : decode cL_ridesUntilFall 0 = .ok (.sipush (-1000), 3) := by decide +kernel
theorem dL_ridesUntilFall_3 : decode cL_ridesUntilFall 3 = .ok (.istore_n 3, 1) := by decide +kernel
theorem dL_ridesUntilFall_4 : decode cL_ridesUntilFall 4 = .ok (.aload_n 0, 1) := by decide +kernel
theorem dL_ridesUntilFall_5 : decode cL_ridesUntilFall 5 = .ok (.iload_n 1, 1) := by decide +kernel
theorem dL_ridesUntilFall_6 : decode cL_ridesUntilFall 6 = .ok (.iload_n 2, 1) := by decide +kernel
theorem dL_ridesUntilFall_7 : decode cL_ridesUntilFall 7 = .ok (.invokevirtual 72, 3) := by decide +kernel
theorem dL_ridesUntilFall_10 : decode cL_ridesUntilFall 10 = .ok (.istore_n 3, 1) := by decide +kernel
theorem dL_ridesUntilFall_11 : decode cL_ridesUntilFall 11 = .ok (.goto 21, 3) := by decide +kernel
theorem dL_ridesUntilFall_14 : decode cL_ridesUntilFall 14 = .ok (.astore 4, 2) := by decide +kernel
theorem dL_ridesUntilFall_16 : decode cL_ridesUntilFall 16 = .ok (.sipush (-1000), 3) := by decide +kernel
theorem dL_ridesUntilFall_19 : decode cL_ridesUntilFall 19 = .ok (.ireturn, 1) := by decide +kernel
theorem dL_ridesUntilFall_20 : decode cL_ridesUntilFall 20 = .ok (.astore 4, 2) := by decide +kernel
theorem dL_ridesUntilFall_22 : decode cL_ridesUntilFall 22 = .ok (.sipush (-1000), 3) := by decide +kernel
theorem dL_ridesUntilFall_25 : decode cL_ridesUntilFall 25 = .ok (.ireturn, 1) := by decide +kernel
theorem dL_ridesUntilFall_26 : decode cL_ridesUntilFall 26 = .ok (.astore 4, 2) := by decide +kernel
theorem dL_ridesUntilFall_28 : decode cL_ridesUntilFall 28 = .ok (.sipush (-1000), 3) := by decide +kernel
theorem dL_ridesUntilFall_31 : decode cL_ridesUntilFall 31 = .ok (.ireturn, 1) := by decide +kernel
theorem dL_ridesUntilFall_32 : decode cL_ridesUntilFall 32 = .ok (.iload_n 3, 1) := by decide +kernel
theorem dL_ridesUntilFall_33 : decode cL_ridesUntilFall 33 = .ok (.ireturn, 1) := by decide +kernel
theorem dL_meanWeight_0 : decode cL_meanWeight 0 = .ok (.ldc2_w 75, 3) := by decide +kernel
theorem dL_meanWeight_3 : decode cL_meanWeight 3 = .ok (.dstore_n 1, 1) := by decide +kernel
theorem dL_meanWeight_4 : decode cL_meanWeight 4 = .ok (.aload_n 0, 1) := by decide +kernel
theorem dL_meanWeight_5 : decode cL_meanWeight 5 = .ok (.invokevirtual 77, 3) := by decide +kernel
theorem dL_meanWeight_8 : decode cL_meanWeight 8 = .ok (.dstore_n 1, 1) := by decide +kernel
theorem dL_meanWeight_9 : decode cL_meanWeight 9 = .ok (.goto 8, 3) := by decide +kernel
theorem dL_meanWeight_12 : decode cL_meanWeight 12 = .ok (.astore_n 3, 1) := by decide +kernel
theorem dL_meanWeight_13 : decode cL_meanWeight 13 = .ok (.ldc2_w 75, 3) := by decide +kernel
theorem dL_meanWeight_16 : decode cL_meanWeight 16 = .ok (.dreturn, 1) := by decide +kernel
theorem dL_meanWeight_17 : decode cL_meanWeight 17 = .ok (.dload_n 1, 1) := by decide +kernel
theorem dL_meanWeight_18 : decode cL_meanWeight 18 = .ok (.dreturn, 1) := by decide +kernel
theorem dL_shareBits_0 : decode cL_shareBits 0 = .ok (.sipush (-1000), 3) := by decide +kernel
theorem dL_shareBits_3 : decode cL_shareBits 3 = .ok (.istore_n 2, 1) := by decide +kernel
theorem dL_shareBits_4 : decode cL_shareBits 4 = .ok (.aload_n 0, 1) := by decide +kernel
theorem dL_shareBits_5 : decode cL_shareBits 5 = .ok (.iload_n 1, 1) := by decide +kernel
theorem dL_shareBits_6 : decode cL_shareBits 6 = .ok (.invokevirtual 83, 3) := by decide +kernel
theorem dL_shareBits_9 : decode cL_shareBits 9 = .ok (.istore_n 2, 1) := by decide +kernel
theorem dL_shareBits_10 : decode cL_shareBits 10 = .ok (.goto 13, 3) := by decide +kernel
theorem dL_shareBits_13 : decode cL_shareBits 13 = .ok (.astore_n 3, 1) := by decide +kernel
theorem dL_shareBits_14 : decode cL_shareBits 14 = .ok (.sipush (-1000), 3) := by decide +kernel
theorem dL_shareBits_17 : decode cL_shareBits 17 = .ok (.ireturn, 1) := by decide +kernel
theorem dL_shareBits_18 : decode cL_shareBits 18 = .ok (.astore_n 3, 1) := by decide +kernel
theorem dL_shareBits_19 : decode cL_shareBits 19 = .ok (.sipush (-1000), 3) := by decide +kernel
theorem dL_shareBits_22 : decode cL_shareBits 22 = .ok (.ireturn, 1) := by decide +kernel
theorem dL_shareBits_23 : decode cL_shareBits 23 = .ok (.iload_n 2, 1) := by decide +kernel
theorem dL_shareBits_24 : decode cL_shareBits 24 = .ok (.ireturn, 1) := by decide +kernel
theorem dL_run_0 : decode cL_run 0 = .ok (.ldc 10, 2) := by decide +kernel
theorem dL_run_2 : decode cL_run 2 = .ok (.istore_n 1, 1) := by decide +kernel
theorem dL_run_3 : decode cL_run 3 = .ok (.aload_n 0, 1) := by decide +kernel
theorem dL_run_4 : decode cL_run 4 = .ok (.invokevirtual 86, 3) := by decide +kernel
theorem dL_run_7 : decode cL_run 7 = .ok (.istore_n 1, 1) := by decide +kernel
theorem dL_run_8 : decode cL_run 8 = .ok (.goto 11, 3) := by decide +kernel
theorem dL_run_11 : decode cL_run 11 = .ok (.astore_n 2, 1) := by decide +kernel
theorem dL_run_12 : decode cL_run 12 = .ok (.ldc 10, 2) := by decide +kernel
theorem dL_run_14 : decode cL_run 14 = .ok (.ireturn, 1) := by decide +kernel
theorem dL_run_15 : decode cL_run 15 = .ok (.astore_n 2, 1) := by decide +kernel
theorem dL_run_16 : decode cL_run 16 = .ok (.ldc 10, 2) := by decide +kernel
theorem dL_run_18 : decode cL_run 18 = .ok (.ireturn, 1) := by decide +kernel
theorem dL_run_19 : decode cL_run 19 = .ok (.iload_n 1, 1) := by decide +kernel
theorem dL_run_20 : decode cL_run 20 = .ok (.ireturn, 1) := by decide +kernel
theorem dL_failedCommand_0 : decode cL_failedCommand 0 = .ok (.sipush (-1000), 3) := by decide +kernel
theorem dL_failedCommand_3 : decode cL_failedCommand 3 = .ok (.istore_n 1, 1) := by decide +kernel
theorem dL_failedCommand_4 : decode cL_failedCommand 4 = .ok (.aload_n 0, 1) := by decide +kernel
theorem dL_failedCommand_5 : decode cL_failedCommand 5 = .ok (.invokevirtual 90, 3) := by decide +kernel
theorem dL_failedCommand_8 : decode cL_failedCommand 8 = .ok (.istore_n 1, 1) := by decide +kernel
theorem dL_failedCommand_9 : decode cL_failedCommand 9 = .ok (.goto 8, 3) := by decide +kernel
theorem dL_failedCommand_12 : decode cL_failedCommand 12 = .ok (.astore_n 2, 1) := by decide +kernel
theorem dL_failedCommand_13 : decode cL_failedCommand 13 = .ok (.sipush (-1000), 3) := by decide +kernel
theorem dL_failedCommand_16 : decode cL_failedCommand 16 = .ok (.ireturn, 1) := by decide +kernel
theorem dL_failedCommand_17 : decode cL_failedCommand 17 = .ok (.iload_n 1, 1) := by decide +kernel
theorem dL_failedCommand_18 : decode cL_failedCommand 18 = .ok (.ireturn, 1) := by decide +kernel
theorem dL_undo_0 : decode cL_undo 0 = .ok (.ldc 10, 2) := by decide +kernel
theorem dL_undo_2 : decode cL_undo 2 = .ok (.istore_n 1, 1) := by decide +kernel
theorem dL_undo_3 : decode cL_undo 3 = .ok (.aload_n 0, 1) := by decide +kernel
theorem dL_undo_4 : decode cL_undo 4 = .ok (.invokevirtual 93, 3) := by decide +kernel
theorem dL_undo_7 : decode cL_undo 7 = .ok (.istore_n 1, 1) := by decide +kernel
theorem dL_undo_8 : decode cL_undo 8 = .ok (.goto 7, 3) := by decide +kernel
theorem dL_undo_11 : decode cL_undo 11 = .ok (.astore_n 2, 1) := by decide +kernel
theorem dL_undo_12 : decode cL_undo 12 = .ok (.ldc 10, 2) := by decide +kernel
theorem dL_undo_14 : decode cL_undo 14 = .ok (.ireturn, 1) := by decide +kernel
theorem dL_undo_15 : decode cL_undo 15 = .ok (.iload_n 1, 1) := by decide +kernel
theorem dL_undo_16 : decode cL_undo 16 = .ok (.ireturn, 1) := by decide +kernel
theorem dL_restore_0 : decode cL_restore 0 = .ok (.ldc 10, 2) := by decide +kernel
theorem dL_restore_2 : decode cL_restore 2 = .ok (.istore_n 1, 1) := by decide +kernel
theorem dL_restore_3 : decode cL_restore 3 = .ok (.aload_n 0, 1) := by decide +kernel
theorem dL_restore_4 : decode cL_restore 4 = .ok (.invokevirtual 96, 3) := by decide +kernel
theorem dL_restore_7 : decode cL_restore 7 = .ok (.istore_n 1, 1) := by decide +kernel
theorem dL_restore_8 : decode cL_restore 8 = .ok (.goto 7, 3) := by decide +kernel
theorem dL_restore_11 : decode cL_restore 11 = .ok (.astore_n 2, 1) := by decide +kernel
theorem dL_restore_12 : decode cL_restore 12 = .ok (.ldc 10, 2) := by decide +kernel
theorem dL_restore_14 : decode cL_restore 14 = .ok (.ireturn, 1) := by decide +kernel
theorem dL_restore_15 : decode cL_restore 15 = .ok (.iload_n 1, 1) := by decide +kernel
theorem dL_restore_16 : decode cL_restore 16 = .ok (.ireturn, 1) := by decide +kernel
theorem dL_put_0 : decode cL_put 0 = .ok (.aload_n 0, 1) := by decide +kernel
theorem dL_put_1 : decode cL_put 1 = .ok (.iload_n 1, 1) := by decide +kernel
theorem dL_put_2 : decode cL_put 2 = .ok (.invokevirtual 99, 3) := by decide +kernel
theorem dL_put_5 : decode cL_put 5 = .ok (.pop, 1) := by decide +kernel
theorem dL_put_6 : decode cL_put 6 = .ok (.goto 6, 3) := by decide +kernel
theorem dL_put_9 : decode cL_put 9 = .ok (.astore_n 2, 1) := by decide +kernel
theorem dL_put_10 : decode cL_put 10 = .ok (.iconst 0, 1) := by decide +kernel
theorem dL_put_11 : decode cL_put 11 = .ok (.ireturn, 1) := by decide +kernel
theorem dL_put_12 : decode cL_put 12 = .ok (.iconst 1, 1) := by decide +kernel
theorem dL_put_13 : decode cL_put 13 = .ok (.ireturn, 1) := by decide +kernel
theorem dL_write_0 : decode cL_write 0 = .ok (.iconst 0, 1) := by decide +kernel
theorem dL_write_1 : decode cL_write 1 = .ok (.istore_n 2, 1) := by decide +kernel
theorem dL_write_2 : decode cL_write 2 = .ok (.iload_n 2, 1) := by decide +kernel
theorem dL_write_3 : decode cL_write 3 = .ok (.aload_n 1, 1) := by decide +kernel
theorem dL_write_4 : decode cL_write 4 = .ok (.invokevirtual 103, 3) := by decide +kernel
theorem dL_write_7 : decode cL_write 7 = .ok (.if_icmp .ge 19, 3) := by decide +kernel
theorem dL_write_10 : decode cL_write 10 = .ok (.aload_n 0, 1) := by decide +kernel
theorem dL_write_11 : decode cL_write 11 = .ok (.aload_n 1, 1) := by decide +kernel
theorem dL_write_12 : decode cL_write 12 = .ok (.iload_n 2, 1) := by decide +kernel
theorem dL_write_13 : decode cL_write 13 = .ok (.invokevirtual 108, 3) := by decide +kernel
theorem dL_write_16 : decode cL_write 16 = .ok (.invokestatic 112, 3) := by decide +kernel
theorem dL_write_19 : decode cL_write 19 = .ok (.pop, 1) := by decide +kernel
theorem dL_write_20 : decode cL_write 20 = .ok (.iinc 2 1, 3) := by decide +kernel
theorem dL_write_23 : decode cL_write 23 = .ok (.goto (-21), 3) := by decide +kernel
theorem dL_write_26 : decode cL_write 26 = .ok (.aload_n 0, 1) := by decide +kernel
theorem dL_write_27 : decode cL_write 27 = .ok (.areturn, 1) := by decide +kernel
theorem dL_act_0 : decode cL_act 0 = .ok (.iload_n 1, 1) := by decide +kernel
theorem dL_act_1 : decode cL_act 1 = .ok (.iconst 4, 1) := by decide +kernel
theorem dL_act_2 : decode cL_act 2 = .ok (.ishr, 1) := by decide +kernel
theorem dL_act_3 : decode cL_act 3 = .ok (.ldc 7, 2) := by decide +kernel
theorem dL_act_5 : decode cL_act 5 = .ok (.iand, 1) := by decide +kernel
theorem dL_act_6 : decode cL_act 6 = .ok (.istore_n 2, 1) := by decide +kernel
theorem dL_act_7 : decode cL_act 7 = .ok (.iload_n 2, 1) := by decide +kernel
theorem dL_act_8 : decode cL_act 8 = .ok (.bipush 7, 2) := by decide +kernel
theorem dL_act_10 : decode cL_act 10 = .ok (.irem, 1) := by decide +kernel
theorem dL_act_11 : decode cL_act 11 = .ok (.istore_n 3, 1) := by decide +kernel
theorem dL_act_12 : decode cL_act 12 = .ok (.iload_n 2, 1) := by decide +kernel
theorem dL_act_13 : decode cL_act 13 = .ok (.iconst 3, 1) := by decide +kernel
theorem dL_act_14 : decode cL_act 14 = .ok (.ishr, 1) := by decide +kernel
theorem dL_act_15 : decode cL_act 15 = .ok (.iconst 3, 1) := by decide +kernel
theorem dL_act_16 : decode cL_act 16 = .ok (.irem, 1) := by decide +kernel
theorem dL_act_17 : decode cL_act 17 = .ok (.istore 4, 2) := by decide +kernel
theorem dL_act_19 : decode cL_act 19 = .ok (.iload_n 1, 1) := by decide +kernel
theorem dL_act_20 : decode cL_act 20 = .ok (.bipush 15, 2) := by decide +kernel
theorem dL_act_22 : decode cL_act 22 = .ok (.iand, 1) := by decide +kernel
theorem dL_act_23 : decode cL_act 23 = .ok (.tableswitch 248 0 14 #[73, 105, 111, 132, 150, 150, 150, 158, 166, 173, 173, 187, 216, 230, 230], 73) := by decide +kernel
theorem dL_act_96 : decode cL_act 96 = .ok (.iload_n 2, 1) := by decide +kernel
theorem dL_act_97 : decode cL_act 97 = .ok (.bipush 64, 2) := by decide +kernel
theorem dL_act_99 : decode cL_act 99 = .ok (.iand, 1) := by decide +kernel
theorem dL_act_100 : decode cL_act 100 = .ok (.ifCond .ne 19, 3) := by decide +kernel
theorem dL_act_103 : decode cL_act 103 = .ok (.aload_n 0, 1) := by decide +kernel
theorem dL_act_104 : decode cL_act 104 = .ok (.iload_n 2, 1) := by decide +kernel
theorem dL_act_105 : decode cL_act 105 = .ok (.iconst 5, 1) := by decide +kernel
theorem dL_act_106 : decode cL_act 106 = .ok (.irem, 1) := by decide +kernel
theorem dL_act_107 : decode cL_act 107 = .ok (.iload_n 2, 1) := by decide +kernel
theorem dL_act_108 : decode cL_act 108 = .ok (.iconst 3, 1) := by decide +kernel
theorem dL_act_109 : decode cL_act 109 = .ok (.ishr, 1) := by decide +kernel
theorem dL_act_110 : decode cL_act 110 = .ok (.bipush 9, 2) := by decide +kernel
theorem dL_act_112 : decode cL_act 112 = .ok (.irem, 1) := by decide +kernel
theorem dL_act_113 : decode cL_act 113 = .ok (.invokestatic 116, 3) := by decide +kernel
theorem dL_act_116 : decode cL_act 116 = .ok (.goto 11, 3) := by decide +kernel
theorem dL_act_119 : decode cL_act 119 = .ok (.aload_n 0, 1) := by decide +kernel
theorem dL_act_120 : decode cL_act 120 = .ok (.iload_n 2, 1) := by decide +kernel
theorem dL_act_121 : decode cL_act 121 = .ok (.bipush 6, 2) := by decide +kernel
theorem dL_act_123 : decode cL_act 123 = .ok (.irem, 1) := by decide +kernel
theorem dL_act_124 : decode cL_act 124 = .ok (.invokestatic 119, 3) := by decide +kernel
theorem dL_act_127 : decode cL_act 127 = .ok (.ireturn, 1) := by decide +kernel
theorem dL_act_128 : decode cL_act 128 = .ok (.aload_n 0, 1) := by decide +kernel
theorem dL_act_129 : decode cL_act 129 = .ok (.iload_n 3, 1) := by decide +kernel
theorem dL_act_130 : decode cL_act 130 = .ok (.invokestatic 122, 3) := by decide +kernel
theorem dL_act_133 : decode cL_act 133 = .ok (.ireturn, 1) := by decide +kernel
theorem dL_act_134 : decode cL_act 134 = .ok (.iload_n 2, 1) := by decide +kernel
theorem dL_act_135 : decode cL_act 135 = .ok (.bipush 64, 2) := by decide +kernel
theorem dL_act_137 : decode cL_act 137 = .ok (.iand, 1) := by decide +kernel
theorem dL_act_138 : decode cL_act 138 = .ok (.ifCond .ne 11, 3) := by decide +kernel
theorem dL_act_141 : decode cL_act 141 = .ok (.aload_n 0, 1) := by decide +kernel
theorem dL_act_142 : decode cL_act 142 = .ok (.iload_n 3, 1) := by decide +kernel
theorem dL_act_143 : decode cL_act 143 = .ok (.invokestatic 124, 3) := by decide +kernel
theorem dL_act_146 : decode cL_act 146 = .ok (.goto 8, 3) := by decide +kernel
theorem dL_act_149 : decode cL_act 149 = .ok (.aload_n 0, 1) := by decide +kernel
theorem dL_act_150 : decode cL_act 150 = .ok (.iload_n 3, 1) := by decide +kernel
theorem dL_act_151 : decode cL_act 151 = .ok (.invokestatic 122, 3) := by decide +kernel
theorem dL_act_154 : decode cL_act 154 = .ok (.ireturn, 1) := by decide +kernel
theorem dL_act_155 : decode cL_act 155 = .ok (.aload_n 0, 1) := by decide +kernel
theorem dL_act_156 : decode cL_act 156 = .ok (.iload_n 3, 1) := by decide +kernel
theorem dL_act_157 : decode cL_act 157 = .ok (.iload_n 2, 1) := by decide +kernel
theorem dL_act_158 : decode cL_act 158 = .ok (.iconst 2, 1) := by decide +kernel
theorem dL_act_159 : decode cL_act 159 = .ok (.ishr, 1) := by decide +kernel
theorem dL_act_160 : decode cL_act 160 = .ok (.bipush 66, 2) := by decide +kernel
theorem dL_act_162 : decode cL_act 162 = .ok (.irem, 1) := by decide +kernel
theorem dL_act_163 : decode cL_act 163 = .ok (.iload_n 2, 1) := by decide +kernel
theorem dL_act_164 : decode cL_act 164 = .ok (.iconst 4, 1) := by decide +kernel
theorem dL_act_165 : decode cL_act 165 = .ok (.ishr, 1) := by decide +kernel
theorem dL_act_166 : decode cL_act 166 = .ok (.bipush 66, 2) := by decide +kernel
theorem dL_act_168 : decode cL_act 168 = .ok (.irem, 1) := by decide +kernel
theorem dL_act_169 : decode cL_act 169 = .ok (.invokestatic 126, 3) := by decide +kernel
theorem dL_act_172 : decode cL_act 172 = .ok (.ireturn, 1) := by decide +kernel
theorem dL_act_173 : decode cL_act 173 = .ok (.aload_n 0, 1) := by decide +kernel
theorem dL_act_174 : decode cL_act 174 = .ok (.iload 4, 2) := by decide +kernel
theorem dL_act_176 : decode cL_act 176 = .ok (.iload_n 3, 1) := by decide +kernel
theorem dL_act_177 : decode cL_act 177 = .ok (.invokestatic 129, 3) := by decide +kernel
theorem dL_act_180 : decode cL_act 180 = .ok (.ireturn, 1) := by decide +kernel
theorem dL_act_181 : decode cL_act 181 = .ok (.aload_n 0, 1) := by decide +kernel
theorem dL_act_182 : decode cL_act 182 = .ok (.iload 4, 2) := by decide +kernel
theorem dL_act_184 : decode cL_act 184 = .ok (.iload_n 3, 1) := by decide +kernel
theorem dL_act_185 : decode cL_act 185 = .ok (.invokestatic 131, 3) := by decide +kernel
theorem dL_act_188 : decode cL_act 188 = .ok (.ireturn, 1) := by decide +kernel
theorem dL_act_189 : decode cL_act 189 = .ok (.aload_n 0, 1) := by decide +kernel
theorem dL_act_190 : decode cL_act 190 = .ok (.iload 4, 2) := by decide +kernel
theorem dL_act_192 : decode cL_act 192 = .ok (.invokestatic 133, 3) := by decide +kernel
theorem dL_act_195 : decode cL_act 195 = .ok (.ireturn, 1) := by decide +kernel
theorem dL_act_196 : decode cL_act 196 = .ok (.aload_n 0, 1) := by decide +kernel
theorem dL_act_197 : decode cL_act 197 = .ok (.iload 4, 2) := by decide +kernel
theorem dL_act_199 : decode cL_act 199 = .ok (.iload_n 3, 1) := by decide +kernel
theorem dL_act_200 : decode cL_act 200 = .ok (.iload_n 2, 1) := by decide +kernel
theorem dL_act_201 : decode cL_act 201 = .ok (.iconst 4, 1) := by decide +kernel
theorem dL_act_202 : decode cL_act 202 = .ok (.ishr, 1) := by decide +kernel
theorem dL_act_203 : decode cL_act 203 = .ok (.bipush 65, 2) := by decide +kernel
theorem dL_act_205 : decode cL_act 205 = .ok (.irem, 1) := by decide +kernel
theorem dL_act_206 : decode cL_act 206 = .ok (.invokestatic 135, 3) := by decide +kernel
theorem dL_act_209 : decode cL_act 209 = .ok (.ireturn, 1) := by decide +kernel
theorem dL_act_210 : decode cL_act 210 = .ok (.iload_n 2, 1) := by decide +kernel
theorem dL_act_211 : decode cL_act 211 = .ok (.bipush 64, 2) := by decide +kernel
theorem dL_act_213 : decode cL_act 213 = .ok (.iand, 1) := by decide +kernel
theorem dL_act_214 : decode cL_act 214 = .ok (.ifCond .ne 18, 3) := by decide +kernel
theorem dL_act_217 : decode cL_act 217 = .ok (.aload_n 0, 1) := by decide +kernel
theorem dL_act_218 : decode cL_act 218 = .ok (.iload 4, 2) := by decide +kernel
theorem dL_act_220 : decode cL_act 220 = .ok (.iload_n 2, 1) := by decide +kernel
theorem dL_act_221 : decode cL_act 221 = .ok (.iconst 5, 1) := by decide +kernel
theorem dL_act_222 : decode cL_act 222 = .ok (.ishr, 1) := by decide +kernel
theorem dL_act_223 : decode cL_act 223 = .ok (.iconst 3, 1) := by decide +kernel
theorem dL_act_224 : decode cL_act 224 = .ok (.irem, 1) := by decide +kernel
theorem dL_act_225 : decode cL_act 225 = .ok (.iload_n 3, 1) := by decide +kernel
theorem dL_act_226 : decode cL_act 226 = .ok (.invokestatic 137, 3) := by decide +kernel
theorem dL_act_229 : decode cL_act 229 = .ok (.goto 9, 3) := by decide +kernel
theorem dL_act_232 : decode cL_act 232 = .ok (.aload_n 0, 1) := by decide +kernel
theorem dL_act_233 : decode cL_act 233 = .ok (.iload 4, 2) := by decide +kernel
theorem dL_act_235 : decode cL_act 235 = .ok (.invokestatic 139, 3) := by decide +kernel
theorem dL_act_238 : decode cL_act 238 = .ok (.ireturn, 1) := by decide +kernel
theorem dL_act_239 : decode cL_act 239 = .ok (.aload_n 0, 1) := by decide +kernel
theorem dL_act_240 : decode cL_act 240 = .ok (.iload_n 3, 1) := by decide +kernel
theorem dL_act_241 : decode cL_act 241 = .ok (.iload 4, 2) := by decide +kernel
theorem dL_act_243 : decode cL_act 243 = .ok (.iload_n 2, 1) := by decide +kernel
theorem dL_act_244 : decode cL_act 244 = .ok (.iconst 4, 1) := by decide +kernel
theorem dL_act_245 : decode cL_act 245 = .ok (.ishr, 1) := by decide +kernel
theorem dL_act_246 : decode cL_act 246 = .ok (.bipush 32, 2) := by decide +kernel
theorem dL_act_248 : decode cL_act 248 = .ok (.irem, 1) := by decide +kernel
theorem dL_act_249 : decode cL_act 249 = .ok (.invokestatic 141, 3) := by decide +kernel
theorem dL_act_252 : decode cL_act 252 = .ok (.ireturn, 1) := by decide +kernel
theorem dL_act_253 : decode cL_act 253 = .ok (.aload_n 0, 1) := by decide +kernel
theorem dL_act_254 : decode cL_act 254 = .ok (.getstatic 143, 3) := by decide +kernel
theorem dL_act_257 : decode cL_act 257 = .ok (.iload_n 2, 1) := by decide +kernel
theorem dL_act_258 : decode cL_act 258 = .ok (.getstatic 143, 3) := by decide +kernel
theorem dL_act_261 : decode cL_act 261 = .ok (.arraylength, 1) := by decide +kernel
theorem dL_act_262 : decode cL_act 262 = .ok (.irem, 1) := by decide +kernel
theorem dL_act_263 : decode cL_act 263 = .ok (.aaload, 1) := by decide +kernel
theorem dL_act_264 : decode cL_act 264 = .ok (.invokestatic 147, 3) := by decide +kernel
theorem dL_act_267 : decode cL_act 267 = .ok (.invokestatic 151, 3) := by decide +kernel
theorem dL_act_270 : decode cL_act 270 = .ok (.ireturn, 1) := by decide +kernel
theorem dL_act_271 : decode cL_act 271 = .ok (.iload_n 2, 1) := by decide +kernel
theorem dL_act_272 : decode cL_act 272 = .ok (.iconst 3, 1) := by decide +kernel
theorem dL_act_273 : decode cL_act 273 = .ok (.iand, 1) := by decide +kernel
theorem dL_act_274 : decode cL_act 274 = .ok (.ifCond .ne 10, 3) := by decide +kernel
theorem dL_act_277 : decode cL_act 277 = .ok (.aload_n 0, 1) := by decide +kernel
theorem dL_act_278 : decode cL_act 278 = .ok (.invokevirtual 154, 3) := by decide +kernel
theorem dL_act_281 : decode cL_act 281 = .ok (.goto 21, 3) := by decide +kernel
theorem dL_act_284 : decode cL_act 284 = .ok (.iload_n 2, 1) := by decide +kernel
theorem dL_act_285 : decode cL_act 285 = .ok (.iconst 3, 1) := by decide +kernel
theorem dL_act_286 : decode cL_act 286 = .ok (.iand, 1) := by decide +kernel
theorem dL_act_287 : decode cL_act 287 = .ok (.iconst 1, 1) := by decide +kernel
theorem dL_act_288 : decode cL_act 288 = .ok (.if_icmp .ne 10, 3) := by decide +kernel
theorem dL_act_291 : decode cL_act 291 = .ok (.aload_n 0, 1) := by decide +kernel
theorem dL_act_292 : decode cL_act 292 = .ok (.invokestatic 157, 3) := by decide +kernel
theorem dL_act_295 : decode cL_act 295 = .ok (.goto 7, 3) := by decide +kernel
theorem dL_act_298 : decode cL_act 298 = .ok (.aload_n 0, 1) := by decide +kernel
theorem dL_act_299 : decode cL_act 299 = .ok (.invokestatic 159, 3) := by decide +kernel
theorem dL_act_302 : decode cL_act 302 = .ok (.ireturn, 1) := by decide +kernel
theorem dL_digest_0 : decode cL_digest 0 = .ok (.ldc2_w 161, 3) := by decide +kernel
theorem dL_digest_3 : decode cL_digest 3 = .ok (.aload_n 0, 1) := by decide +kernel
theorem dL_digest_4 : decode cL_digest 4 = .ok (.invokevirtual 163, 3) := by decide +kernel
theorem dL_digest_7 : decode cL_digest 7 = .ok (.i2l, 1) := by decide +kernel
theorem dL_digest_8 : decode cL_digest 8 = .ok (.lmul, 1) := by decide +kernel
theorem dL_digest_9 : decode cL_digest 9 = .ok (.ldc2_w 166, 3) := by decide +kernel
theorem dL_digest_12 : decode cL_digest 12 = .ok (.aload_n 0, 1) := by decide +kernel
theorem dL_digest_13 : decode cL_digest 13 = .ok (.invokevirtual 168, 3) := by decide +kernel
theorem dL_digest_16 : decode cL_digest 16 = .ok (.i2l, 1) := by decide +kernel
theorem dL_digest_17 : decode cL_digest 17 = .ok (.lmul, 1) := by decide +kernel
theorem dL_digest_18 : decode cL_digest 18 = .ok (.ladd, 1) := by decide +kernel
theorem dL_digest_19 : decode cL_digest 19 = .ok (.ldc2_w 171, 3) := by decide +kernel
theorem dL_digest_22 : decode cL_digest 22 = .ok (.aload_n 0, 1) := by decide +kernel
theorem dL_digest_23 : decode cL_digest 23 = .ok (.invokevirtual 173, 3) := by decide +kernel
theorem dL_digest_26 : decode cL_digest 26 = .ok (.i2l, 1) := by decide +kernel
theorem dL_digest_27 : decode cL_digest 27 = .ok (.lmul, 1) := by decide +kernel
theorem dL_digest_28 : decode cL_digest 28 = .ok (.ladd, 1) := by decide +kernel
theorem dL_digest_29 : decode cL_digest 29 = .ok (.aload_n 0, 1) := by decide +kernel
theorem dL_digest_30 : decode cL_digest 30 = .ok (.invokevirtual 176, 3) := by decide +kernel
theorem dL_digest_33 : decode cL_digest 33 = .ok (.i2l, 1) := by decide +kernel
theorem dL_digest_34 : decode cL_digest 34 = .ok (.ladd, 1) := by decide +kernel
theorem dL_digest_35 : decode cL_digest 35 = .ok (.lstore_n 1, 1) := by decide +kernel
theorem dL_digest_36 : decode cL_digest 36 = .ok (.iconst 0, 1) := by decide +kernel
theorem dL_digest_37 : decode cL_digest 37 = .ok (.istore_n 3, 1) := by decide +kernel
theorem dL_digest_38 : decode cL_digest 38 = .ok (.iload_n 3, 1) := by decide +kernel
theorem dL_digest_39 : decode cL_digest 39 = .ok (.aload_n 0, 1) := by decide +kernel
theorem dL_digest_40 : decode cL_digest 40 = .ok (.invokevirtual 176, 3) := by decide +kernel
theorem dL_digest_43 : decode cL_digest 43 = .ok (.if_icmp .ge 33, 3) := by decide +kernel
theorem dL_digest_46 : decode cL_digest 46 = .ok (.ldc2_w 179, 3) := by decide +kernel
theorem dL_digest_49 : decode cL_digest 49 = .ok (.ldc2_w 179, 3) := by decide +kernel
theorem dL_digest_52 : decode cL_digest 52 = .ok (.lload_n 1, 1) := by decide +kernel
theorem dL_digest_53 : decode cL_digest 53 = .ok (.lmul, 1) := by decide +kernel
theorem dL_digest_54 : decode cL_digest 54 = .ok (.aload_n 0, 1) := by decide +kernel
theorem dL_digest_55 : decode cL_digest 55 = .ok (.iload_n 3, 1) := by decide +kernel
theorem dL_digest_56 : decode cL_digest 56 = .ok (.invokevirtual 181, 3) := by decide +kernel
theorem dL_digest_59 : decode cL_digest 59 = .ok (.i2l, 1) := by decide +kernel
theorem dL_digest_60 : decode cL_digest 60 = .ok (.ladd, 1) := by decide +kernel
theorem dL_digest_61 : decode cL_digest 61 = .ok (.lmul, 1) := by decide +kernel
theorem dL_digest_62 : decode cL_digest 62 = .ok (.aload_n 0, 1) := by decide +kernel
theorem dL_digest_63 : decode cL_digest 63 = .ok (.iload_n 3, 1) := by decide +kernel
theorem dL_digest_64 : decode cL_digest 64 = .ok (.invokevirtual 184, 3) := by decide +kernel
theorem dL_digest_67 : decode cL_digest 67 = .ok (.i2l, 1) := by decide +kernel
theorem dL_digest_68 : decode cL_digest 68 = .ok (.ladd, 1) := by decide +kernel
theorem dL_digest_69 : decode cL_digest 69 = .ok (.lstore_n 1, 1) := by decide +kernel
theorem dL_digest_70 : decode cL_digest 70 = .ok (.iinc 3 1, 3) := by decide +kernel
theorem dL_digest_73 : decode cL_digest 73 = .ok (.goto (-35), 3) := by decide +kernel
theorem dL_digest_76 : decode cL_digest 76 = .ok (.iconst 0, 1) := by decide +kernel
theorem dL_digest_77 : decode cL_digest 77 = .ok (.istore_n 3, 1) := by decide +kernel
theorem dL_digest_78 : decode cL_digest 78 = .ok (.iload_n 3, 1) := by decide +kernel
theorem dL_digest_79 : decode cL_digest 79 = .ok (.aload_n 0, 1) := by decide +kernel
theorem dL_digest_80 : decode cL_digest 80 = .ok (.invokevirtual 187, 3) := by decide +kernel
theorem dL_digest_83 : decode cL_digest 83 = .ok (.if_icmp .ge 145, 3) := by decide +kernel
theorem dL_digest_86 : decode cL_digest 86 = .ok (.ldc2_w 179, 3) := by decide +kernel
theorem dL_digest_89 : decode cL_digest 89 = .ok (.ldc2_w 179, 3) := by decide +kernel
theorem dL_digest_92 : decode cL_digest 92 = .ok (.ldc2_w 179, 3) := by decide +kernel
theorem dL_digest_95 : decode cL_digest 95 = .ok (.ldc2_w 179, 3) := by decide +kernel
theorem dL_digest_98 : decode cL_digest 98 = .ok (.lload_n 1, 1) := by decide +kernel
theorem dL_digest_99 : decode cL_digest 99 = .ok (.lmul, 1) := by decide +kernel
theorem dL_digest_100 : decode cL_digest 100 = .ok (.aload_n 0, 1) := by decide +kernel
theorem dL_digest_101 : decode cL_digest 101 = .ok (.iload_n 3, 1) := by decide +kernel
theorem dL_digest_102 : decode cL_digest 102 = .ok (.invokevirtual 190, 3) := by decide +kernel
theorem dL_digest_105 : decode cL_digest 105 = .ok (.ladd, 1) := by decide +kernel
theorem dL_digest_106 : decode cL_digest 106 = .ok (.lmul, 1) := by decide +kernel
theorem dL_digest_107 : decode cL_digest 107 = .ok (.aload_n 0, 1) := by decide +kernel
theorem dL_digest_108 : decode cL_digest 108 = .ok (.iload_n 3, 1) := by decide +kernel
theorem dL_digest_109 : decode cL_digest 109 = .ok (.invokevirtual 194, 3) := by decide +kernel
theorem dL_digest_112 : decode cL_digest 112 = .ok (.i2l, 1) := by decide +kernel
theorem dL_digest_113 : decode cL_digest 113 = .ok (.ladd, 1) := by decide +kernel
theorem dL_digest_114 : decode cL_digest 114 = .ok (.lmul, 1) := by decide +kernel
theorem dL_digest_115 : decode cL_digest 115 = .ok (.aload_n 0, 1) := by decide +kernel
theorem dL_digest_116 : decode cL_digest 116 = .ok (.iload_n 3, 1) := by decide +kernel
theorem dL_digest_117 : decode cL_digest 117 = .ok (.invokevirtual 197, 3) := by decide +kernel
theorem dL_digest_120 : decode cL_digest 120 = .ok (.i2l, 1) := by decide +kernel
theorem dL_digest_121 : decode cL_digest 121 = .ok (.ladd, 1) := by decide +kernel
theorem dL_digest_122 : decode cL_digest 122 = .ok (.lmul, 1) := by decide +kernel
theorem dL_digest_123 : decode cL_digest 123 = .ok (.aload_n 0, 1) := by decide +kernel
theorem dL_digest_124 : decode cL_digest 124 = .ok (.iload_n 3, 1) := by decide +kernel
theorem dL_digest_125 : decode cL_digest 125 = .ok (.invokevirtual 200, 3) := by decide +kernel
theorem dL_digest_128 : decode cL_digest 128 = .ok (.ifCond .eq 7, 3) := by decide +kernel
theorem dL_digest_131 : decode cL_digest 131 = .ok (.iconst 1, 1) := by decide +kernel
theorem dL_digest_132 : decode cL_digest 132 = .ok (.goto 16, 3) := by decide +kernel
theorem dL_digest_135 : decode cL_digest 135 = .ok (.aload_n 0, 1) := by decide +kernel
theorem dL_digest_136 : decode cL_digest 136 = .ok (.iload_n 3, 1) := by decide +kernel
theorem dL_digest_137 : decode cL_digest 137 = .ok (.invokevirtual 203, 3) := by decide +kernel
theorem dL_digest_140 : decode cL_digest 140 = .ok (.ifCond .eq 7, 3) := by decide +kernel
theorem dL_digest_143 : decode cL_digest 143 = .ok (.iconst 2, 1) := by decide +kernel
theorem dL_digest_144 : decode cL_digest 144 = .ok (.goto 4, 3) := by decide +kernel
theorem dL_digest_147 : decode cL_digest 147 = .ok (.iconst 3, 1) := by decide +kernel
theorem dL_digest_148 : decode cL_digest 148 = .ok (.i2l, 1) := by decide +kernel
theorem dL_digest_149 : decode cL_digest 149 = .ok (.ladd, 1) := by decide +kernel
theorem dL_digest_150 : decode cL_digest 150 = .ok (.lstore_n 1, 1) := by decide +kernel
theorem dL_digest_151 : decode cL_digest 151 = .ok (.ldc2_w 179, 3) := by decide +kernel
theorem dL_digest_154 : decode cL_digest 154 = .ok (.ldc2_w 179, 3) := by decide +kernel
theorem dL_digest_157 : decode cL_digest 157 = .ok (.lload_n 1, 1) := by decide +kernel
theorem dL_digest_158 : decode cL_digest 158 = .ok (.lmul, 1) := by decide +kernel
theorem dL_digest_159 : decode cL_digest 159 = .ok (.aload_n 0, 1) := by decide +kernel
theorem dL_digest_160 : decode cL_digest 160 = .ok (.iload_n 3, 1) := by decide +kernel
theorem dL_digest_161 : decode cL_digest 161 = .ok (.invokevirtual 206, 3) := by decide +kernel
theorem dL_digest_164 : decode cL_digest 164 = .ok (.i2l, 1) := by decide +kernel
theorem dL_digest_165 : decode cL_digest 165 = .ok (.ladd, 1) := by decide +kernel
theorem dL_digest_166 : decode cL_digest 166 = .ok (.lmul, 1) := by decide +kernel
theorem dL_digest_167 : decode cL_digest 167 = .ok (.aload_n 0, 1) := by decide +kernel
theorem dL_digest_168 : decode cL_digest 168 = .ok (.iload_n 3, 1) := by decide +kernel
theorem dL_digest_169 : decode cL_digest 169 = .ok (.invokevirtual 209, 3) := by decide +kernel
theorem dL_digest_172 : decode cL_digest 172 = .ok (.i2l, 1) := by decide +kernel
theorem dL_digest_173 : decode cL_digest 173 = .ok (.ladd, 1) := by decide +kernel
theorem dL_digest_174 : decode cL_digest 174 = .ok (.lstore_n 1, 1) := by decide +kernel
theorem dL_digest_175 : decode cL_digest 175 = .ok (.iconst 0, 1) := by decide +kernel
theorem dL_digest_176 : decode cL_digest 176 = .ok (.istore 4, 2) := by decide +kernel
theorem dL_digest_178 : decode cL_digest 178 = .ok (.iload 4, 2) := by decide +kernel
theorem dL_digest_180 : decode cL_digest 180 = .ok (.aload_n 0, 1) := by decide +kernel
theorem dL_digest_181 : decode cL_digest 181 = .ok (.iload_n 3, 1) := by decide +kernel
theorem dL_digest_182 : decode cL_digest 182 = .ok (.invokevirtual 212, 3) := by decide +kernel
theorem dL_digest_185 : decode cL_digest 185 = .ok (.if_icmp .ge 37, 3) := by decide +kernel
theorem dL_digest_188 : decode cL_digest 188 = .ok (.ldc2_w 179, 3) := by decide +kernel
theorem dL_digest_191 : decode cL_digest 191 = .ok (.ldc2_w 179, 3) := by decide +kernel
theorem dL_digest_194 : decode cL_digest 194 = .ok (.lload_n 1, 1) := by decide +kernel
theorem dL_digest_195 : decode cL_digest 195 = .ok (.lmul, 1) := by decide +kernel
theorem dL_digest_196 : decode cL_digest 196 = .ok (.aload_n 0, 1) := by decide +kernel
theorem dL_digest_197 : decode cL_digest 197 = .ok (.iload_n 3, 1) := by decide +kernel
theorem dL_digest_198 : decode cL_digest 198 = .ok (.iload 4, 2) := by decide +kernel
theorem dL_digest_200 : decode cL_digest 200 = .ok (.invokevirtual 63, 3) := by decide +kernel
theorem dL_digest_203 : decode cL_digest 203 = .ok (.i2l, 1) := by decide +kernel
theorem dL_digest_204 : decode cL_digest 204 = .ok (.ladd, 1) := by decide +kernel
theorem dL_digest_205 : decode cL_digest 205 = .ok (.lmul, 1) := by decide +kernel
theorem dL_digest_206 : decode cL_digest 206 = .ok (.aload_n 0, 1) := by decide +kernel
theorem dL_digest_207 : decode cL_digest 207 = .ok (.iload_n 3, 1) := by decide +kernel
theorem dL_digest_208 : decode cL_digest 208 = .ok (.iload 4, 2) := by decide +kernel
theorem dL_digest_210 : decode cL_digest 210 = .ok (.invokevirtual 66, 3) := by decide +kernel
theorem dL_digest_213 : decode cL_digest 213 = .ok (.i2l, 1) := by decide +kernel
theorem dL_digest_214 : decode cL_digest 214 = .ok (.ladd, 1) := by decide +kernel
theorem dL_digest_215 : decode cL_digest 215 = .ok (.lstore_n 1, 1) := by decide +kernel
theorem dL_digest_216 : decode cL_digest 216 = .ok (.iinc 4 1, 3) := by decide +kernel
theorem dL_digest_219 : decode cL_digest 219 = .ok (.goto (-41), 3) := by decide +kernel
theorem dL_digest_222 : decode cL_digest 222 = .ok (.iinc 3 1, 3) := by decide +kernel
theorem dL_digest_225 : decode cL_digest 225 = .ok (.goto (-147), 3) := by decide +kernel
theorem dL_digest_228 : decode cL_digest 228 = .ok (.lload_n 1, 1) := by decide +kernel
theorem dL_digest_229 : decode cL_digest 229 = .ok (.lreturn, 1) := by decide +kernel
theorem dL_areMembers_0 : decode cL_areMembers 0 = .ok (.iconst 0, 1) := by decide +kernel
theorem dL_areMembers_1 : decode cL_areMembers 1 = .ok (.istore_n 1, 1) := by decide +kernel
theorem dL_areMembers_2 : decode cL_areMembers 2 = .ok (.iconst 0, 1) := by decide +kernel
theorem dL_areMembers_3 : decode cL_areMembers 3 = .ok (.istore_n 2, 1) := by decide +kernel
theorem dL_areMembers_4 : decode cL_areMembers 4 = .ok (.iconst 4, 1) := by decide +kernel
theorem dL_areMembers_5 : decode cL_areMembers 5 = .ok (.newarray .int, 2) := by decide +kernel
theorem dL_areMembers_7 : decode cL_areMembers 7 = .ok (.astore_n 3, 1) := by decide +kernel
theorem dL_areMembers_8 : decode cL_areMembers 8 = .ok (.iconst 1, 1) := by decide +kernel
theorem dL_areMembers_9 : decode cL_areMembers 9 = .ok (.istore 4, 2) := by decide +kernel
theorem dL_areMembers_11 : decode cL_areMembers 11 = .ok (.iconst 0, 1) := by decide +kernel
theorem dL_areMembers_12 : decode cL_areMembers 12 = .ok (.istore 5, 2) := by decide +kernel
theorem dL_areMembers_14 : decode cL_areMembers 14 = .ok (.iload 4, 2) := by decide +kernel
theorem dL_areMembers_16 : decode cL_areMembers 16 = .ok (.ifCond .eq 104, 3) := by decide +kernel
theorem dL_areMembers_19 : decode cL_areMembers 19 = .ok (.iload 5, 2) := by decide +kernel
theorem dL_areMembers_21 : decode cL_areMembers 21 = .ok (.aload_n 0, 1) := by decide +kernel
theorem dL_areMembers_22 : decode cL_areMembers 22 = .ok (.invokevirtual 176, 3) := by decide +kernel
theorem dL_areMembers_25 : decode cL_areMembers 25 = .ok (.if_icmp .ge 95, 3) := by decide +kernel
theorem dL_areMembers_28 : decode cL_areMembers 28 = .ok (.aload_n 0, 1) := by decide +kernel
theorem dL_areMembers_29 : decode cL_areMembers 29 = .ok (.iload 5, 2) := by decide +kernel
theorem dL_areMembers_31 : decode cL_areMembers 31 = .ok (.invokevirtual 215, 3) := by decide +kernel
theorem dL_areMembers_34 : decode cL_areMembers 34 = .ok (.istore 6, 2) := by decide +kernel
theorem dL_areMembers_36 : decode cL_areMembers 36 = .ok (.iload_n 1, 1) := by decide +kernel
theorem dL_areMembers_37 : decode cL_areMembers 37 = .ok (.iload 6, 2) := by decide +kernel
theorem dL_areMembers_39 : decode cL_areMembers 39 = .ok (.ifCond .eq 7, 3) := by decide +kernel
theorem dL_areMembers_42 : decode cL_areMembers 42 = .ok (.iconst 1, 1) := by decide +kernel
theorem dL_areMembers_43 : decode cL_areMembers 43 = .ok (.goto 4, 3) := by decide +kernel
theorem dL_areMembers_46 : decode cL_areMembers 46 = .ok (.iconst 0, 1) := by decide +kernel
theorem dL_areMembers_47 : decode cL_areMembers 47 = .ok (.iadd, 1) := by decide +kernel
theorem dL_areMembers_48 : decode cL_areMembers 48 = .ok (.istore_n 1, 1) := by decide +kernel
theorem dL_areMembers_49 : decode cL_areMembers 49 = .ok (.iload_n 2, 1) := by decide +kernel
theorem dL_areMembers_50 : decode cL_areMembers 50 = .ok (.aload_n 0, 1) := by decide +kernel
theorem dL_areMembers_51 : decode cL_areMembers 51 = .ok (.iload 5, 2) := by decide +kernel
theorem dL_areMembers_53 : decode cL_areMembers 53 = .ok (.invokevirtual 184, 3) := by decide +kernel
theorem dL_areMembers_56 : decode cL_areMembers 56 = .ok (.iadd, 1) := by decide +kernel
theorem dL_areMembers_57 : decode cL_areMembers 57 = .ok (.istore_n 2, 1) := by decide +kernel
theorem dL_areMembers_58 : decode cL_areMembers 58 = .ok (.aload_n 3, 1) := by decide +kernel
theorem dL_areMembers_59 : decode cL_areMembers 59 = .ok (.aload_n 0, 1) := by decide +kernel
theorem dL_areMembers_60 : decode cL_areMembers 60 = .ok (.iload 5, 2) := by decide +kernel
theorem dL_areMembers_62 : decode cL_areMembers 62 = .ok (.invokevirtual 181, 3) := by decide +kernel
theorem dL_areMembers_65 : decode cL_areMembers 65 = .ok (.dup2, 1) := by decide +kernel
theorem dL_areMembers_66 : decode cL_areMembers 66 = .ok (.iaload, 1) := by decide +kernel
theorem dL_areMembers_67 : decode cL_areMembers 67 = .ok (.iload 6, 2) := by decide +kernel
theorem dL_areMembers_69 : decode cL_areMembers 69 = .ok (.ifCond .eq 12, 3) := by decide +kernel
theorem dL_areMembers_72 : decode cL_areMembers 72 = .ok (.aload_n 0, 1) := by decide +kernel
theorem dL_areMembers_73 : decode cL_areMembers 73 = .ok (.iload 5, 2) := by decide +kernel
theorem dL_areMembers_75 : decode cL_areMembers 75 = .ok (.invokevirtual 184, 3) := by decide +kernel
theorem dL_areMembers_78 : decode cL_areMembers 78 = .ok (.goto 4, 3) := by decide +kernel
theorem dL_areMembers_81 : decode cL_areMembers 81 = .ok (.iconst 0, 1) := by decide +kernel
theorem dL_areMembers_82 : decode cL_areMembers 82 = .ok (.iadd, 1) := by decide +kernel
theorem dL_areMembers_83 : decode cL_areMembers 83 = .ok (.iastore, 1) := by decide +kernel
theorem dL_areMembers_84 : decode cL_areMembers 84 = .ok (.iload 6, 2) := by decide +kernel
theorem dL_areMembers_86 : decode cL_areMembers 86 = .ok (.aload_n 0, 1) := by decide +kernel
theorem dL_areMembers_87 : decode cL_areMembers 87 = .ok (.invokevirtual 163, 3) := by decide +kernel
theorem dL_areMembers_90 : decode cL_areMembers 90 = .ok (.iload 5, 2) := by decide +kernel
theorem dL_areMembers_92 : decode cL_areMembers 92 = .ok (.ishr, 1) := by decide +kernel
theorem dL_areMembers_93 : decode cL_areMembers 93 = .ok (.iconst 1, 1) := by decide +kernel
theorem dL_areMembers_94 : decode cL_areMembers 94 = .ok (.iand, 1) := by decide +kernel
theorem dL_areMembers_95 : decode cL_areMembers 95 = .ok (.iconst 1, 1) := by decide +kernel
theorem dL_areMembers_96 : decode cL_areMembers 96 = .ok (.if_icmp .ne 7, 3) := by decide +kernel
theorem dL_areMembers_99 : decode cL_areMembers 99 = .ok (.iconst 1, 1) := by decide +kernel
theorem dL_areMembers_100 : decode cL_areMembers 100 = .ok (.goto 4, 3) := by decide +kernel
theorem dL_areMembers_103 : decode cL_areMembers 103 = .ok (.iconst 0, 1) := by decide +kernel
theorem dL_areMembers_104 : decode cL_areMembers 104 = .ok (.if_icmp .ne 7, 3) := by decide +kernel
theorem dL_areMembers_107 : decode cL_areMembers 107 = .ok (.iconst 1, 1) := by decide +kernel
theorem dL_areMembers_108 : decode cL_areMembers 108 = .ok (.goto 4, 3) := by decide +kernel
theorem dL_areMembers_111 : decode cL_areMembers 111 = .ok (.iconst 0, 1) := by decide +kernel
theorem dL_areMembers_112 : decode cL_areMembers 112 = .ok (.istore 4, 2) := by decide +kernel
theorem dL_areMembers_114 : decode cL_areMembers 114 = .ok (.iinc 5 1, 3) := by decide +kernel
theorem dL_areMembers_117 : decode cL_areMembers 117 = .ok (.goto (-103), 3) := by decide +kernel
theorem dL_areMembers_120 : decode cL_areMembers 120 = .ok (.iconst 0, 1) := by decide +kernel
theorem dL_areMembers_121 : decode cL_areMembers 121 = .ok (.istore 5, 2) := by decide +kernel
theorem dL_areMembers_123 : decode cL_areMembers 123 = .ok (.iconst 0, 1) := by decide +kernel
theorem dL_areMembers_124 : decode cL_areMembers 124 = .ok (.istore 6, 2) := by decide +kernel
theorem dL_areMembers_126 : decode cL_areMembers 126 = .ok (.iload 4, 2) := by decide +kernel
theorem dL_areMembers_128 : decode cL_areMembers 128 = .ok (.ifCond .eq 55, 3) := by decide +kernel
theorem dL_areMembers_131 : decode cL_areMembers 131 = .ok (.iload 6, 2) := by decide +kernel
theorem dL_areMembers_133 : decode cL_areMembers 133 = .ok (.iconst 4, 1) := by decide +kernel
theorem dL_areMembers_134 : decode cL_areMembers 134 = .ok (.if_icmp .ge 49, 3) := by decide +kernel
theorem dL_areMembers_137 : decode cL_areMembers 137 = .ok (.aload_n 3, 1) := by decide +kernel
theorem dL_areMembers_138 : decode cL_areMembers 138 = .ok (.iload 6, 2) := by decide +kernel
theorem dL_areMembers_140 : decode cL_areMembers 140 = .ok (.iaload, 1) := by decide +kernel
theorem dL_areMembers_141 : decode cL_areMembers 141 = .ok (.aload_n 3, 1) := by decide +kernel
theorem dL_areMembers_142 : decode cL_areMembers 142 = .ok (.iload 5, 2) := by decide +kernel
theorem dL_areMembers_144 : decode cL_areMembers 144 = .ok (.iaload, 1) := by decide +kernel
theorem dL_areMembers_145 : decode cL_areMembers 145 = .ok (.if_icmp .le 8, 3) := by decide +kernel
theorem dL_areMembers_148 : decode cL_areMembers 148 = .ok (.iload 6, 2) := by decide +kernel
theorem dL_areMembers_150 : decode cL_areMembers 150 = .ok (.goto 5, 3) := by decide +kernel
theorem dL_areMembers_153 : decode cL_areMembers 153 = .ok (.iload 5, 2) := by decide +kernel
theorem dL_areMembers_155 : decode cL_areMembers 155 = .ok (.istore 5, 2) := by decide +kernel
theorem dL_areMembers_157 : decode cL_areMembers 157 = .ok (.aload_n 0, 1) := by decide +kernel
theorem dL_areMembers_158 : decode cL_areMembers 158 = .ok (.iload 6, 2) := by decide +kernel
theorem dL_areMembers_160 : decode cL_areMembers 160 = .ok (.invokevirtual 218, 3) := by decide +kernel
theorem dL_areMembers_163 : decode cL_areMembers 163 = .ok (.aload_n 3, 1) := by decide +kernel
theorem dL_areMembers_164 : decode cL_areMembers 164 = .ok (.iload 6, 2) := by decide +kernel
theorem dL_areMembers_166 : decode cL_areMembers 166 = .ok (.iaload, 1) := by decide +kernel
theorem dL_areMembers_167 : decode cL_areMembers 167 = .ok (.if_icmp .ne 7, 3) := by decide +kernel
theorem dL_areMembers_170 : decode cL_areMembers 170 = .ok (.iconst 1, 1) := by decide +kernel
theorem dL_areMembers_171 : decode cL_areMembers 171 = .ok (.goto 4, 3) := by decide +kernel
theorem dL_areMembers_174 : decode cL_areMembers 174 = .ok (.iconst 0, 1) := by decide +kernel
theorem dL_areMembers_175 : decode cL_areMembers 175 = .ok (.istore 4, 2) := by decide +kernel
theorem dL_areMembers_177 : decode cL_areMembers 177 = .ok (.iinc 6 1, 3) := by decide +kernel
theorem dL_areMembers_180 : decode cL_areMembers 180 = .ok (.goto (-54), 3) := by decide +kernel
theorem dL_areMembers_183 : decode cL_areMembers 183 = .ok (.iload 4, 2) := by decide +kernel
theorem dL_areMembers_185 : decode cL_areMembers 185 = .ok (.ifCond .eq 72, 3) := by decide +kernel
theorem dL_areMembers_188 : decode cL_areMembers 188 = .ok (.aload_n 0, 1) := by decide +kernel
theorem dL_areMembers_189 : decode cL_areMembers 189 = .ok (.invokevirtual 221, 3) := by decide +kernel
theorem dL_areMembers_192 : decode cL_areMembers 192 = .ok (.iload 5, 2) := by decide +kernel
theorem dL_areMembers_194 : decode cL_areMembers 194 = .ok (.if_icmp .ne 63, 3) := by decide +kernel
theorem dL_areMembers_197 : decode cL_areMembers 197 = .ok (.aload_n 0, 1) := by decide +kernel
theorem dL_areMembers_198 : decode cL_areMembers 198 = .ok (.invokevirtual 224, 3) := by decide +kernel
theorem dL_areMembers_201 : decode cL_areMembers 201 = .ok (.iload_n 1, 1) := by decide +kernel
theorem dL_areMembers_202 : decode cL_areMembers 202 = .ok (.aload_n 0, 1) := by decide +kernel
theorem dL_areMembers_203 : decode cL_areMembers 203 = .ok (.invokevirtual 168, 3) := by decide +kernel
theorem dL_areMembers_206 : decode cL_areMembers 206 = .ok (.if_icmp .lt 7, 3) := by decide +kernel
theorem dL_areMembers_209 : decode cL_areMembers 209 = .ok (.iconst 1, 1) := by decide +kernel
theorem dL_areMembers_210 : decode cL_areMembers 210 = .ok (.goto 4, 3) := by decide +kernel
theorem dL_areMembers_213 : decode cL_areMembers 213 = .ok (.iconst 0, 1) := by decide +kernel
theorem dL_areMembers_214 : decode cL_areMembers 214 = .ok (.if_icmp .ne 43, 3) := by decide +kernel
theorem dL_areMembers_217 : decode cL_areMembers 217 = .ok (.aload_n 0, 1) := by decide +kernel
theorem dL_areMembers_218 : decode cL_areMembers 218 = .ok (.invokestatic 228, 3) := by decide +kernel
theorem dL_areMembers_221 : decode cL_areMembers 221 = .ok (.aload_n 0, 1) := by decide +kernel
theorem dL_areMembers_222 : decode cL_areMembers 222 = .ok (.invokevirtual 176, 3) := by decide +kernel
theorem dL_areMembers_225 : decode cL_areMembers 225 = .ok (.ifCond .ne 9, 3) := by decide +kernel
theorem dL_areMembers_228 : decode cL_areMembers 228 = .ok (.ldc2_w 75, 3) := by decide +kernel
theorem dL_areMembers_231 : decode cL_areMembers 231 = .ok (.goto 11, 3) := by decide +kernel
theorem dL_areMembers_234 : decode cL_areMembers 234 = .ok (.iload_n 2, 1) := by decide +kernel
theorem dL_areMembers_235 : decode cL_areMembers 235 = .ok (.i2d, 1) := by decide +kernel
theorem dL_areMembers_236 : decode cL_areMembers 236 = .ok (.aload_n 0, 1) := by decide +kernel
theorem dL_areMembers_237 : decode cL_areMembers 237 = .ok (.invokevirtual 176, 3) := by decide +kernel
theorem dL_areMembers_240 : decode cL_areMembers 240 = .ok (.i2d, 1) := by decide +kernel
theorem dL_areMembers_241 : decode cL_areMembers 241 = .ok (.ddiv, 1) := by decide +kernel
theorem dL_areMembers_242 : decode cL_areMembers 242 = .ok (.dcmp .l, 1) := by decide +kernel
theorem dL_areMembers_243 : decode cL_areMembers 243 = .ok (.ifCond .ne 14, 3) := by decide +kernel
theorem dL_areMembers_246 : decode cL_areMembers 246 = .ok (.aload_n 0, 1) := by decide +kernel
theorem dL_areMembers_247 : decode cL_areMembers 247 = .ok (.invokevirtual 231, 3) := by decide +kernel
theorem dL_areMembers_250 : decode cL_areMembers 250 = .ok (.ifCond .eq 7, 3) := by decide +kernel
theorem dL_areMembers_253 : decode cL_areMembers 253 = .ok (.iconst 1, 1) := by decide +kernel
theorem dL_areMembers_254 : decode cL_areMembers 254 = .ok (.goto 4, 3) := by decide +kernel
theorem dL_areMembers_257 : decode cL_areMembers 257 = .ok (.iconst 0, 1) := by decide +kernel
theorem dL_areMembers_258 : decode cL_areMembers 258 = .ok (.ireturn, 1) := by decide +kernel
theorem dL_isBill_0 : decode cL_isBill 0 = .ok (.aload_n 0, 1) := by decide +kernel
theorem dL_isBill_1 : decode cL_isBill 1 = .ok (.iload_n 1, 1) := by decide +kernel
theorem dL_isBill_2 : decode cL_isBill 2 = .ok (.invokevirtual 190, 3) := by decide +kernel
theorem dL_isBill_5 : decode cL_isBill 5 = .ok (.lstore_n 2, 1) := by decide +kernel
theorem dL_isBill_6 : decode cL_isBill 6 = .ok (.iconst 0, 1) := by decide +kernel
theorem dL_isBill_7 : decode cL_isBill 7 = .ok (.istore 4, 2) := by decide +kernel
theorem dL_isBill_9 : decode cL_isBill 9 = .ok (.iconst 0, 1) := by decide +kernel
theorem dL_isBill_10 : decode cL_isBill 10 = .ok (.istore 5, 2) := by decide +kernel
theorem dL_isBill_12 : decode cL_isBill 12 = .ok (.iconst 0, 1) := by decide +kernel
theorem dL_isBill_13 : decode cL_isBill 13 = .ok (.istore 6, 2) := by decide +kernel
theorem dL_isBill_15 : decode cL_isBill 15 = .ok (.iload 6, 2) := by decide +kernel
theorem dL_isBill_17 : decode cL_isBill 17 = .ok (.bipush 64, 2) := by decide +kernel
theorem dL_isBill_19 : decode cL_isBill 19 = .ok (.if_icmp .ge 39, 3) := by decide +kernel
theorem dL_isBill_22 : decode cL_isBill 22 = .ok (.lload_n 2, 1) := by decide +kernel
theorem dL_isBill_23 : decode cL_isBill 23 = .ok (.iload 6, 2) := by decide +kernel
theorem dL_isBill_25 : decode cL_isBill 25 = .ok (.lushr, 1) := by decide +kernel
theorem dL_isBill_26 : decode cL_isBill 26 = .ok (.lconst 1, 1) := by decide +kernel
theorem dL_isBill_27 : decode cL_isBill 27 = .ok (.land, 1) := by decide +kernel
theorem dL_isBill_28 : decode cL_isBill 28 = .ok (.lconst 1, 1) := by decide +kernel
theorem dL_isBill_29 : decode cL_isBill 29 = .ok (.lcmp, 1) := by decide +kernel
theorem dL_isBill_30 : decode cL_isBill 30 = .ok (.ifCond .ne 10, 3) := by decide +kernel
theorem dL_isBill_33 : decode cL_isBill 33 = .ok (.iload 5, 2) := by decide +kernel
theorem dL_isBill_35 : decode cL_isBill 35 = .ok (.iconst 1, 1) := by decide +kernel
theorem dL_isBill_36 : decode cL_isBill 36 = .ok (.iadd, 1) := by decide +kernel
theorem dL_isBill_37 : decode cL_isBill 37 = .ok (.goto 4, 3) := by decide +kernel
theorem dL_isBill_40 : decode cL_isBill 40 = .ok (.iconst 0, 1) := by decide +kernel
theorem dL_isBill_41 : decode cL_isBill 41 = .ok (.istore 5, 2) := by decide +kernel
theorem dL_isBill_43 : decode cL_isBill 43 = .ok (.iload 4, 2) := by decide +kernel
theorem dL_isBill_45 : decode cL_isBill 45 = .ok (.iload 5, 2) := by decide +kernel
theorem dL_isBill_47 : decode cL_isBill 47 = .ok (.invokestatic 234, 3) := by decide +kernel
theorem dL_isBill_50 : decode cL_isBill 50 = .ok (.istore 4, 2) := by decide +kernel
theorem dL_isBill_52 : decode cL_isBill 52 = .ok (.iinc 6 1, 3) := by decide +kernel
theorem dL_isBill_55 : decode cL_isBill 55 = .ok (.goto (-40), 3) := by decide +kernel
theorem dL_isBill_58 : decode cL_isBill 58 = .ok (.aload_n 0, 1) := by decide +kernel
theorem dL_isBill_59 : decode cL_isBill 59 = .ok (.iload_n 1, 1) := by decide +kernel
theorem dL_isBill_60 : decode cL_isBill 60 = .ok (.invokevirtual 200, 3) := by decide +kernel
theorem dL_isBill_63 : decode cL_isBill 63 = .ok (.istore 6, 2) := by decide +kernel
theorem dL_isBill_65 : decode cL_isBill 65 = .ok (.aload_n 0, 1) := by decide +kernel
theorem dL_isBill_66 : decode cL_isBill 66 = .ok (.iload_n 1, 1) := by decide +kernel
theorem dL_isBill_67 : decode cL_isBill 67 = .ok (.invokevirtual 206, 3) := by decide +kernel
theorem dL_isBill_70 : decode cL_isBill 70 = .ok (.istore 7, 2) := by decide +kernel
theorem dL_isBill_72 : decode cL_isBill 72 = .ok (.aload_n 0, 1) := by decide +kernel
theorem dL_isBill_73 : decode cL_isBill 73 = .ok (.iload_n 1, 1) := by decide +kernel
theorem dL_isBill_74 : decode cL_isBill 74 = .ok (.invokevirtual 209, 3) := by decide +kernel
theorem dL_isBill_77 : decode cL_isBill 77 = .ok (.istore 8, 2) := by decide +kernel
theorem dL_isBill_79 : decode cL_isBill 79 = .ok (.iload 7, 2) := by decide +kernel
theorem dL_isBill_81 : decode cL_isBill 81 = .ok (.iload 8, 2) := by decide +kernel
theorem dL_isBill_83 : decode cL_isBill 83 = .ok (.iadd, 1) := by decide +kernel
theorem dL_isBill_84 : decode cL_isBill 84 = .ok (.ifCond .ne 9, 3) := by decide +kernel
theorem dL_isBill_87 : decode cL_isBill 87 = .ok (.sipush (-1000), 3) := by decide +kernel
theorem dL_isBill_90 : decode cL_isBill 90 = .ok (.goto 16, 3) := by decide +kernel
theorem dL_isBill_93 : decode cL_isBill 93 = .ok (.iload 7, 2) := by decide +kernel
theorem dL_isBill_95 : decode cL_isBill 95 = .ok (.i2f, 1) := by decide +kernel
theorem dL_isBill_96 : decode cL_isBill 96 = .ok (.iload 7, 2) := by decide +kernel
theorem dL_isBill_98 : decode cL_isBill 98 = .ok (.iload 8, 2) := by decide +kernel
theorem dL_isBill_100 : decode cL_isBill 100 = .ok (.iadd, 1) := by decide +kernel
theorem dL_isBill_101 : decode cL_isBill 101 = .ok (.i2f, 1) := by decide +kernel
theorem dL_isBill_102 : decode cL_isBill 102 = .ok (.fdiv, 1) := by decide +kernel
theorem dL_isBill_103 : decode cL_isBill 103 = .ok (.invokestatic 239, 3) := by decide +kernel
theorem dL_isBill_106 : decode cL_isBill 106 = .ok (.istore 9, 2) := by decide +kernel
theorem dL_isBill_108 : decode cL_isBill 108 = .ok (.aload_n 0, 1) := by decide +kernel
theorem dL_isBill_109 : decode cL_isBill 109 = .ok (.iload_n 1, 1) := by decide +kernel
theorem dL_isBill_110 : decode cL_isBill 110 = .ok (.invokevirtual 245, 3) := by decide +kernel
theorem dL_isBill_113 : decode cL_isBill 113 = .ok (.lload_n 2, 1) := by decide +kernel
theorem dL_isBill_114 : decode cL_isBill 114 = .ok (.invokestatic 248, 3) := by decide +kernel
theorem dL_isBill_117 : decode cL_isBill 117 = .ok (.if_icmp .ne 63, 3) := by decide +kernel
theorem dL_isBill_120 : decode cL_isBill 120 = .ok (.aload_n 0, 1) := by decide +kernel
theorem dL_isBill_121 : decode cL_isBill 121 = .ok (.iload_n 1, 1) := by decide +kernel
theorem dL_isBill_122 : decode cL_isBill 122 = .ok (.invokevirtual 254, 3) := by decide +kernel
theorem dL_isBill_125 : decode cL_isBill 125 = .ok (.iload 4, 2) := by decide +kernel
theorem dL_isBill_127 : decode cL_isBill 127 = .ok (.if_icmp .ne 53, 3) := by decide +kernel
theorem dL_isBill_130 : decode cL_isBill 130 = .ok (.aload_n 0, 1) := by decide +kernel
theorem dL_isBill_131 : decode cL_isBill 131 = .ok (.iload_n 1, 1) := by decide +kernel
theorem dL_isBill_132 : decode cL_isBill 132 = .ok (.invokevirtual 257, 3) := by decide +kernel
