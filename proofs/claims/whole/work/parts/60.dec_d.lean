theorem dL_addMember_0 : decode cL_addMember 0 = .ok (.aload_n 3, 1) := by decide +kernel
theorem dL_addMember_1 : decode cL_addMember 1 = .ok (.iconst 0, 1) := by decide +kernel
theorem dL_addMember_2 : decode cL_addMember 2 = .ok (.aload_n 0, 1) := by decide +kernel
theorem dL_addMember_3 : decode cL_addMember 3 = .ok (.iload_n 1, 1) := by decide +kernel
theorem dL_addMember_4 : decode cL_addMember 4 = .ok (.iload_n 2, 1) := by decide +kernel
theorem dL_addMember_5 : decode cL_addMember 5 = .ok (.invokevirtual 7, 3) := by decide +kernel
theorem dL_addMember_8 : decode cL_addMember 8 = .ok (.i2l, 1) := by decide +kernel
theorem dL_addMember_9 : decode cL_addMember 9 = .ok (.lastore, 1) := by decide +kernel
theorem dL_addMember_10 : decode cL_addMember 10 = .ok (.goto 15, 3) := by decide +kernel
theorem dL_addMember_13 : decode cL_addMember 13 = .ok (.astore 4, 2) := by decide +kernel
theorem dL_addMember_15 : decode cL_addMember 15 = .ok (.iconst 1, 1) := by decide +kernel
theorem dL_addMember_16 : decode cL_addMember 16 = .ok (.ireturn, 1) := by decide +kernel
theorem dL_addMember_17 : decode cL_addMember 17 = .ok (.astore 4, 2) := by decide +kernel
theorem dL_addMember_19 : decode cL_addMember 19 = .ok (.iconst 2, 1) := by decide +kernel
theorem dL_addMember_20 : decode cL_addMember 20 = .ok (.ireturn, 1) := by decide +kernel
theorem dL_addMember_21 : decode cL_addMember 21 = .ok (.astore 4, 2) := by decide +kernel
theorem dL_addMember_23 : decode cL_addMember 23 = .ok (.iconst 3, 1) := by decide +kernel
theorem dL_addMember_24 : decode cL_addMember 24 = .ok (.ireturn, 1) := by decide +kernel
theorem dL_addMember_25 : decode cL_addMember 25 = .ok (.iconst 0, 1) := by decide +kernel
theorem dL_addMember_26 : decode cL_addMember 26 = .ok (.ireturn, 1) := by decide +kernel
theorem dL_enter_0 : decode cL_enter 0 = .ok (.aload_n 2, 1) := by decide +kernel
theorem dL_enter_1 : decode cL_enter 1 = .ok (.iconst 0, 1) := by decide +kernel
theorem dL_enter_2 : decode cL_enter 2 = .ok (.aload_n 0, 1) := by decide +kernel
theorem dL_enter_3 : decode cL_enter 3 = .ok (.iload_n 1, 1) := by decide +kernel
theorem dL_enter_4 : decode cL_enter 4 = .ok (.invokevirtual 19, 3) := by decide +kernel
theorem dL_enter_7 : decode cL_enter 7 = .ok (.i2l, 1) := by decide +kernel
theorem dL_enter_8 : decode cL_enter 8 = .ok (.lastore, 1) := by decide +kernel
theorem dL_enter_9 : decode cL_enter 9 = .ok (.goto 9, 3) := by decide +kernel
theorem dL_enter_12 : decode cL_enter 12 = .ok (.astore_n 3, 1) := by decide +kernel
theorem dL_enter_13 : decode cL_enter 13 = .ok (.iconst 1, 1) := by decide +kernel
theorem dL_enter_14 : decode cL_enter 14 = .ok (.ireturn, 1) := by decide +kernel
theorem dL_enter_15 : decode cL_enter 15 = .ok (.astore_n 3, 1) := by decide +kernel
theorem dL_enter_16 : decode cL_enter 16 = .ok (.iconst 2, 1) := by decide +kernel
theorem dL_enter_17 : decode cL_enter 17 = .ok (.ireturn, 1) := by decide +kernel
theorem dL_enter_18 : decode cL_enter 18 = .ok (.iconst 0, 1) := by decide +kernel
theorem dL_enter_19 : decode cL_enter 19 = .ok (.ireturn, 1) := by decide +kernel
theorem dL_leave_0 : decode cL_leave 0 = .ok (.aload_n 2, 1) := by decide +kernel
theorem dL_leave_1 : decode cL_leave 1 = .ok (.iconst 0, 1) := by decide +kernel
theorem dL_leave_2 : decode cL_leave 2 = .ok (.aload_n 0, 1) := by decide +kernel
theorem dL_leave_3 : decode cL_leave 3 = .ok (.iload_n 1, 1) := by decide +kernel
theorem dL_leave_4 : decode cL_leave 4 = .ok (.invokevirtual 23, 3) := by decide +kernel
theorem dL_leave_7 : decode cL_leave 7 = .ok (.i2l, 1) := by decide +kernel
theorem dL_leave_8 : decode cL_leave 8 = .ok (.lastore, 1) := by decide +kernel
theorem dL_leave_9 : decode cL_leave 9 = .ok (.goto 9, 3) := by decide +kernel
theorem dL_leave_12 : decode cL_leave 12 = .ok (.astore_n 3, 1) := by decide +kernel
theorem dL_leave_13 : decode cL_leave 13 = .ok (.iconst 1, 1) := by decide +kernel
theorem dL_leave_14 : decode cL_leave 14 = .ok (.ireturn, 1) := by decide +kernel
theorem dL_leave_15 : decode cL_leave 15 = .ok (.astore_n 3, 1) := by decide +kernel
theorem dL_leave_16 : decode cL_leave 16 = .ok (.iconst 2, 1) := by decide +kernel
theorem dL_leave_17 : decode cL_leave 17 = .ok (.ireturn, 1) := by decide +kernel
theorem dL_leave_18 : decode cL_leave 18 = .ok (.iconst 0, 1) := by decide +kernel
theorem dL_leave_19 : decode cL_leave 19 = .ok (.ireturn, 1) := by decide +kernel
theorem dL_setQuorum_0 : decode cL_setQuorum 0 = .ok (.aload_n 2, 1) := by decide +kernel
theorem dL_setQuorum_1 : decode cL_setQuorum 1 = .ok (.iconst 0, 1) := by decide +kernel
theorem dL_setQuorum_2 : decode cL_setQuorum 2 = .ok (.aload_n 0, 1) := by decide +kernel
theorem dL_setQuorum_3 : decode cL_setQuorum 3 = .ok (.iload_n 1, 1) := by decide +kernel
theorem dL_setQuorum_4 : decode cL_setQuorum 4 = .ok (.invokevirtual 26, 3) := by decide +kernel
theorem dL_setQuorum_7 : decode cL_setQuorum 7 = .ok (.i2l, 1) := by decide +kernel
theorem dL_setQuorum_8 : decode cL_setQuorum 8 = .ok (.lastore, 1) := by decide +kernel
theorem dL_setQuorum_9 : decode cL_setQuorum 9 = .ok (.goto 6, 3) := by decide +kernel
theorem dL_setQuorum_12 : decode cL_setQuorum 12 = .ok (.astore_n 3, 1) := by decide +kernel
theorem dL_setQuorum_13 : decode cL_setQuorum 13 = .ok (.iconst 1, 1) := by decide +kernel
theorem dL_setQuorum_14 : decode cL_setQuorum 14 = .ok (.ireturn, 1) := by decide +kernel
theorem dL_setQuorum_15 : decode cL_setQuorum 15 = .ok (.iconst 0, 1) := by decide +kernel
theorem dL_setQuorum_16 : decode cL_setQuorum 16 = .ok (.ireturn, 1) := by decide +kernel
theorem dL_wardOf_0 : decode cL_wardOf 0 = .ok (.aload_n 2, 1) := by decide +kernel
theorem dL_wardOf_1 : decode cL_wardOf 1 = .ok (.iconst 0, 1) := by decide +kernel
theorem dL_wardOf_2 : decode cL_wardOf 2 = .ok (.aload_n 0, 1) := by decide +kernel
theorem dL_wardOf_3 : decode cL_wardOf 3 = .ok (.iload_n 1, 1) := by decide +kernel
theorem dL_wardOf_4 : decode cL_wardOf 4 = .ok (.invokevirtual 29, 3) := by decide +kernel
theorem dL_wardOf_7 : decode cL_wardOf 7 = .ok (.i2l, 1) := by decide +kernel
theorem dL_wardOf_8 : decode cL_wardOf 8 = .ok (.lastore, 1) := by decide +kernel
theorem dL_wardOf_9 : decode cL_wardOf 9 = .ok (.goto 6, 3) := by decide +kernel
theorem dL_wardOf_12 : decode cL_wardOf 12 = .ok (.astore_n 3, 1) := by decide +kernel
theorem dL_wardOf_13 : decode cL_wardOf 13 = .ok (.iconst 1, 1) := by decide +kernel
theorem dL_wardOf_14 : decode cL_wardOf 14 = .ok (.ireturn, 1) := by decide +kernel
theorem dL_wardOf_15 : decode cL_wardOf 15 = .ok (.iconst 0, 1) := by decide +kernel
theorem dL_wardOf_16 : decode cL_wardOf 16 = .ok (.ireturn, 1) := by decide +kernel
theorem dL_weightOf_0 : decode cL_weightOf 0 = .ok (.aload_n 2, 1) := by decide +kernel
theorem dL_weightOf_1 : decode cL_weightOf 1 = .ok (.iconst 0, 1) := by decide +kernel
theorem dL_weightOf_2 : decode cL_weightOf 2 = .ok (.aload_n 0, 1) := by decide +kernel
theorem dL_weightOf_3 : decode cL_weightOf 3 = .ok (.iload_n 1, 1) := by decide +kernel
theorem dL_weightOf_4 : decode cL_weightOf 4 = .ok (.invokevirtual 32, 3) := by decide +kernel
theorem dL_weightOf_7 : decode cL_weightOf 7 = .ok (.i2l, 1) := by decide +kernel
theorem dL_weightOf_8 : decode cL_weightOf 8 = .ok (.lastore, 1) := by decide +kernel
theorem dL_weightOf_9 : decode cL_weightOf 9 = .ok (.goto 6, 3) := by decide +kernel
theorem dL_weightOf_12 : decode cL_weightOf 12 = .ok (.astore_n 3, 1) := by decide +kernel
theorem dL_weightOf_13 : decode cL_weightOf 13 = .ok (.iconst 1, 1) := by decide +kernel
theorem dL_weightOf_14 : decode cL_weightOf 14 = .ok (.ireturn, 1) := by decide +kernel
theorem dL_weightOf_15 : decode cL_weightOf 15 = .ok (.iconst 0, 1) := by decide +kernel
theorem dL_weightOf_16 : decode cL_weightOf 16 = .ok (.ireturn, 1) := by decide +kernel
theorem dL_isPresent_0 : decode cL_isPresent 0 = .ok (.aload_n 2, 1) := by decide +kernel
theorem dL_isPresent_1 : decode cL_isPresent 1 = .ok (.iconst 0, 1) := by decide +kernel
theorem dL_isPresent_2 : decode cL_isPresent 2 = .ok (.aload_n 0, 1) := by decide +kernel
theorem dL_isPresent_3 : decode cL_isPresent 3 = .ok (.iload_n 1, 1) := by decide +kernel
theorem dL_isPresent_4 : decode cL_isPresent 4 = .ok (.invokevirtual 35, 3) := by decide +kernel
theorem dL_isPresent_7 : decode cL_isPresent 7 = .ok (.ifCond .eq 7, 3) := by decide +kernel
theorem dL_isPresent_10 : decode cL_isPresent 10 = .ok (.lconst 1, 1) := by decide +kernel
theorem dL_isPresent_11 : decode cL_isPresent 11 = .ok (.goto 4, 3) := by decide +kernel
theorem dL_isPresent_14 : decode cL_isPresent 14 = .ok (.lconst 0, 1) := by decide +kernel
theorem dL_isPresent_15 : decode cL_isPresent 15 = .ok (.lastore, 1) := by decide +kernel
theorem dL_isPresent_16 : decode cL_isPresent 16 = .ok (.goto 6, 3) := by decide +kernel
theorem dL_isPresent_19 : decode cL_isPresent 19 = .ok (.astore_n 3, 1) := by decide +kernel
theorem dL_isPresent_20 : decode cL_isPresent 20 = .ok (.iconst 1, 1) := by decide +kernel
theorem dL_isPresent_21 : decode cL_isPresent 21 = .ok (.ireturn, 1) := by decide +kernel
theorem dL_isPresent_22 : decode cL_isPresent 22 = .ok (.iconst 0, 1) := by decide +kernel
theorem dL_isPresent_23 : decode cL_isPresent 23 = .ok (.ireturn, 1) := by decide +kernel
theorem dL_wardWeight_0 : decode cL_wardWeight 0 = .ok (.aload_n 2, 1) := by decide +kernel
theorem dL_wardWeight_1 : decode cL_wardWeight 1 = .ok (.iconst 0, 1) := by decide +kernel
theorem dL_wardWeight_2 : decode cL_wardWeight 2 = .ok (.aload_n 0, 1) := by decide +kernel
theorem dL_wardWeight_3 : decode cL_wardWeight 3 = .ok (.iload_n 1, 1) := by decide +kernel
theorem dL_wardWeight_4 : decode cL_wardWeight 4 = .ok (.invokevirtual 39, 3) := by decide +kernel
theorem dL_wardWeight_7 : decode cL_wardWeight 7 = .ok (.i2l, 1) := by decide +kernel
theorem dL_wardWeight_8 : decode cL_wardWeight 8 = .ok (.lastore, 1) := by decide +kernel
theorem dL_wardWeight_9 : decode cL_wardWeight 9 = .ok (.goto 6, 3) := by decide +kernel
theorem dL_wardWeight_12 : decode cL_wardWeight 12 = .ok (.astore_n 3, 1) := by decide +kernel
theorem dL_wardWeight_13 : decode cL_wardWeight 13 = .ok (.iconst 1, 1) := by decide +kernel
theorem dL_wardWeight_14 : decode cL_wardWeight 14 = .ok (.ireturn, 1) := by decide +kernel
theorem dL_wardWeight_15 : decode cL_wardWeight 15 = .ok (.iconst 0, 1) := by decide +kernel
theorem dL_wardWeight_16 : decode cL_wardWeight 16 = .ok (.ireturn, 1) := by decide +kernel
theorem dL_introduce_0 : decode cL_introduce 0 = .ok (.aload 4, 2) := by decide +kernel
theorem dL_introduce_2 : decode cL_introduce 2 = .ok (.iconst 0, 1) := by decide +kernel
theorem dL_introduce_3 : decode cL_introduce 3 = .ok (.aload_n 0, 1) := by decide +kernel
theorem dL_introduce_4 : decode cL_introduce 4 = .ok (.iload_n 1, 1) := by decide +kernel
theorem dL_introduce_5 : decode cL_introduce 5 = .ok (.iload_n 2, 1) := by decide +kernel
theorem dL_introduce_6 : decode cL_introduce 6 = .ok (.iload_n 3, 1) := by decide +kernel
theorem dL_introduce_7 : decode cL_introduce 7 = .ok (.invokevirtual 42, 3) := by decide +kernel
theorem dL_introduce_10 : decode cL_introduce 10 = .ok (.i2l, 1) := by decide +kernel
theorem dL_introduce_11 : decode cL_introduce 11 = .ok (.lastore, 1) := by decide +kernel
theorem dL_introduce_12 : decode cL_introduce 12 = .ok (.goto 19, 3) := by decide +kernel
theorem dL_introduce_15 : decode cL_introduce 15 = .ok (.astore 5, 2) := by decide +kernel
theorem dL_introduce_17 : decode cL_introduce 17 = .ok (.iconst 1, 1) := by decide +kernel
theorem dL_introduce_18 : decode cL_introduce 18 = .ok (.ireturn, 1) := by decide +kernel
theorem dL_introduce_19 : decode cL_introduce 19 = .ok (.astore 5, 2) := by decide +kernel
theorem dL_introduce_21 : decode cL_introduce 21 = .ok (.iconst 2, 1) := by decide +kernel
theorem dL_introduce_22 : decode cL_introduce 22 = .ok (.ireturn, 1) := by decide +kernel
theorem dL_introduce_23 : decode cL_introduce 23 = .ok (.astore 5, 2) := by decide +kernel
theorem dL_introduce_25 : decode cL_introduce 25 = .ok (.iconst 3, 1) := by decide +kernel
theorem dL_introduce_26 : decode cL_introduce 26 = .ok (.ireturn, 1) := by decide +kernel
theorem dL_introduce_27 : decode cL_introduce 27 = .ok (.astore 5, 2) := by decide +kernel
theorem dL_introduce_29 : decode cL_introduce 29 = .ok (.iconst 4, 1) := by decide +kernel
theorem dL_introduce_30 : decode cL_introduce 30 = .ok (.ireturn, 1) := by decide +kernel
theorem dL_introduce_31 : decode cL_introduce 31 = .ok (.iconst 0, 1) := by decide +kernel
theorem dL_introduce_32 : decode cL_introduce 32 = .ok (.ireturn, 1) := by decide +kernel
theorem dL_isOpen_0 : decode cL_isOpen 0 = .ok (.aload_n 2, 1) := by decide +kernel
theorem dL_isOpen_1 : decode cL_isOpen 1 = .ok (.iconst 0, 1) := by decide +kernel
theorem dL_isOpen_2 : decode cL_isOpen 2 = .ok (.aload_n 0, 1) := by decide +kernel
theorem dL_isOpen_3 : decode cL_isOpen 3 = .ok (.iload_n 1, 1) := by decide +kernel
theorem dL_isOpen_4 : decode cL_isOpen 4 = .ok (.invokevirtual 48, 3) := by decide +kernel
theorem dL_isOpen_7 : decode cL_isOpen 7 = .ok (.ifCond .eq 7, 3) := by decide +kernel
theorem dL_isOpen_10 : decode cL_isOpen 10 = .ok (.lconst 1, 1) := by decide +kernel
theorem dL_isOpen_11 : decode cL_isOpen 11 = .ok (.goto 4, 3) := by decide +kernel
theorem dL_isOpen_14 : decode cL_isOpen 14 = .ok (.lconst 0, 1) := by decide +kernel
theorem dL_isOpen_15 : decode cL_isOpen 15 = .ok (.lastore, 1) := by decide +kernel
theorem dL_isOpen_16 : decode cL_isOpen 16 = .ok (.goto 6, 3) := by decide +kernel
theorem dL_isOpen_19 : decode cL_isOpen 19 = .ok (.astore_n 3, 1) := by decide +kernel
theorem dL_isOpen_20 : decode cL_isOpen 20 = .ok (.iconst 1, 1) := by decide +kernel
theorem dL_isOpen_21 : decode cL_isOpen 21 = .ok (.ireturn, 1) := by decide +kernel
theorem dL_isOpen_22 : decode cL_isOpen 22 = .ok (.iconst 0, 1) := by decide +kernel
theorem dL_isOpen_23 : decode cL_isOpen 23 = .ok (.ireturn, 1) := by decide +kernel
theorem dL_isPassed_0 : decode cL_isPassed 0 = .ok (.aload_n 2, 1) := by decide +kernel
theorem dL_isPassed_1 : decode cL_isPassed 1 = .ok (.iconst 0, 1) := by decide +kernel
theorem dL_isPassed_2 : decode cL_isPassed 2 = .ok (.aload_n 0, 1) := by decide +kernel
theorem dL_isPassed_3 : decode cL_isPassed 3 = .ok (.iload_n 1, 1) := by decide +kernel
theorem dL_isPassed_4 : decode cL_isPassed 4 = .ok (.invokevirtual 51, 3) := by decide +kernel
theorem dL_isPassed_7 : decode cL_isPassed 7 = .ok (.ifCond .eq 7, 3) := by decide +kernel
theorem dL_isPassed_10 : decode cL_isPassed 10 = .ok (.lconst 1, 1) := by decide +kernel
theorem dL_isPassed_11 : decode cL_isPassed 11 = .ok (.goto 4, 3) := by decide +kernel
theorem dL_isPassed_14 : decode cL_isPassed 14 = .ok (.lconst 0, 1) := by decide +kernel
theorem dL_isPassed_15 : decode cL_isPassed 15 = .ok (.lastore, 1) := by decide +kernel
theorem dL_isPassed_16 : decode cL_isPassed 16 = .ok (.goto 6, 3) := by decide +kernel
theorem dL_isPassed_19 : decode cL_isPassed 19 = .ok (.astore_n 3, 1) := by decide +kernel
theorem dL_isPassed_20 : decode cL_isPassed 20 = .ok (.iconst 1, 1) := by decide +kernel
theorem dL_isPassed_21 : decode cL_isPassed 21 = .ok (.ireturn, 1) := by decide +kernel
theorem dL_isPassed_22 : decode cL_isPassed 22 = .ok (.iconst 0, 1) := by decide +kernel
theorem dL_isPassed_23 : decode cL_isPassed 23 = .ok (.ireturn, 1) := by decide +kernel
theorem dL_readings_0 : decode cL_readings 0 = .ok (.aload_n 2, 1) := by decide +kernel
theorem dL_readings_1 : decode cL_readings 1 = .ok (.iconst 0, 1) := by decide +kernel
theorem dL_readings_2 : decode cL_readings 2 = .ok (.aload_n 0, 1) := by decide +kernel
theorem dL_readings_3 : decode cL_readings 3 = .ok (.iload_n 1, 1) := by decide +kernel
theorem dL_readings_4 : decode cL_readings 4 = .ok (.invokevirtual 54, 3) := by decide +kernel
theorem dL_readings_7 : decode cL_readings 7 = .ok (.i2l, 1) := by decide +kernel
theorem dL_readings_8 : decode cL_readings 8 = .ok (.lastore, 1) := by decide +kernel
theorem dL_readings_9 : decode cL_readings 9 = .ok (.goto 6, 3) := by decide +kernel
theorem dL_readings_12 : decode cL_readings 12 = .ok (.astore_n 3, 1) := by decide +kernel
theorem dL_readings_13 : decode cL_readings 13 = .ok (.iconst 1, 1) := by decide +kernel
theorem dL_readings_14 : decode cL_readings 14 = .ok (.ireturn, 1) := by decide +kernel
theorem dL_readings_15 : decode cL_readings 15 = .ok (.iconst 0, 1) := by decide +kernel
theorem dL_readings_16 : decode cL_readings 16 = .ok (.ireturn, 1) := by decide +kernel
theorem dL_clauses_0 : decode cL_clauses 0 = .ok (.aload_n 2, 1) := by decide +kernel
theorem dL_clauses_1 : decode cL_clauses 1 = .ok (.iconst 0, 1) := by decide +kernel
theorem dL_clauses_2 : decode cL_clauses 2 = .ok (.aload_n 0, 1) := by decide +kernel
theorem dL_clauses_3 : decode cL_clauses 3 = .ok (.iload_n 1, 1) := by decide +kernel
theorem dL_clauses_4 : decode cL_clauses 4 = .ok (.invokevirtual 57, 3) := by decide +kernel
theorem dL_clauses_7 : decode cL_clauses 7 = .ok (.lastore, 1) := by decide +kernel
theorem dL_clauses_8 : decode cL_clauses 8 = .ok (.goto 6, 3) := by decide +kernel
theorem dL_clauses_11 : decode cL_clauses 11 = .ok (.astore_n 3, 1) := by decide +kernel
theorem dL_clauses_12 : decode cL_clauses 12 = .ok (.iconst 1, 1) := by decide +kernel
theorem dL_clauses_13 : decode cL_clauses 13 = .ok (.ireturn, 1) := by decide +kernel
theorem dL_clauses_14 : decode cL_clauses 14 = .ok (.iconst 0, 1) := by decide +kernel
theorem dL_clauses_15 : decode cL_clauses 15 = .ok (.ireturn, 1) := by decide +kernel
theorem dL_clauseCount_0 : decode cL_clauseCount 0 = .ok (.aload_n 2, 1) := by decide +kernel
theorem dL_clauseCount_1 : decode cL_clauseCount 1 = .ok (.iconst 0, 1) := by decide +kernel
theorem dL_clauseCount_2 : decode cL_clauseCount 2 = .ok (.aload_n 0, 1) := by decide +kernel
theorem dL_clauseCount_3 : decode cL_clauseCount 3 = .ok (.iload_n 1, 1) := by decide +kernel
theorem dL_clauseCount_4 : decode cL_clauseCount 4 = .ok (.invokevirtual 61, 3) := by decide +kernel
theorem dL_clauseCount_7 : decode cL_clauseCount 7 = .ok (.i2l, 1) := by decide +kernel
theorem dL_clauseCount_8 : decode cL_clauseCount 8 = .ok (.lastore, 1) := by decide +kernel
theorem dL_clauseCount_9 : decode cL_clauseCount 9 = .ok (.goto 6, 3) := by decide +kernel
theorem dL_clauseCount_12 : decode cL_clauseCount 12 = .ok (.astore_n 3, 1) := by decide +kernel
theorem dL_clauseCount_13 : decode cL_clauseCount 13 = .ok (.iconst 1, 1) := by decide +kernel
theorem dL_clauseCount_14 : decode cL_clauseCount 14 = .ok (.ireturn, 1) := by decide +kernel
theorem dL_clauseCount_15 : decode cL_clauseCount 15 = .ok (.iconst 0, 1) := by decide +kernel
theorem dL_clauseCount_16 : decode cL_clauseCount 16 = .ok (.ireturn, 1) := by decide +kernel
theorem dL_longestRun_0 : decode cL_longestRun 0 = .ok (.aload_n 2, 1) := by decide +kernel
theorem dL_longestRun_1 : decode cL_longestRun 1 = .ok (.iconst 0, 1) := by decide +kernel
theorem dL_longestRun_2 : decode cL_longestRun 2 = .ok (.aload_n 0, 1) := by decide +kernel
theorem dL_longestRun_3 : decode cL_longestRun 3 = .ok (.iload_n 1, 1) := by decide +kernel
theorem dL_longestRun_4 : decode cL_longestRun 4 = .ok (.invokevirtual 64, 3) := by decide +kernel
theorem dL_longestRun_7 : decode cL_longestRun 7 = .ok (.i2l, 1) := by decide +kernel
theorem dL_longestRun_8 : decode cL_longestRun 8 = .ok (.lastore, 1) := by decide +kernel
theorem dL_longestRun_9 : decode cL_longestRun 9 = .ok (.goto 6, 3) := by decide +kernel
theorem dL_longestRun_12 : decode cL_longestRun 12 = .ok (.astore_n 3, 1) := by decide +kernel
theorem dL_longestRun_13 : decode cL_longestRun 13 = .ok (.iconst 1, 1) := by decide +kernel
theorem dL_longestRun_14 : decode cL_longestRun 14 = .ok (.ireturn, 1) := by decide +kernel
theorem dL_longestRun_15 : decode cL_longestRun 15 = .ok (.iconst 0, 1) := by decide +kernel
theorem dL_longestRun_16 : decode cL_longestRun 16 = .ok (.ireturn, 1) := by decide +kernel
theorem dL_longestRunByShift_0 : decode cL_longestRunByShift 0 = .ok (.aload_n 2, 1) := by decide +kernel
theorem dL_longestRunByShift_1 : decode cL_longestRunByShift 1 = .ok (.iconst 0, 1) := by decide +kernel
theorem dL_longestRunByShift_2 : decode cL_longestRunByShift 2 = .ok (.aload_n 0, 1) := by decide +kernel
theorem dL_longestRunByShift_3 : decode cL_longestRunByShift 3 = .ok (.iload_n 1, 1) := by decide +kernel
theorem dL_longestRunByShift_4 : decode cL_longestRunByShift 4 = .ok (.invokevirtual 67, 3) := by decide +kernel
theorem dL_longestRunByShift_7 : decode cL_longestRunByShift 7 = .ok (.i2l, 1) := by decide +kernel
theorem dL_longestRunByShift_8 : decode cL_longestRunByShift 8 = .ok (.lastore, 1) := by decide +kernel
theorem dL_longestRunByShift_9 : decode cL_longestRunByShift 9 = .ok (.goto 6, 3) := by decide +kernel
theorem dL_longestRunByShift_12 : decode cL_longestRunByShift 12 = .ok (.astore_n 3, 1) := by decide +kernel
theorem dL_longestRunByShift_13 : decode cL_longestRunByShift 13 = .ok (.iconst 1, 1) := by decide +kernel
theorem dL_longestRunByShift_14 : decode cL_longestRunByShift 14 = .ok (.ireturn, 1) := by decide +kernel
theorem dL_longestRunByShift_15 : decode cL_longestRunByShift 15 = .ok (.iconst 0, 1) := by decide +kernel
theorem dL_longestRunByShift_16 : decode cL_longestRunByShift 16 = .ok (.ireturn, 1) := by decide +kernel
theorem dL_billAtRank_0 : decode cL_billAtRank 0 = .ok (.aload_n 2, 1) := by decide +kernel
theorem dL_billAtRank_1 : decode cL_billAtRank 1 = .ok (.iconst 0, 1) := by decide +kernel
theorem dL_billAtRank_2 : decode cL_billAtRank 2 = .ok (.aload_n 0, 1) := by decide +kernel
theorem dL_billAtRank_3 : decode cL_billAtRank 3 = .ok (.iload_n 1, 1) := by decide +kernel
theorem dL_billAtRank_4 : decode cL_billAtRank 4 = .ok (.invokevirtual 70, 3) := by decide +kernel
theorem dL_billAtRank_7 : decode cL_billAtRank 7 = .ok (.i2l, 1) := by decide +kernel
theorem dL_billAtRank_8 : decode cL_billAtRank 8 = .ok (.lastore, 1) := by decide +kernel
theorem dL_billAtRank_9 : decode cL_billAtRank 9 = .ok (.goto 6, 3) := by decide +kernel
theorem dL_billAtRank_12 : decode cL_billAtRank 12 = .ok (.astore_n 3, 1) := by decide +kernel
theorem dL_billAtRank_13 : decode cL_billAtRank 13 = .ok (.iconst 1, 1) := by decide +kernel
theorem dL_billAtRank_14 : decode cL_billAtRank 14 = .ok (.ireturn, 1) := by decide +kernel
theorem dL_billAtRank_15 : decode cL_billAtRank 15 = .ok (.iconst 0, 1) := by decide +kernel
theorem dL_billAtRank_16 : decode cL_billAtRank 16 = .ok (.ireturn, 1) := by decide +kernel
theorem dL_voteFor_0 : decode cL_voteFor 0 = .ok (.aload_n 3, 1) := by decide +kernel
theorem dL_voteFor_1 : decode cL_voteFor 1 = .ok (.iconst 0, 1) := by decide +kernel
theorem dL_voteFor_2 : decode cL_voteFor 2 = .ok (.aload_n 0, 1) := by decide +kernel
theorem dL_voteFor_3 : decode cL_voteFor 3 = .ok (.iload_n 1, 1) := by decide +kernel
theorem dL_voteFor_4 : decode cL_voteFor 4 = .ok (.iload_n 2, 1) := by decide +kernel
theorem dL_voteFor_5 : decode cL_voteFor 5 = .ok (.invokevirtual 75, 3) := by decide +kernel
theorem dL_voteFor_8 : decode cL_voteFor 8 = .ok (.i2l, 1) := by decide +kernel
theorem dL_voteFor_9 : decode cL_voteFor 9 = .ok (.lastore, 1) := by decide +kernel
theorem dL_voteFor_10 : decode cL_voteFor 10 = .ok (.goto 15, 3) := by decide +kernel
theorem dL_voteFor_13 : decode cL_voteFor 13 = .ok (.astore 4, 2) := by decide +kernel
theorem dL_voteFor_15 : decode cL_voteFor 15 = .ok (.iconst 1, 1) := by decide +kernel
theorem dL_voteFor_16 : decode cL_voteFor 16 = .ok (.ireturn, 1) := by decide +kernel
theorem dL_voteFor_17 : decode cL_voteFor 17 = .ok (.astore 4, 2) := by decide +kernel
theorem dL_voteFor_19 : decode cL_voteFor 19 = .ok (.iconst 2, 1) := by decide +kernel
theorem dL_voteFor_20 : decode cL_voteFor 20 = .ok (.ireturn, 1) := by decide +kernel
theorem dL_voteFor_21 : decode cL_voteFor 21 = .ok (.astore 4, 2) := by decide +kernel
theorem dL_voteFor_23 : decode cL_voteFor 23 = .ok (.iconst 3, 1) := by decide +kernel
theorem dL_voteFor_24 : decode cL_voteFor 24 = .ok (.ireturn, 1) := by decide +kernel
theorem dL_voteFor_25 : decode cL_voteFor 25 = .ok (.iconst 0, 1) := by decide +kernel
theorem dL_voteFor_26 : decode cL_voteFor 26 = .ok (.ireturn, 1) := by decide +kernel
theorem dL_voteAgainst_0 : decode cL_voteAgainst 0 = .ok (.aload_n 3, 1) := by decide +kernel
theorem dL_voteAgainst_1 : decode cL_voteAgainst 1 = .ok (.iconst 0, 1) := by decide +kernel
theorem dL_voteAgainst_2 : decode cL_voteAgainst 2 = .ok (.aload_n 0, 1) := by decide +kernel
theorem dL_voteAgainst_3 : decode cL_voteAgainst 3 = .ok (.iload_n 1, 1) := by decide +kernel
theorem dL_voteAgainst_4 : decode cL_voteAgainst 4 = .ok (.iload_n 2, 1) := by decide +kernel
theorem dL_voteAgainst_5 : decode cL_voteAgainst 5 = .ok (.invokevirtual 78, 3) := by decide +kernel
theorem dL_voteAgainst_8 : decode cL_voteAgainst 8 = .ok (.i2l, 1) := by decide +kernel
theorem dL_voteAgainst_9 : decode cL_voteAgainst 9 = .ok (.lastore, 1) := by decide +kernel
theorem dL_voteAgainst_10 : decode cL_voteAgainst 10 = .ok (.goto 15, 3) := by decide +kernel
theorem dL_voteAgainst_13 : decode cL_voteAgainst 13 = .ok (.astore 4, 2) := by decide +kernel
theorem dL_voteAgainst_15 : decode cL_voteAgainst 15 = .ok (.iconst 1, 1) := by decide +kernel
theorem dL_voteAgainst_16 : decode cL_voteAgainst 16 = .ok (.ireturn, 1) := by decide +kernel
theorem dL_voteAgainst_17 : decode cL_voteAgainst 17 = .ok (.astore 4, 2) := by decide +kernel
theorem dL_voteAgainst_19 : decode cL_voteAgainst 19 = .ok (.iconst 2, 1) := by decide +kernel
theorem dL_voteAgainst_20 : decode cL_voteAgainst 20 = .ok (.ireturn, 1) := by decide +kernel
theorem dL_voteAgainst_21 : decode cL_voteAgainst 21 = .ok (.astore 4, 2) := by decide +kernel
theorem dL_voteAgainst_23 : decode cL_voteAgainst 23 = .ok (.iconst 3, 1) := by decide +kernel
theorem dL_voteAgainst_24 : decode cL_voteAgainst 24 = .ok (.ireturn, 1) := by decide +kernel
theorem dL_voteAgainst_25 : decode cL_voteAgainst 25 = .ok (.iconst 0, 1) := by decide +kernel
theorem dL_voteAgainst_26 : decode cL_voteAgainst 26 = .ok (.ireturn, 1) := by decide +kernel
theorem dL_weightFor_0 : decode cL_weightFor 0 = .ok (.aload_n 2, 1) := by decide +kernel
theorem dL_weightFor_1 : decode cL_weightFor 1 = .ok (.iconst 0, 1) := by decide +kernel
theorem dL_weightFor_2 : decode cL_weightFor 2 = .ok (.aload_n 0, 1) := by decide +kernel
theorem dL_weightFor_3 : decode cL_weightFor 3 = .ok (.iload_n 1, 1) := by decide +kernel
theorem dL_weightFor_4 : decode cL_weightFor 4 = .ok (.invokevirtual 81, 3) := by decide +kernel
theorem dL_weightFor_7 : decode cL_weightFor 7 = .ok (.i2l, 1) := by decide +kernel
theorem dL_weightFor_8 : decode cL_weightFor 8 = .ok (.lastore, 1) := by decide +kernel
theorem dL_weightFor_9 : decode cL_weightFor 9 = .ok (.goto 6, 3) := by decide +kernel
theorem dL_weightFor_12 : decode cL_weightFor 12 = .ok (.astore_n 3, 1) := by decide +kernel
theorem dL_weightFor_13 : decode cL_weightFor 13 = .ok (.iconst 1, 1) := by decide +kernel
theorem dL_weightFor_14 : decode cL_weightFor 14 = .ok (.ireturn, 1) := by decide +kernel
theorem dL_weightFor_15 : decode cL_weightFor 15 = .ok (.iconst 0, 1) := by decide +kernel
theorem dL_weightFor_16 : decode cL_weightFor 16 = .ok (.ireturn, 1) := by decide +kernel
theorem dL_weightForByDigits_0 : decode cL_weightForByDigits 0 = .ok (.aload_n 2, 1) := by decide +kernel
theorem dL_weightForByDigits_1 : decode cL_weightForByDigits 1 = .ok (.iconst 0, 1) := by decide +kernel
theorem dL_weightForByDigits_2 : decode cL_weightForByDigits 2 = .ok (.aload_n 0, 1) := by decide +kernel
theorem dL_weightForByDigits_3 : decode cL_weightForByDigits 3 = .ok (.iload_n 1, 1) := by decide +kernel
theorem dL_weightForByDigits_4 : decode cL_weightForByDigits 4 = .ok (.invokevirtual 84, 3) := by decide +kernel
theorem dL_weightForByDigits_7 : decode cL_weightForByDigits 7 = .ok (.i2l, 1) := by decide +kernel
theorem dL_weightForByDigits_8 : decode cL_weightForByDigits 8 = .ok (.lastore, 1) := by decide +kernel
theorem dL_weightForByDigits_9 : decode cL_weightForByDigits 9 = .ok (.goto 6, 3) := by decide +kernel
theorem dL_weightForByDigits_12 : decode cL_weightForByDigits 12 = .ok (.astore_n 3, 1) := by decide +kernel
theorem dL_weightForByDigits_13 : decode cL_weightForByDigits 13 = .ok (.iconst 1, 1) := by decide +kernel
theorem dL_weightForByDigits_14 : decode cL_weightForByDigits 14 = .ok (.ireturn, 1) := by decide +kernel
theorem dL_weightForByDigits_15 : decode cL_weightForByDigits 15 = .ok (.iconst 0, 1) := by decide +kernel
theorem dL_weightForByDigits_16 : decode cL_weightForByDigits 16 = .ok (.ireturn, 1) := by decide +kernel
theorem dL_weightAgainst_0 : decode cL_weightAgainst 0 = .ok (.aload_n 2, 1) := by decide +kernel
theorem dL_weightAgainst_1 : decode cL_weightAgainst 1 = .ok (.iconst 0, 1) := by decide +kernel
theorem dL_weightAgainst_2 : decode cL_weightAgainst 2 = .ok (.aload_n 0, 1) := by decide +kernel
theorem dL_weightAgainst_3 : decode cL_weightAgainst 3 = .ok (.iload_n 1, 1) := by decide +kernel
theorem dL_weightAgainst_4 : decode cL_weightAgainst 4 = .ok (.invokevirtual 87, 3) := by decide +kernel
theorem dL_weightAgainst_7 : decode cL_weightAgainst 7 = .ok (.i2l, 1) := by decide +kernel
theorem dL_weightAgainst_8 : decode cL_weightAgainst 8 = .ok (.lastore, 1) := by decide +kernel
theorem dL_weightAgainst_9 : decode cL_weightAgainst 9 = .ok (.goto 6, 3) := by decide +kernel
theorem dL_weightAgainst_12 : decode cL_weightAgainst 12 = .ok (.astore_n 3, 1) := by decide +kernel
theorem dL_weightAgainst_13 : decode cL_weightAgainst 13 = .ok (.iconst 1, 1) := by decide +kernel
theorem dL_weightAgainst_14 : decode cL_weightAgainst 14 = .ok (.ireturn, 1) := by decide +kernel
theorem dL_weightAgainst_15 : decode cL_weightAgainst 15 = .ok (.iconst 0, 1) := by decide +kernel
theorem dL_weightAgainst_16 : decode cL_weightAgainst 16 = .ok (.ireturn, 1) := by decide +kernel
theorem dL_closeReading_0 : decode cL_closeReading 0 = .ok (.aload_n 2, 1) := by decide +kernel
theorem dL_closeReading_1 : decode cL_closeReading 1 = .ok (.iconst 0, 1) := by decide +kernel
theorem dL_closeReading_2 : decode cL_closeReading 2 = .ok (.aload_n 0, 1) := by decide +kernel
theorem dL_closeReading_3 : decode cL_closeReading 3 = .ok (.iload_n 1, 1) := by decide +kernel
theorem dL_closeReading_4 : decode cL_closeReading 4 = .ok (.invokevirtual 90, 3) := by decide +kernel
theorem dL_closeReading_7 : decode cL_closeReading 7 = .ok (.ifCond .eq 7, 3) := by decide +kernel
theorem dL_closeReading_10 : decode cL_closeReading 10 = .ok (.lconst 1, 1) := by decide +kernel
theorem dL_closeReading_11 : decode cL_closeReading 11 = .ok (.goto 4, 3) := by decide +kernel
theorem dL_closeReading_14 : decode cL_closeReading 14 = .ok (.lconst 0, 1) := by decide +kernel
theorem dL_closeReading_15 : decode cL_closeReading 15 = .ok (.lastore, 1) := by decide +kernel
theorem dL_closeReading_16 : decode cL_closeReading 16 = .ok (.goto 12, 3) := by decide +kernel
theorem dL_closeReading_19 : decode cL_closeReading 19 = .ok (.astore_n 3, 1) := by decide +kernel
theorem dL_closeReading_20 : decode cL_closeReading 20 = .ok (.iconst 1, 1) := by decide +kernel
theorem dL_closeReading_21 : decode cL_closeReading 21 = .ok (.ireturn, 1) := by decide +kernel
theorem dL_closeReading_22 : decode cL_closeReading 22 = .ok (.astore_n 3, 1) := by decide +kernel
theorem dL_closeReading_23 : decode cL_closeReading 23 = .ok (.iconst 2, 1) := by decide +kernel
theorem dL_closeReading_24 : decode cL_closeReading 24 = .ok (.ireturn, 1) := by decide +kernel
theorem dL_closeReading_25 : decode cL_closeReading 25 = .ok (.astore_n 3, 1) := by decide +kernel
theorem dL_closeReading_26 : decode cL_closeReading 26 = .ok (.iconst 3, 1) := by decide +kernel
theorem dL_closeReading_27 : decode cL_closeReading 27 = .ok (.ireturn, 1) := by decide +kernel
theorem dL_closeReading_28 : decode cL_closeReading 28 = .ok (.iconst 0, 1) := by decide +kernel
theorem dL_closeReading_29 : decode cL_closeReading 29 = .ok (.ireturn, 1) := by decide +kernel
theorem dL_propose_0 : decode cL_propose 0 = .ok (.aload 4, 2) := by decide +kernel
theorem dL_propose_2 : decode cL_propose 2 = .ok (.iconst 0, 1) := by decide +kernel
theorem dL_propose_3 : decode cL_propose 3 = .ok (.aload_n 0, 1) := by decide +kernel
theorem dL_propose_4 : decode cL_propose 4 = .ok (.iload_n 1, 1) := by decide +kernel
theorem dL_propose_5 : decode cL_propose 5 = .ok (.iload_n 2, 1) := by decide +kernel
theorem dL_propose_6 : decode cL_propose 6 = .ok (.iload_n 3, 1) := by decide +kernel
theorem dL_propose_7 : decode cL_propose 7 = .ok (.invokevirtual 93, 3) := by decide +kernel
theorem dL_propose_10 : decode cL_propose 10 = .ok (.i2l, 1) := by decide +kernel
theorem dL_propose_11 : decode cL_propose 11 = .ok (.lastore, 1) := by decide +kernel
theorem dL_propose_12 : decode cL_propose 12 = .ok (.goto 15, 3) := by decide +kernel
theorem dL_propose_15 : decode cL_propose 15 = .ok (.astore 5, 2) := by decide +kernel
theorem dL_propose_17 : decode cL_propose 17 = .ok (.iconst 1, 1) := by decide +kernel
theorem dL_propose_18 : decode cL_propose 18 = .ok (.ireturn, 1) := by decide +kernel
theorem dL_propose_19 : decode cL_propose 19 = .ok (.astore 5, 2) := by decide +kernel
theorem dL_propose_21 : decode cL_propose 21 = .ok (.iconst 2, 1) := by decide +kernel
theorem dL_propose_22 : decode cL_propose 22 = .ok (.ireturn, 1) := by decide +kernel
theorem dL_propose_23 : decode cL_propose 23 = .ok (.astore 5, 2) := by decide +kernel
theorem dL_propose_25 : decode cL_propose 25 = .ok (.iconst 3, 1) := by decide +kernel
theorem dL_propose_26 : decode cL_propose 26 = .ok (.ireturn, 1) := by decide +kernel
theorem dL_propose_27 : decode cL_propose 27 = .ok (.iconst 0, 1) := by decide +kernel
theorem dL_propose_28 : decode cL_propose 28 = .ok (.ireturn, 1) := by decide +kernel
theorem dL_support_0 : decode cL_support 0 = .ok (.aload 4, 2) := by decide +kernel
theorem dL_support_2 : decode cL_support 2 = .ok (.iconst 0, 1) := by decide +kernel
theorem dL_support_3 : decode cL_support 3 = .ok (.aload_n 0, 1) := by decide +kernel
theorem dL_support_4 : decode cL_support 4 = .ok (.iload_n 1, 1) := by decide +kernel
theorem dL_support_5 : decode cL_support 5 = .ok (.iload_n 2, 1) := by decide +kernel
theorem dL_support_6 : decode cL_support 6 = .ok (.iload_n 3, 1) := by decide +kernel
theorem dL_support_7 : decode cL_support 7 = .ok (.invokevirtual 96, 3) := by decide +kernel
theorem dL_support_10 : decode cL_support 10 = .ok (.i2l, 1) := by decide +kernel
theorem dL_support_11 : decode cL_support 11 = .ok (.lastore, 1) := by decide +kernel
theorem dL_support_12 : decode cL_support 12 = .ok (.goto 19, 3) := by decide +kernel
theorem dL_support_15 : decode cL_support 15 = .ok (.astore 5, 2) := by decide +kernel
theorem dL_support_17 : decode cL_support 17 = .ok (.iconst 1, 1) := by decide +kernel
theorem dL_support_18 : decode cL_support 18 = .ok (.ireturn, 1) := by decide +kernel
theorem dL_support_19 : decode cL_support 19 = .ok (.astore 5, 2) := by decide +kernel
theorem dL_support_21 : decode cL_support 21 = .ok (.iconst 2, 1) := by decide +kernel
theorem dL_support_22 : decode cL_support 22 = .ok (.ireturn, 1) := by decide +kernel
theorem dL_support_23 : decode cL_support 23 = .ok (.astore 5, 2) := by decide +kernel
theorem dL_support_25 : decode cL_support 25 = .ok (.iconst 3, 1) := by decide +kernel
theorem dL_support_26 : decode cL_support 26 = .ok (.ireturn, 1) := by decide +kernel
theorem dL_support_27 : decode cL_support 27 = .ok (.astore 5, 2) := by decide +kernel
theorem dL_support_29 : decode cL_support 29 = .ok (.iconst 4, 1) := by decide +kernel
theorem dL_support_30 : decode cL_support 30 = .ok (.ireturn, 1) := by decide +kernel
theorem dL_support_31 : decode cL_support 31 = .ok (.iconst 0, 1) := by decide +kernel
theorem dL_support_32 : decode cL_support 32 = .ok (.ireturn, 1) := by decide +kernel
theorem dL_decide_0 : decode cL_decide 0 = .ok (.aload_n 2, 1) := by decide +kernel
theorem dL_decide_1 : decode cL_decide 1 = .ok (.iconst 0, 1) := by decide +kernel
theorem dL_decide_2 : decode cL_decide 2 = .ok (.aload_n 0, 1) := by decide +kernel
theorem dL_decide_3 : decode cL_decide 3 = .ok (.iload_n 1, 1) := by decide +kernel
theorem dL_decide_4 : decode cL_decide 4 = .ok (.invokevirtual 99, 3) := by decide +kernel
theorem dL_decide_7 : decode cL_decide 7 = .ok (.ifCond .eq 7, 3) := by decide +kernel
theorem dL_decide_10 : decode cL_decide 10 = .ok (.lconst 1, 1) := by decide +kernel
theorem dL_decide_11 : decode cL_decide 11 = .ok (.goto 4, 3) := by decide +kernel
theorem dL_decide_14 : decode cL_decide 14 = .ok (.lconst 0, 1) := by decide +kernel
theorem dL_decide_15 : decode cL_decide 15 = .ok (.lastore, 1) := by decide +kernel
theorem dL_decide_16 : decode cL_decide 16 = .ok (.goto 15, 3) := by decide +kernel
theorem dL_decide_19 : decode cL_decide 19 = .ok (.astore_n 3, 1) := by decide +kernel
theorem dL_decide_20 : decode cL_decide 20 = .ok (.iconst 1, 1) := by decide +kernel
theorem dL_decide_21 : decode cL_decide 21 = .ok (.ireturn, 1) := by decide +kernel
theorem dL_decide_22 : decode cL_decide 22 = .ok (.astore_n 3, 1) := by decide +kernel
theorem dL_decide_23 : decode cL_decide 23 = .ok (.iconst 2, 1) := by decide +kernel
theorem dL_decide_24 : decode cL_decide 24 = .ok (.ireturn, 1) := by decide +kernel
theorem dL_decide_25 : decode cL_decide 25 = .ok (.astore_n 3, 1) := by decide +kernel
theorem dL_decide_26 : decode cL_decide 26 = .ok (.iconst 3, 1) := by decide +kernel
theorem dL_decide_27 : decode cL_decide 27 = .ok (.ireturn, 1) := by decide +kernel
theorem dL_decide_28 : decode cL_decide 28 = .ok (.astore_n 3, 1) := by decide +kernel
theorem dL_decide_29 : decode cL_decide 29 = .ok (.iconst 4, 1) := by decide +kernel
theorem dL_decide_30 : decode cL_decide 30 = .ok (.ireturn, 1) := by decide +kernel
theorem dL_decide_31 : decode cL_decide 31 = .ok (.iconst 0, 1) := by decide +kernel
theorem dL_decide_32 : decode cL_decide 32 = .ok (.ireturn, 1) := by decide +kernel
theorem dL_pendingCount_0 : decode cL_pendingCount 0 = .ok (.aload_n 2, 1) := by decide +kernel
theorem dL_pendingCount_1 : decode cL_pendingCount 1 = .ok (.iconst 0, 1) := by decide +kernel
theorem dL_pendingCount_2 : decode cL_pendingCount 2 = .ok (.aload_n 0, 1) := by decide +kernel
theorem dL_pendingCount_3 : decode cL_pendingCount 3 = .ok (.iload_n 1, 1) := by decide +kernel
theorem dL_pendingCount_4 : decode cL_pendingCount 4 = .ok (.invokevirtual 102, 3) := by decide +kernel
theorem dL_pendingCount_7 : decode cL_pendingCount 7 = .ok (.i2l, 1) := by decide +kernel
theorem dL_pendingCount_8 : decode cL_pendingCount 8 = .ok (.lastore, 1) := by decide +kernel
theorem dL_pendingCount_9 : decode cL_pendingCount 9 = .ok (.goto 6, 3) := by decide +kernel
theorem dL_pendingCount_12 : decode cL_pendingCount 12 = .ok (.astore_n 3, 1) := by decide +kernel
theorem dL_pendingCount_13 : decode cL_pendingCount 13 = .ok (.iconst 1, 1) := by decide +kernel
theorem dL_pendingCount_14 : decode cL_pendingCount 14 = .ok (.ireturn, 1) := by decide +kernel
theorem dL_pendingCount_15 : decode cL_pendingCount 15 = .ok (.iconst 0, 1) := by decide +kernel
theorem dL_pendingCount_16 : decode cL_pendingCount 16 = .ok (.ireturn, 1) := by decide +kernel
theorem dL_amendedClause_0 : decode cL_amendedClause 0 = .ok (.aload_n 3, 1) := by decide +kernel
theorem dL_amendedClause_1 : decode cL_amendedClause 1 = .ok (.iconst 0, 1) := by decide +kernel
theorem dL_amendedClause_2 : decode cL_amendedClause 2 = .ok (.aload_n 0, 1) := by decide +kernel
theorem dL_amendedClause_3 : decode cL_amendedClause 3 = .ok (.iload_n 1, 1) := by decide +kernel
theorem dL_amendedClause_4 : decode cL_amendedClause 4 = .ok (.iload_n 2, 1) := by decide +kernel
theorem dL_amendedClause_5 : decode cL_amendedClause 5 = .ok (.invokevirtual 105, 3) := by decide +kernel
theorem dL_amendedClause_8 : decode cL_amendedClause 8 = .ok (.i2l, 1) := by decide +kernel
theorem dL_amendedClause_9 : decode cL_amendedClause 9 = .ok (.lastore, 1) := by decide +kernel
theorem dL_amendedClause_10 : decode cL_amendedClause 10 = .ok (.goto 11, 3) := by decide +kernel
theorem dL_amendedClause_13 : decode cL_amendedClause 13 = .ok (.astore 4, 2) := by decide +kernel
theorem dL_amendedClause_15 : decode cL_amendedClause 15 = .ok (.iconst 1, 1) := by decide +kernel
theorem dL_amendedClause_16 : decode cL_amendedClause 16 = .ok (.ireturn, 1) := by decide +kernel
theorem dL_amendedClause_17 : decode cL_amendedClause 17 = .ok (.astore 4, 2) := by decide +kernel
theorem dL_amendedClause_19 : decode cL_amendedClause 19 = .ok (.iconst 2, 1) := by decide +kernel
theorem dL_amendedClause_20 : decode cL_amendedClause 20 = .ok (.ireturn, 1) := by decide +kernel
theorem dL_amendedClause_21 : decode cL_amendedClause 21 = .ok (.iconst 0, 1) := by decide +kernel
theorem dL_amendedClause_22 : decode cL_amendedClause 22 = .ok (.ireturn, 1) := by decide +kernel
theorem dL_supportWeight_0 : decode cL_supportWeight 0 = .ok (.aload_n 3, 1) := by decide +kernel
theorem dL_supportWeight_1 : decode cL_supportWeight 1 = .ok (.iconst 0, 1) := by decide +kernel
theorem dL_supportWeight_2 : decode cL_supportWeight 2 = .ok (.aload_n 0, 1) := by decide +kernel
theorem dL_supportWeight_3 : decode cL_supportWeight 3 = .ok (.iload_n 1, 1) := by decide +kernel
theorem dL_supportWeight_4 : decode cL_supportWeight 4 = .ok (.iload_n 2, 1) := by decide +kernel
theorem dL_supportWeight_5 : decode cL_supportWeight 5 = .ok (.invokevirtual 108, 3) := by decide +kernel
theorem dL_supportWeight_8 : decode cL_supportWeight 8 = .ok (.i2l, 1) := by decide +kernel
theorem dL_supportWeight_9 : decode cL_supportWeight 9 = .ok (.lastore, 1) := by decide +kernel
theorem dL_supportWeight_10 : decode cL_supportWeight 10 = .ok (.goto 11, 3) := by decide +kernel
theorem dL_supportWeight_13 : decode cL_supportWeight 13 = .ok (.astore 4, 2) := by decide +kernel
theorem dL_supportWeight_15 : decode cL_supportWeight 15 = .ok (.iconst 1, 1) := by decide +kernel
theorem dL_supportWeight_16 : decode cL_supportWeight 16 = .ok (.ireturn, 1) := by decide +kernel
theorem dL_supportWeight_17 : decode cL_supportWeight 17 = .ok (.astore 4, 2) := by decide +kernel
theorem dL_supportWeight_19 : decode cL_supportWeight 19 = .ok (.iconst 2, 1) := by decide +kernel
theorem dL_supportWeight_20 : decode cL_supportWeight 20 = .ok (.ireturn, 1) := by decide +kernel
theorem dL_supportWeight_21 : decode cL_supportWeight 21 = .ok (.iconst 0, 1) := by decide +kernel
theorem dL_supportWeight_22 : decode cL_supportWeight 22 = .ok (.ireturn, 1) := by decide +kernel
theorem dL_ride_0 : decode cL_ride 0 = .ok (.aload 4, 2) := by decide +kernel
theorem dL_ride_2 : decode cL_ride 2 = .ok (.iconst 0, 1) := by decide +kernel
theorem dL_ride_3 : decode cL_ride 3 = .ok (.aload_n 0, 1) := by decide +kernel
theorem dL_ride_4 : decode cL_ride 4 = .ok (.iload_n 1, 1) := by decide +kernel
theorem dL_ride_5 : decode cL_ride 5 = .ok (.iload_n 2, 1) := by decide +kernel
theorem dL_ride_6 : decode cL_ride 6 = .ok (.iload_n 3, 1) := by decide +kernel
theorem dL_ride_7 : decode cL_ride 7 = .ok (.invokevirtual 111, 3) := by decide +kernel
theorem dL_ride_10 : decode cL_ride 10 = .ok (.i2l, 1) := by decide +kernel
theorem dL_ride_11 : decode cL_ride 11 = .ok (.lastore, 1) := by decide +kernel
theorem dL_ride_12 : decode cL_ride 12 = .ok (.goto 19, 3) := by decide +kernel
theorem dL_ride_15 : decode cL_ride 15 = .ok (.astore 5, 2) := by decide +kernel
theorem dL_ride_17 : decode cL_ride 17 = .ok (.iconst 1, 1) := by decide +kernel
theorem dL_ride_18 : decode cL_ride 18 = .ok (.ireturn, 1) := by decide +kernel
theorem dL_ride_19 : decode cL_ride 19 = .ok (.astore 5, 2) := by decide +kernel
theorem dL_ride_21 : decode cL_ride 21 = .ok (.iconst 2, 1) := by decide +kernel
theorem dL_ride_22 : decode cL_ride 22 = .ok (.ireturn, 1) := by decide +kernel
theorem dL_ride_23 : decode cL_ride 23 = .ok (.astore 5, 2) := by decide +kernel
theorem dL_ride_25 : decode cL_ride 25 = .ok (.iconst 3, 1) := by decide +kernel
theorem dL_ride_26 : decode cL_ride 26 = .ok (.ireturn, 1) := by decide +kernel
theorem dL_ride_27 : decode cL_ride 27 = .ok (.astore 5, 2) := by decide +kernel
theorem dL_ride_29 : decode cL_ride 29 = .ok (.iconst 4, 1) := by decide +kernel
theorem dL_ride_30 : decode cL_ride 30 = .ok (.ireturn, 1) := by decide +kernel
theorem dL_ride_31 : decode cL_ride 31 = .ok (.iconst 0, 1) := by decide +kernel
theorem dL_ride_32 : decode cL_ride 32 = .ok (.ireturn, 1) := by decide +kernel
theorem dL_delay_0 : decode cL_delay 0 = .ok (.aload_n 2, 1) := by decide +kernel
theorem dL_delay_1 : decode cL_delay 1 = .ok (.iconst 0, 1) := by decide +kernel
theorem dL_delay_2 : decode cL_delay 2 = .ok (.aload_n 0, 1) := by decide +kernel
theorem dL_delay_3 : decode cL_delay 3 = .ok (.iload_n 1, 1) := by decide +kernel
theorem dL_delay_4 : decode cL_delay 4 = .ok (.invokevirtual 114, 3) := by decide +kernel
theorem dL_delay_7 : decode cL_delay 7 = .ok (.i2l, 1) := by decide +kernel
theorem dL_delay_8 : decode cL_delay 8 = .ok (.lastore, 1) := by decide +kernel
theorem dL_delay_9 : decode cL_delay 9 = .ok (.goto 6, 3) := by decide +kernel
theorem dL_delay_12 : decode cL_delay 12 = .ok (.astore_n 3, 1) := by decide +kernel
theorem dL_delay_13 : decode cL_delay 13 = .ok (.iconst 1, 1) := by decide +kernel
theorem dL_delay_14 : decode cL_delay 14 = .ok (.ireturn, 1) := by decide +kernel
theorem dL_delay_15 : decode cL_delay 15 = .ok (.iconst 0, 1) := by decide +kernel
theorem dL_delay_16 : decode cL_delay 16 = .ok (.ireturn, 1) := by decide +kernel
theorem dL_rust_0 : decode cL_rust 0 = .ok (.aload_n 2, 1) := by decide +kernel
theorem dL_rust_1 : decode cL_rust 1 = .ok (.iconst 0, 1) := by decide +kernel
theorem dL_rust_2 : decode cL_rust 2 = .ok (.aload_n 0, 1) := by decide +kernel
theorem dL_rust_3 : decode cL_rust 3 = .ok (.iload_n 1, 1) := by decide +kernel
theorem dL_rust_4 : decode cL_rust 4 = .ok (.invokevirtual 117, 3) := by decide +kernel
theorem dL_rust_7 : decode cL_rust 7 = .ok (.i2l, 1) := by decide +kernel
theorem dL_rust_8 : decode cL_rust 8 = .ok (.lastore, 1) := by decide +kernel
theorem dL_rust_9 : decode cL_rust 9 = .ok (.goto 6, 3) := by decide +kernel
theorem dL_rust_12 : decode cL_rust 12 = .ok (.astore_n 3, 1) := by decide +kernel
theorem dL_rust_13 : decode cL_rust 13 = .ok (.iconst 1, 1) := by decide +kernel
theorem dL_rust_14 : decode cL_rust 14 = .ok (.ireturn, 1) := by decide +kernel
theorem dL_rust_15 : decode cL_rust 15 = .ok (.iconst 0, 1) := by decide +kernel
theorem dL_rust_16 : decode cL_rust 16 = .ok (.ireturn, 1) := by decide +kernel
theorem dL_ridesUntilFall_0 : decode cL_ridesUntilFall 0 = .ok (.aload_n 3, 1) := by decide +kernel
theorem dL_ridesUntilFall_1 : decode cL_ridesUntilFall 1 = .ok (.iconst 0, 1) := by decide +kernel
theorem dL_ridesUntilFall_2 : decode cL_ridesUntilFall 2 = .ok (.aload_n 0, 1) := by decide +kernel
theorem dL_ridesUntilFall_3 : decode cL_ridesUntilFall 3 = .ok (.iload_n 1, 1) := by decide +kernel
theorem dL_ridesUntilFall_4 : decode cL_ridesUntilFall 4 = .ok (.iload_n 2, 1) := by decide +kernel
theorem dL_ridesUntilFall_5 : decode cL_ridesUntilFall 5 = .ok (.invokevirtual 120, 3) := by decide +kernel
theorem dL_ridesUntilFall_8 : decode cL_ridesUntilFall 8 = .ok (.i2l, 1) := by decide +kernel
theorem dL_ridesUntilFall_9 : decode cL_ridesUntilFall 9 = .ok (.lastore, 1) := by decide +kernel
theorem dL_ridesUntilFall_10 : decode cL_ridesUntilFall 10 = .ok (.goto 15, 3) := by decide +kernel
theorem dL_ridesUntilFall_13 : decode cL_ridesUntilFall 13 = .ok (.astore 4, 2) := by decide +kernel
theorem dL_ridesUntilFall_15 : decode cL_ridesUntilFall 15 = .ok (.iconst 1, 1) := by decide +kernel
theorem dL_ridesUntilFall_16 : decode cL_ridesUntilFall 16 = .ok (.ireturn, 1) := by decide +kernel
theorem dL_ridesUntilFall_17 : decode cL_ridesUntilFall 17 = .ok (.astore 4, 2) := by decide +kernel
theorem dL_ridesUntilFall_19 : decode cL_ridesUntilFall 19 = .ok (.iconst 2, 1) := by decide +kernel
theorem dL_ridesUntilFall_20 : decode cL_ridesUntilFall 20 = .ok (.ireturn, 1) := by decide +kernel
theorem dL_ridesUntilFall_21 : decode cL_ridesUntilFall 21 = .ok (.astore 4, 2) := by decide +kernel
theorem dL_ridesUntilFall_23 : decode cL_ridesUntilFall 23 = .ok (.iconst 3, 1) := by decide +kernel
theorem dL_ridesUntilFall_24 : decode cL_ridesUntilFall 24 = .ok (.ireturn, 1) := by decide +kernel
theorem dL_ridesUntilFall_25 : decode cL_ridesUntilFall 25 = .ok (.iconst 0, 1) := by decide +kernel
theorem dL_ridesUntilFall_26 : decode cL_ridesUntilFall 26 = .ok (.ireturn, 1) := by decide +kernel
theorem dL_append_0 : decode cL_append 0 = .ok (.aload_n 2, 1) := by decide +kernel
theorem dL_append_1 : decode cL_append 1 = .ok (.iconst 0, 1) := by decide +kernel
theorem dL_append_2 : decode cL_append 2 = .ok (.aload_n 0, 1) := by decide +kernel
theorem dL_append_3 : decode cL_append 3 = .ok (.iload_n 1, 1) := by decide +kernel
theorem dL_append_4 : decode cL_append 4 = .ok (.invokevirtual 123, 3) := by decide +kernel
theorem dL_append_7 : decode cL_append 7 = .ok (.i2l, 1) := by decide +kernel
theorem dL_append_8 : decode cL_append 8 = .ok (.lastore, 1) := by decide +kernel
theorem dL_append_9 : decode cL_append 9 = .ok (.goto 9, 3) := by decide +kernel
theorem dL_append_12 : decode cL_append 12 = .ok (.astore_n 3, 1) := by decide +kernel
theorem dL_append_13 : decode cL_append 13 = .ok (.iconst 1, 1) := by decide +kernel
theorem dL_append_14 : decode cL_append 14 = .ok (.ireturn, 1) := by decide +kernel
theorem dL_append_15 : decode cL_append 15 = .ok (.astore_n 3, 1) := by decide +kernel
theorem dL_append_16 : decode cL_append 16 = .ok (.iconst 2, 1) := by decide +kernel
theorem dL_append_17 : decode cL_append 17 = .ok (.ireturn, 1) := by decide +kernel
theorem dL_append_18 : decode cL_append 18 = .ok (.iconst 0, 1) := by decide +kernel
theorem dL_append_19 : decode cL_append 19 = .ok (.ireturn, 1) := by decide +kernel
theorem dL_run_0 : decode cL_run 0 = .ok (.aload_n 1, 1) := by decide +kernel
theorem dL_run_1 : decode cL_run 1 = .ok (.iconst 0, 1) := by decide +kernel
theorem dL_run_2 : decode cL_run 2 = .ok (.aload_n 0, 1) := by decide +kernel
theorem dL_run_3 : decode cL_run 3 = .ok (.invokevirtual 127, 3) := by decide +kernel
theorem dL_run_6 : decode cL_run 6 = .ok (.i2l, 1) := by decide +kernel
theorem dL_run_7 : decode cL_run 7 = .ok (.lastore, 1) := by decide +kernel
theorem dL_run_8 : decode cL_run 8 = .ok (.goto 9, 3) := by decide +kernel
theorem dL_run_11 : decode cL_run 11 = .ok (.astore_n 2, 1) := by decide +kernel
theorem dL_run_12 : decode cL_run 12 = .ok (.iconst 1, 1) := by decide +kernel
theorem dL_run_13 : decode cL_run 13 = .ok (.ireturn, 1) := by decide +kernel
theorem dL_run_14 : decode cL_run 14 = .ok (.astore_n 2, 1) := by decide +kernel
theorem dL_run_15 : decode cL_run 15 = .ok (.iconst 2, 1) := by decide +kernel
theorem dL_run_16 : decode cL_run 16 = .ok (.ireturn, 1) := by decide +kernel
theorem dL_run_17 : decode cL_run 17 = .ok (.iconst 0, 1) := by decide +kernel
theorem dL_run_18 : decode cL_run 18 = .ok (.ireturn, 1) := by decide +kernel
theorem dL_errorPosition_0 : decode cL_errorPosition 0 = .ok (.aload_n 1, 1) := by decide +kernel
theorem dL_errorPosition_1 : decode cL_errorPosition 1 = .ok (.iconst 0, 1) := by decide +kernel
theorem dL_errorPosition_2 : decode cL_errorPosition 2 = .ok (.aload_n 0, 1) := by decide +kernel
theorem dL_errorPosition_3 : decode cL_errorPosition 3 = .ok (.invokevirtual 131, 3) := by decide +kernel
theorem dL_errorPosition_6 : decode cL_errorPosition 6 = .ok (.i2l, 1) := by decide +kernel
theorem dL_errorPosition_7 : decode cL_errorPosition 7 = .ok (.lastore, 1) := by decide +kernel
theorem dL_errorPosition_8 : decode cL_errorPosition 8 = .ok (.goto 6, 3) := by decide +kernel
theorem dL_errorPosition_11 : decode cL_errorPosition 11 = .ok (.astore_n 2, 1) := by decide +kernel
theorem dL_errorPosition_12 : decode cL_errorPosition 12 = .ok (.iconst 1, 1) := by decide +kernel
theorem dL_errorPosition_13 : decode cL_errorPosition 13 = .ok (.ireturn, 1) := by decide +kernel
theorem dL_errorPosition_14 : decode cL_errorPosition 14 = .ok (.iconst 0, 1) := by decide +kernel
theorem dL_errorPosition_15 : decode cL_errorPosition 15 = .ok (.ireturn, 1) := by decide +kernel
theorem dL_failedCommand_0 : decode cL_failedCommand 0 = .ok (.aload_n 1, 1) := by decide +kernel
theorem dL_failedCommand_1 : decode cL_failedCommand 1 = .ok (.iconst 0, 1) := by decide +kernel
theorem dL_failedCommand_2 : decode cL_failedCommand 2 = .ok (.aload_n 0, 1) := by decide +kernel
theorem dL_failedCommand_3 : decode cL_failedCommand 3 = .ok (.invokevirtual 134, 3) := by decide +kernel
theorem dL_failedCommand_6 : decode cL_failedCommand 6 = .ok (.i2l, 1) := by decide +kernel
theorem dL_failedCommand_7 : decode cL_failedCommand 7 = .ok (.lastore, 1) := by decide +kernel
theorem dL_failedCommand_8 : decode cL_failedCommand 8 = .ok (.goto 6, 3) := by decide +kernel
theorem dL_failedCommand_11 : decode cL_failedCommand 11 = .ok (.astore_n 2, 1) := by decide +kernel
theorem dL_failedCommand_12 : decode cL_failedCommand 12 = .ok (.iconst 1, 1) := by decide +kernel
theorem dL_failedCommand_13 : decode cL_failedCommand 13 = .ok (.ireturn, 1) := by decide +kernel
theorem dL_failedCommand_14 : decode cL_failedCommand 14 = .ok (.iconst 0, 1) := by decide +kernel
theorem dL_failedCommand_15 : decode cL_failedCommand 15 = .ok (.ireturn, 1) := by decide +kernel
theorem dL_describeBill_0 : decode cL_describeBill 0 = .ok (.aload_n 2, 1) := by decide +kernel
theorem dL_describeBill_1 : decode cL_describeBill 1 = .ok (.iconst 0, 1) := by decide +kernel
theorem dL_describeBill_2 : decode cL_describeBill 2 = .ok (.aload_n 0, 1) := by decide +kernel
theorem dL_describeBill_3 : decode cL_describeBill 3 = .ok (.iload_n 1, 1) := by decide +kernel
theorem dL_describeBill_4 : decode cL_describeBill 4 = .ok (.invokevirtual 137, 3) := by decide +kernel
theorem dL_describeBill_7 : decode cL_describeBill 7 = .ok (.i2l, 1) := by decide +kernel
theorem dL_describeBill_8 : decode cL_describeBill 8 = .ok (.lastore, 1) := by decide +kernel
theorem dL_describeBill_9 : decode cL_describeBill 9 = .ok (.goto 6, 3) := by decide +kernel
theorem dL_describeBill_12 : decode cL_describeBill 12 = .ok (.astore_n 3, 1) := by decide +kernel
theorem dL_describeBill_13 : decode cL_describeBill 13 = .ok (.iconst 1, 1) := by decide +kernel
theorem dL_describeBill_14 : decode cL_describeBill 14 = .ok (.ireturn, 1) := by decide +kernel
theorem dL_describeBill_15 : decode cL_describeBill 15 = .ok (.iconst 0, 1) := by decide +kernel
theorem dL_describeBill_16 : decode cL_describeBill 16 = .ok (.ireturn, 1) := by decide +kernel
theorem dL_lineAt_0 : decode cL_lineAt 0 = .ok (.aload_n 2, 1) := by decide +kernel
theorem dL_lineAt_1 : decode cL_lineAt 1 = .ok (.iconst 0, 1) := by decide +kernel
theorem dL_lineAt_2 : decode cL_lineAt 2 = .ok (.aload_n 0, 1) := by decide +kernel
theorem dL_lineAt_3 : decode cL_lineAt 3 = .ok (.iload_n 1, 1) := by decide +kernel
theorem dL_lineAt_4 : decode cL_lineAt 4 = .ok (.invokevirtual 140, 3) := by decide +kernel
theorem dL_lineAt_7 : decode cL_lineAt 7 = .ok (.i2l, 1) := by decide +kernel
theorem dL_lineAt_8 : decode cL_lineAt 8 = .ok (.lastore, 1) := by decide +kernel
theorem dL_lineAt_9 : decode cL_lineAt 9 = .ok (.goto 6, 3) := by decide +kernel
theorem dL_lineAt_12 : decode cL_lineAt 12 = .ok (.astore_n 3, 1) := by decide +kernel
theorem dL_lineAt_13 : decode cL_lineAt 13 = .ok (.iconst 1, 1) := by decide +kernel
theorem dL_lineAt_14 : decode cL_lineAt 14 = .ok (.ireturn, 1) := by decide +kernel
theorem dL_lineAt_15 : decode cL_lineAt 15 = .ok (.iconst 0, 1) := by decide +kernel
theorem dL_lineAt_16 : decode cL_lineAt 16 = .ok (.ireturn, 1) := by decide +kernel
theorem dL_meanWeight_0 : decode cL_meanWeight 0 = .ok (.aload_n 1, 1) := by decide +kernel
theorem dL_meanWeight_1 : decode cL_meanWeight 1 = .ok (.iconst 0, 1) := by decide +kernel
theorem dL_meanWeight_2 : decode cL_meanWeight 2 = .ok (.aload_n 0, 1) := by decide +kernel
theorem dL_meanWeight_3 : decode cL_meanWeight 3 = .ok (.invokevirtual 144, 3) := by decide +kernel
theorem dL_meanWeight_6 : decode cL_meanWeight 6 = .ok (.dastore, 1) := by decide +kernel
theorem dL_meanWeight_7 : decode cL_meanWeight 7 = .ok (.goto 6, 3) := by decide +kernel
theorem dL_meanWeight_10 : decode cL_meanWeight 10 = .ok (.astore_n 2, 1) := by decide +kernel
theorem dL_meanWeight_11 : decode cL_meanWeight 11 = .ok (.iconst 1, 1) := by decide +kernel
theorem dL_meanWeight_12 : decode cL_meanWeight 12 = .ok (.ireturn, 1) := by decide +kernel
theorem dL_meanWeight_13 : decode cL_meanWeight 13 = .ok (.iconst 0, 1) := by decide +kernel
theorem dL_meanWeight_14 : decode cL_meanWeight 14 = .ok (.ireturn, 1) := by decide +kernel
theorem dL_shareBits_0 : decode cL_shareBits 0 = .ok (.aload_n 2, 1) := by decide +kernel
theorem dL_shareBits_1 : decode cL_shareBits 1 = .ok (.iconst 0, 1) := by decide +kernel
theorem dL_shareBits_2 : decode cL_shareBits 2 = .ok (.aload_n 0, 1) := by decide +kernel
theorem dL_shareBits_3 : decode cL_shareBits 3 = .ok (.iload_n 1, 1) := by decide +kernel
theorem dL_shareBits_4 : decode cL_shareBits 4 = .ok (.invokevirtual 150, 3) := by decide +kernel
theorem dL_shareBits_7 : decode cL_shareBits 7 = .ok (.i2l, 1) := by decide +kernel
theorem dL_shareBits_8 : decode cL_shareBits 8 = .ok (.lastore, 1) := by decide +kernel
theorem dL_shareBits_9 : decode cL_shareBits 9 = .ok (.goto 9, 3) := by decide +kernel
theorem dL_shareBits_12 : decode cL_shareBits 12 = .ok (.astore_n 3, 1) := by decide +kernel
theorem dL_shareBits_13 : decode cL_shareBits 13 = .ok (.iconst 1, 1) := by decide +kernel
theorem dL_shareBits_14 : decode cL_shareBits 14 = .ok (.ireturn, 1) := by decide +kernel
theorem dL_shareBits_15 : decode cL_shareBits 15 = .ok (.astore_n 3, 1) := by decide +kernel
theorem dL_shareBits_16 : decode cL_shareBits 16 = .ok (.iconst 2, 1) := by decide +kernel
theorem dL_shareBits_17 : decode cL_shareBits 17 = .ok (.ireturn, 1) := by decide +kernel
theorem dL_shareBits_18 : decode cL_shareBits 18 = .ok (.iconst 0, 1) := by decide +kernel
theorem dL_shareBits_19 : decode cL_shareBits 19 = .ok (.ireturn, 1) := by decide +kernel
theorem dL_undo_0 : decode cL_undo 0 = .ok (.aload_n 1, 1) := by decide +kernel
theorem dL_undo_1 : decode cL_undo 1 = .ok (.iconst 0, 1) := by decide +kernel
theorem dL_undo_2 : decode cL_undo 2 = .ok (.aload_n 0, 1) := by decide +kernel
theorem dL_undo_3 : decode cL_undo 3 = .ok (.invokevirtual 153, 3) := by decide +kernel
theorem dL_undo_6 : decode cL_undo 6 = .ok (.i2l, 1) := by decide +kernel
theorem dL_undo_7 : decode cL_undo 7 = .ok (.lastore, 1) := by decide +kernel
theorem dL_undo_8 : decode cL_undo 8 = .ok (.goto 6, 3) := by decide +kernel
theorem dL_undo_11 : decode cL_undo 11 = .ok (.astore_n 2, 1) := by decide +kernel
theorem dL_undo_12 : decode cL_undo 12 = .ok (.iconst 1, 1) := by decide +kernel
theorem dL_undo_13 : decode cL_undo 13 = .ok (.ireturn, 1) := by decide +kernel
theorem dL_undo_14 : decode cL_undo 14 = .ok (.iconst 0, 1) := by decide +kernel
theorem dL_undo_15 : decode cL_undo 15 = .ok (.ireturn, 1) := by decide +kernel
theorem dL_restore_0 : decode cL_restore 0 = .ok (.aload_n 1, 1) := by decide +kernel
theorem dL_restore_1 : decode cL_restore 1 = .ok (.iconst 0, 1) := by decide +kernel
theorem dL_restore_2 : decode cL_restore 2 = .ok (.aload_n 0, 1) := by decide +kernel
theorem dL_restore_3 : decode cL_restore 3 = .ok (.invokevirtual 156, 3) := by decide +kernel
theorem dL_restore_6 : decode cL_restore 6 = .ok (.i2l, 1) := by decide +kernel
theorem dL_restore_7 : decode cL_restore 7 = .ok (.lastore, 1) := by decide +kernel
theorem dL_restore_8 : decode cL_restore 8 = .ok (.goto 6, 3) := by decide +kernel
theorem dL_restore_11 : decode cL_restore 11 = .ok (.astore_n 2, 1) := by decide +kernel
theorem dL_restore_12 : decode cL_restore 12 = .ok (.iconst 1, 1) := by decide +kernel
theorem dL_restore_13 : decode cL_restore 13 = .ok (.ireturn, 1) := by decide +kernel
theorem dL_restore_14 : decode cL_restore 14 = .ok (.iconst 0, 1) := by decide +kernel
theorem dL_restore_15 : decode cL_restore 15 = .ok (.ireturn, 1) := by decide +kernel
theorem dL_law_0 : decode cL_law 0 = .ok (.new 8, 3) := by decide +kernel
theorem dL_law_3 : decode cL_law 3 = .ok (.dup, 1) := by decide +kernel
theorem dL_law_4 : decode cL_law 4 = .ok (.invokespecial 159, 3) := by decide +kernel
theorem dL_law_7 : decode cL_law 7 = .ok (.astore_n 1, 1) := by decide +kernel
theorem dL_law_8 : decode cL_law 8 = .ok (.new 160, 3) := by decide +kernel
theorem dL_law_11 : decode cL_law 11 = .ok (.dup, 1) := by decide +kernel
theorem dL_law_12 : decode cL_law 12 = .ok (.invokespecial 162, 3) := by decide +kernel
theorem dL_law_15 : decode cL_law 15 = .ok (.astore_n 2, 1) := by decide +kernel
theorem dL_law_16 : decode cL_law 16 = .ok (.iconst 1, 1) := by decide +kernel
theorem dL_law_17 : decode cL_law 17 = .ok (.newarray .long, 2) := by decide +kernel
theorem dL_law_19 : decode cL_law 19 = .ok (.astore_n 3, 1) := by decide +kernel
theorem dL_law_20 : decode cL_law 20 = .ok (.iconst 1, 1) := by decide +kernel
theorem dL_law_21 : decode cL_law 21 = .ok (.newarray .double, 2) := by decide +kernel
theorem dL_law_23 : decode cL_law 23 = .ok (.astore 4, 2) := by decide +kernel
theorem dL_law_25 : decode cL_law 25 = .ok (.iconst 0, 1) := by decide +kernel
theorem dL_law_26 : decode cL_law 26 = .ok (.istore 5, 2) := by decide +kernel
theorem dL_law_28 : decode cL_law 28 = .ok (.iload 5, 2) := by decide +kernel
theorem dL_law_30 : decode cL_law 30 = .ok (.aload_n 0, 1) := by decide +kernel
theorem dL_law_31 : decode cL_law 31 = .ok (.arraylength, 1) := by decide +kernel
theorem dL_law_32 : decode cL_law 32 = .ok (.iconst 4, 1) := by decide +kernel
theorem dL_law_33 : decode cL_law 33 = .ok (.isub, 1) := by decide +kernel
theorem dL_law_34 : decode cL_law 34 = .ok (.if_icmp .gt 2952, 3) := by decide +kernel
theorem dL_law_37 : decode cL_law 37 = .ok (.aload_n 0, 1) := by decide +kernel
theorem dL_law_38 : decode cL_law 38 = .ok (.iload 5, 2) := by decide +kernel
theorem dL_law_40 : decode cL_law 40 = .ok (.iaload, 1) := by decide +kernel
theorem dL_law_41 : decode cL_law 41 = .ok (.bipush 63, 2) := by decide +kernel
theorem dL_law_43 : decode cL_law 43 = .ok (.iand, 1) := by decide +kernel
theorem dL_law_44 : decode cL_law 44 = .ok (.tableswitch 2936 0 53 #[232, 300, 356, 412, 468, 481, 537, 593, 656, 669, 682, 695, 751, 764, 844, 857, 920, 983, 1039, 1094, 1150, 1206, 1262, 1318, 1386, 1454, 1510, 1566, 1622, 1685, 1765, 1845, 1908, 1964, 2032, 2100, 2180, 2236, 2292, 2360, 2373, 2386, 2399, 2457, 2501, 2545, 2589, 2645, 2701, 2766, 2822, 2835, 2879, 2892], 232) := by decide +kernel
theorem dL_law_276 : decode cL_law 276 = .ok (.aload_n 1, 1) := by decide +kernel
theorem dL_law_277 : decode cL_law 277 = .ok (.aload_n 0, 1) := by decide +kernel
theorem dL_law_278 : decode cL_law 278 = .ok (.iload 5, 2) := by decide +kernel
theorem dL_law_280 : decode cL_law 280 = .ok (.iconst 1, 1) := by decide +kernel
theorem dL_law_281 : decode cL_law 281 = .ok (.iadd, 1) := by decide +kernel
theorem dL_law_282 : decode cL_law 282 = .ok (.iaload, 1) := by decide +kernel
theorem dL_law_283 : decode cL_law 283 = .ok (.aload_n 0, 1) := by decide +kernel
theorem dL_law_284 : decode cL_law 284 = .ok (.iload 5, 2) := by decide +kernel
theorem dL_law_286 : decode cL_law 286 = .ok (.iconst 2, 1) := by decide +kernel
theorem dL_law_287 : decode cL_law 287 = .ok (.iadd, 1) := by decide +kernel
theorem dL_law_288 : decode cL_law 288 = .ok (.iaload, 1) := by decide +kernel
theorem dL_law_289 : decode cL_law 289 = .ok (.aload_n 3, 1) := by decide +kernel
theorem dL_law_290 : decode cL_law 290 = .ok (.invokestatic 163, 3) := by decide +kernel
theorem dL_law_293 : decode cL_law 293 = .ok (.istore 6, 2) := by decide +kernel
theorem dL_law_295 : decode cL_law 295 = .ok (.aload_n 2, 1) := by decide +kernel
theorem dL_law_296 : decode cL_law 296 = .ok (.aload_n 0, 1) := by decide +kernel
theorem dL_law_297 : decode cL_law 297 = .ok (.iload 5, 2) := by decide +kernel
theorem dL_law_299 : decode cL_law 299 = .ok (.iconst 1, 1) := by decide +kernel
theorem dL_law_300 : decode cL_law 300 = .ok (.iadd, 1) := by decide +kernel
theorem dL_law_301 : decode cL_law 301 = .ok (.iaload, 1) := by decide +kernel
theorem dL_law_302 : decode cL_law 302 = .ok (.aload_n 0, 1) := by decide +kernel
theorem dL_law_303 : decode cL_law 303 = .ok (.iload 5, 2) := by decide +kernel
theorem dL_law_305 : decode cL_law 305 = .ok (.iconst 2, 1) := by decide +kernel
theorem dL_law_306 : decode cL_law 306 = .ok (.iadd, 1) := by decide +kernel
theorem dL_law_307 : decode cL_law 307 = .ok (.iaload, 1) := by decide +kernel
theorem dL_law_308 : decode cL_law 308 = .ok (.invokevirtual 168, 3) := by decide +kernel
theorem dL_law_311 : decode cL_law 311 = .ok (.istore 7, 2) := by decide +kernel
theorem dL_law_313 : decode cL_law 313 = .ok (.aload_n 2, 1) := by decide +kernel
theorem dL_law_314 : decode cL_law 314 = .ok (.invokevirtual 169, 3) := by decide +kernel
theorem dL_law_317 : decode cL_law 317 = .ok (.iload 6, 2) := by decide +kernel
theorem dL_law_319 : decode cL_law 319 = .ok (.if_icmp .eq 5, 3) := by decide +kernel
theorem dL_law_322 : decode cL_law 322 = .ok (.iconst 0, 1) := by decide +kernel
theorem dL_law_323 : decode cL_law 323 = .ok (.ireturn, 1) := by decide +kernel
theorem dL_law_324 : decode cL_law 324 = .ok (.iload 6, 2) := by decide +kernel
theorem dL_law_326 : decode cL_law 326 = .ok (.ifCond .ne 15, 3) := by decide +kernel
theorem dL_law_329 : decode cL_law 329 = .ok (.aload_n 3, 1) := by decide +kernel
theorem dL_law_330 : decode cL_law 330 = .ok (.iconst 0, 1) := by decide +kernel
theorem dL_law_331 : decode cL_law 331 = .ok (.laload, 1) := by decide +kernel
theorem dL_law_332 : decode cL_law 332 = .ok (.iload 7, 2) := by decide +kernel
theorem dL_law_334 : decode cL_law 334 = .ok (.i2l, 1) := by decide +kernel
theorem dL_law_335 : decode cL_law 335 = .ok (.lcmp, 1) := by decide +kernel
theorem dL_law_336 : decode cL_law 336 = .ok (.ifCond .eq 5, 3) := by decide +kernel
theorem dL_law_339 : decode cL_law 339 = .ok (.iconst 0, 1) := by decide +kernel
theorem dL_law_340 : decode cL_law 340 = .ok (.ireturn, 1) := by decide +kernel
theorem dL_law_341 : decode cL_law 341 = .ok (.goto 2639, 3) := by decide +kernel
theorem dL_law_344 : decode cL_law 344 = .ok (.aload_n 1, 1) := by decide +kernel
theorem dL_law_345 : decode cL_law 345 = .ok (.aload_n 0, 1) := by decide +kernel
theorem dL_law_346 : decode cL_law 346 = .ok (.iload 5, 2) := by decide +kernel
theorem dL_law_348 : decode cL_law 348 = .ok (.iconst 1, 1) := by decide +kernel
theorem dL_law_349 : decode cL_law 349 = .ok (.iadd, 1) := by decide +kernel
theorem dL_law_350 : decode cL_law 350 = .ok (.iaload, 1) := by decide +kernel
theorem dL_law_351 : decode cL_law 351 = .ok (.aload_n 3, 1) := by decide +kernel
theorem dL_law_352 : decode cL_law 352 = .ok (.invokestatic 172, 3) := by decide +kernel
theorem dL_law_355 : decode cL_law 355 = .ok (.istore 6, 2) := by decide +kernel
theorem dL_law_357 : decode cL_law 357 = .ok (.aload_n 2, 1) := by decide +kernel
theorem dL_law_358 : decode cL_law 358 = .ok (.aload_n 0, 1) := by decide +kernel
theorem dL_law_359 : decode cL_law 359 = .ok (.iload 5, 2) := by decide +kernel
theorem dL_law_361 : decode cL_law 361 = .ok (.iconst 1, 1) := by decide +kernel
theorem dL_law_362 : decode cL_law 362 = .ok (.iadd, 1) := by decide +kernel
theorem dL_law_363 : decode cL_law 363 = .ok (.iaload, 1) := by decide +kernel
theorem dL_law_364 : decode cL_law 364 = .ok (.invokevirtual 175, 3) := by decide +kernel
theorem dL_law_367 : decode cL_law 367 = .ok (.istore 7, 2) := by decide +kernel
theorem dL_law_369 : decode cL_law 369 = .ok (.aload_n 2, 1) := by decide +kernel
theorem dL_law_370 : decode cL_law 370 = .ok (.invokevirtual 169, 3) := by decide +kernel
theorem dL_law_373 : decode cL_law 373 = .ok (.iload 6, 2) := by decide +kernel
theorem dL_law_375 : decode cL_law 375 = .ok (.if_icmp .eq 5, 3) := by decide +kernel
theorem dL_law_378 : decode cL_law 378 = .ok (.iconst 0, 1) := by decide +kernel
theorem dL_law_379 : decode cL_law 379 = .ok (.ireturn, 1) := by decide +kernel
theorem dL_law_380 : decode cL_law 380 = .ok (.iload 6, 2) := by decide +kernel
theorem dL_law_382 : decode cL_law 382 = .ok (.ifCond .ne 15, 3) := by decide +kernel
theorem dL_law_385 : decode cL_law 385 = .ok (.aload_n 3, 1) := by decide +kernel
theorem dL_law_386 : decode cL_law 386 = .ok (.iconst 0, 1) := by decide +kernel
theorem dL_law_387 : decode cL_law 387 = .ok (.laload, 1) := by decide +kernel
theorem dL_law_388 : decode cL_law 388 = .ok (.iload 7, 2) := by decide +kernel
theorem dL_law_390 : decode cL_law 390 = .ok (.i2l, 1) := by decide +kernel
theorem dL_law_391 : decode cL_law 391 = .ok (.lcmp, 1) := by decide +kernel
theorem dL_law_392 : decode cL_law 392 = .ok (.ifCond .eq 5, 3) := by decide +kernel
theorem dL_law_395 : decode cL_law 395 = .ok (.iconst 0, 1) := by decide +kernel
theorem dL_law_396 : decode cL_law 396 = .ok (.ireturn, 1) := by decide +kernel
theorem dL_law_397 : decode cL_law 397 = .ok (.goto 2583, 3) := by decide +kernel
theorem dL_law_400 : decode cL_law 400 = .ok (.aload_n 1, 1) := by decide +kernel
theorem dL_law_401 : decode cL_law 401 = .ok (.aload_n 0, 1) := by decide +kernel
theorem dL_law_402 : decode cL_law 402 = .ok (.iload 5, 2) := by decide +kernel
theorem dL_law_404 : decode cL_law 404 = .ok (.iconst 1, 1) := by decide +kernel
theorem dL_law_405 : decode cL_law 405 = .ok (.iadd, 1) := by decide +kernel
theorem dL_law_406 : decode cL_law 406 = .ok (.iaload, 1) := by decide +kernel
theorem dL_law_407 : decode cL_law 407 = .ok (.aload_n 3, 1) := by decide +kernel
theorem dL_law_408 : decode cL_law 408 = .ok (.invokestatic 176, 3) := by decide +kernel
theorem dL_law_411 : decode cL_law 411 = .ok (.istore 6, 2) := by decide +kernel
theorem dL_law_413 : decode cL_law 413 = .ok (.aload_n 2, 1) := by decide +kernel
theorem dL_law_414 : decode cL_law 414 = .ok (.aload_n 0, 1) := by decide +kernel
theorem dL_law_415 : decode cL_law 415 = .ok (.iload 5, 2) := by decide +kernel
theorem dL_law_417 : decode cL_law 417 = .ok (.iconst 1, 1) := by decide +kernel
theorem dL_law_418 : decode cL_law 418 = .ok (.iadd, 1) := by decide +kernel
theorem dL_law_419 : decode cL_law 419 = .ok (.iaload, 1) := by decide +kernel
theorem dL_law_420 : decode cL_law 420 = .ok (.invokevirtual 178, 3) := by decide +kernel
theorem dL_law_423 : decode cL_law 423 = .ok (.istore 7, 2) := by decide +kernel
theorem dL_law_425 : decode cL_law 425 = .ok (.aload_n 2, 1) := by decide +kernel
theorem dL_law_426 : decode cL_law 426 = .ok (.invokevirtual 169, 3) := by decide +kernel
theorem dL_law_429 : decode cL_law 429 = .ok (.iload 6, 2) := by decide +kernel
theorem dL_law_431 : decode cL_law 431 = .ok (.if_icmp .eq 5, 3) := by decide +kernel
theorem dL_law_434 : decode cL_law 434 = .ok (.iconst 0, 1) := by decide +kernel
theorem dL_law_435 : decode cL_law 435 = .ok (.ireturn, 1) := by decide +kernel
theorem dL_law_436 : decode cL_law 436 = .ok (.iload 6, 2) := by decide +kernel
theorem dL_law_438 : decode cL_law 438 = .ok (.ifCond .ne 15, 3) := by decide +kernel
theorem dL_law_441 : decode cL_law 441 = .ok (.aload_n 3, 1) := by decide +kernel
theorem dL_law_442 : decode cL_law 442 = .ok (.iconst 0, 1) := by decide +kernel
theorem dL_law_443 : decode cL_law 443 = .ok (.laload, 1) := by decide +kernel
theorem dL_law_444 : decode cL_law 444 = .ok (.iload 7, 2) := by decide +kernel
theorem dL_law_446 : decode cL_law 446 = .ok (.i2l, 1) := by decide +kernel
theorem dL_law_447 : decode cL_law 447 = .ok (.lcmp, 1) := by decide +kernel
theorem dL_law_448 : decode cL_law 448 = .ok (.ifCond .eq 5, 3) := by decide +kernel
theorem dL_law_451 : decode cL_law 451 = .ok (.iconst 0, 1) := by decide +kernel
theorem dL_law_452 : decode cL_law 452 = .ok (.ireturn, 1) := by decide +kernel
theorem dL_law_453 : decode cL_law 453 = .ok (.goto 2527, 3) := by decide +kernel
theorem dL_law_456 : decode cL_law 456 = .ok (.aload_n 1, 1) := by decide +kernel
theorem dL_law_457 : decode cL_law 457 = .ok (.aload_n 0, 1) := by decide +kernel
theorem dL_law_458 : decode cL_law 458 = .ok (.iload 5, 2) := by decide +kernel
theorem dL_law_460 : decode cL_law 460 = .ok (.iconst 1, 1) := by decide +kernel
theorem dL_law_461 : decode cL_law 461 = .ok (.iadd, 1) := by decide +kernel
theorem dL_law_462 : decode cL_law 462 = .ok (.iaload, 1) := by decide +kernel
theorem dL_law_463 : decode cL_law 463 = .ok (.aload_n 3, 1) := by decide +kernel
theorem dL_law_464 : decode cL_law 464 = .ok (.invokestatic 179, 3) := by decide +kernel
theorem dL_law_467 : decode cL_law 467 = .ok (.istore 6, 2) := by decide +kernel
theorem dL_law_469 : decode cL_law 469 = .ok (.aload_n 2, 1) := by decide +kernel
theorem dL_law_470 : decode cL_law 470 = .ok (.aload_n 0, 1) := by decide +kernel
theorem dL_law_471 : decode cL_law 471 = .ok (.iload 5, 2) := by decide +kernel
theorem dL_law_473 : decode cL_law 473 = .ok (.iconst 1, 1) := by decide +kernel
theorem dL_law_474 : decode cL_law 474 = .ok (.iadd, 1) := by decide +kernel
theorem dL_law_475 : decode cL_law 475 = .ok (.iaload, 1) := by decide +kernel
theorem dL_law_476 : decode cL_law 476 = .ok (.invokevirtual 181, 3) := by decide +kernel
theorem dL_law_479 : decode cL_law 479 = .ok (.istore 7, 2) := by decide +kernel
theorem dL_law_481 : decode cL_law 481 = .ok (.aload_n 2, 1) := by decide +kernel
theorem dL_law_482 : decode cL_law 482 = .ok (.invokevirtual 169, 3) := by decide +kernel
theorem dL_law_485 : decode cL_law 485 = .ok (.iload 6, 2) := by decide +kernel
theorem dL_law_487 : decode cL_law 487 = .ok (.if_icmp .eq 5, 3) := by decide +kernel
theorem dL_law_490 : decode cL_law 490 = .ok (.iconst 0, 1) := by decide +kernel
theorem dL_law_491 : decode cL_law 491 = .ok (.ireturn, 1) := by decide +kernel
theorem dL_law_492 : decode cL_law 492 = .ok (.iload 6, 2) := by decide +kernel
theorem dL_law_494 : decode cL_law 494 = .ok (.ifCond .ne 15, 3) := by decide +kernel
theorem dL_law_497 : decode cL_law 497 = .ok (.aload_n 3, 1) := by decide +kernel
theorem dL_law_498 : decode cL_law 498 = .ok (.iconst 0, 1) := by decide +kernel
theorem dL_law_499 : decode cL_law 499 = .ok (.laload, 1) := by decide +kernel
theorem dL_law_500 : decode cL_law 500 = .ok (.iload 7, 2) := by decide +kernel
theorem dL_law_502 : decode cL_law 502 = .ok (.i2l, 1) := by decide +kernel
theorem dL_law_503 : decode cL_law 503 = .ok (.lcmp, 1) := by decide +kernel
theorem dL_law_504 : decode cL_law 504 = .ok (.ifCond .eq 5, 3) := by decide +kernel
theorem dL_law_507 : decode cL_law 507 = .ok (.iconst 0, 1) := by decide +kernel
theorem dL_law_508 : decode cL_law 508 = .ok (.ireturn, 1) := by decide +kernel
theorem dL_law_509 : decode cL_law 509 = .ok (.goto 2471, 3) := by decide +kernel
theorem dL_law_512 : decode cL_law 512 = .ok (.aload_n 1, 1) := by decide +kernel
theorem dL_law_513 : decode cL_law 513 = .ok (.invokevirtual 182, 3) := by decide +kernel
theorem dL_law_516 : decode cL_law 516 = .ok (.aload_n 2, 1) := by decide +kernel
theorem dL_law_517 : decode cL_law 517 = .ok (.invokevirtual 185, 3) := by decide +kernel
theorem dL_law_520 : decode cL_law 520 = .ok (.if_icmp .eq 2460, 3) := by decide +kernel
theorem dL_law_523 : decode cL_law 523 = .ok (.iconst 0, 1) := by decide +kernel
theorem dL_law_524 : decode cL_law 524 = .ok (.ireturn, 1) := by decide +kernel
theorem dL_law_525 : decode cL_law 525 = .ok (.aload_n 1, 1) := by decide +kernel
theorem dL_law_526 : decode cL_law 526 = .ok (.aload_n 0, 1) := by decide +kernel
theorem dL_law_527 : decode cL_law 527 = .ok (.iload 5, 2) := by decide +kernel
theorem dL_law_529 : decode cL_law 529 = .ok (.iconst 1, 1) := by decide +kernel
theorem dL_law_530 : decode cL_law 530 = .ok (.iadd, 1) := by decide +kernel
theorem dL_law_531 : decode cL_law 531 = .ok (.iaload, 1) := by decide +kernel
theorem dL_law_532 : decode cL_law 532 = .ok (.aload_n 3, 1) := by decide +kernel
theorem dL_law_533 : decode cL_law 533 = .ok (.invokestatic 186, 3) := by decide +kernel
theorem dL_law_536 : decode cL_law 536 = .ok (.istore 6, 2) := by decide +kernel
theorem dL_law_538 : decode cL_law 538 = .ok (.aload_n 2, 1) := by decide +kernel
theorem dL_law_539 : decode cL_law 539 = .ok (.aload_n 0, 1) := by decide +kernel
theorem dL_law_540 : decode cL_law 540 = .ok (.iload 5, 2) := by decide +kernel
theorem dL_law_542 : decode cL_law 542 = .ok (.iconst 1, 1) := by decide +kernel
theorem dL_law_543 : decode cL_law 543 = .ok (.iadd, 1) := by decide +kernel
theorem dL_law_544 : decode cL_law 544 = .ok (.iaload, 1) := by decide +kernel
theorem dL_law_545 : decode cL_law 545 = .ok (.invokevirtual 188, 3) := by decide +kernel
theorem dL_law_548 : decode cL_law 548 = .ok (.istore 7, 2) := by decide +kernel
theorem dL_law_550 : decode cL_law 550 = .ok (.aload_n 2, 1) := by decide +kernel
theorem dL_law_551 : decode cL_law 551 = .ok (.invokevirtual 169, 3) := by decide +kernel
theorem dL_law_554 : decode cL_law 554 = .ok (.iload 6, 2) := by decide +kernel
theorem dL_law_556 : decode cL_law 556 = .ok (.if_icmp .eq 5, 3) := by decide +kernel
theorem dL_law_559 : decode cL_law 559 = .ok (.iconst 0, 1) := by decide +kernel
theorem dL_law_560 : decode cL_law 560 = .ok (.ireturn, 1) := by decide +kernel
theorem dL_law_561 : decode cL_law 561 = .ok (.iload 6, 2) := by decide +kernel
theorem dL_law_563 : decode cL_law 563 = .ok (.ifCond .ne 15, 3) := by decide +kernel
theorem dL_law_566 : decode cL_law 566 = .ok (.aload_n 3, 1) := by decide +kernel
theorem dL_law_567 : decode cL_law 567 = .ok (.iconst 0, 1) := by decide +kernel
theorem dL_law_568 : decode cL_law 568 = .ok (.laload, 1) := by decide +kernel
theorem dL_law_569 : decode cL_law 569 = .ok (.iload 7, 2) := by decide +kernel
theorem dL_law_571 : decode cL_law 571 = .ok (.i2l, 1) := by decide +kernel
theorem dL_law_572 : decode cL_law 572 = .ok (.lcmp, 1) := by decide +kernel
theorem dL_law_573 : decode cL_law 573 = .ok (.ifCond .eq 5, 3) := by decide +kernel
theorem dL_law_576 : decode cL_law 576 = .ok (.iconst 0, 1) := by decide +kernel
theorem dL_law_577 : decode cL_law 577 = .ok (.ireturn, 1) := by decide +kernel
theorem dL_law_578 : decode cL_law 578 = .ok (.goto 2402, 3) := by decide +kernel
theorem dL_law_581 : decode cL_law 581 = .ok (.aload_n 1, 1) := by decide +kernel
theorem dL_law_582 : decode cL_law 582 = .ok (.aload_n 0, 1) := by decide +kernel
theorem dL_law_583 : decode cL_law 583 = .ok (.iload 5, 2) := by decide +kernel
theorem dL_law_585 : decode cL_law 585 = .ok (.iconst 1, 1) := by decide +kernel
theorem dL_law_586 : decode cL_law 586 = .ok (.iadd, 1) := by decide +kernel
theorem dL_law_587 : decode cL_law 587 = .ok (.iaload, 1) := by decide +kernel
theorem dL_law_588 : decode cL_law 588 = .ok (.aload_n 3, 1) := by decide +kernel
theorem dL_law_589 : decode cL_law 589 = .ok (.invokestatic 189, 3) := by decide +kernel
theorem dL_law_592 : decode cL_law 592 = .ok (.istore 6, 2) := by decide +kernel
theorem dL_law_594 : decode cL_law 594 = .ok (.aload_n 2, 1) := by decide +kernel
theorem dL_law_595 : decode cL_law 595 = .ok (.aload_n 0, 1) := by decide +kernel
theorem dL_law_596 : decode cL_law 596 = .ok (.iload 5, 2) := by decide +kernel
theorem dL_law_598 : decode cL_law 598 = .ok (.iconst 1, 1) := by decide +kernel
theorem dL_law_599 : decode cL_law 599 = .ok (.iadd, 1) := by decide +kernel
theorem dL_law_600 : decode cL_law 600 = .ok (.iaload, 1) := by decide +kernel
theorem dL_law_601 : decode cL_law 601 = .ok (.invokevirtual 191, 3) := by decide +kernel
theorem dL_law_604 : decode cL_law 604 = .ok (.istore 7, 2) := by decide +kernel
theorem dL_law_606 : decode cL_law 606 = .ok (.aload_n 2, 1) := by decide +kernel
theorem dL_law_607 : decode cL_law 607 = .ok (.invokevirtual 169, 3) := by decide +kernel
theorem dL_law_610 : decode cL_law 610 = .ok (.iload 6, 2) := by decide +kernel
theorem dL_law_612 : decode cL_law 612 = .ok (.if_icmp .eq 5, 3) := by decide +kernel
theorem dL_law_615 : decode cL_law 615 = .ok (.iconst 0, 1) := by decide +kernel
theorem dL_law_616 : decode cL_law 616 = .ok (.ireturn, 1) := by decide +kernel
theorem dL_law_617 : decode cL_law 617 = .ok (.iload 6, 2) := by decide +kernel
theorem dL_law_619 : decode cL_law 619 = .ok (.ifCond .ne 15, 3) := by decide +kernel
theorem dL_law_622 : decode cL_law 622 = .ok (.aload_n 3, 1) := by decide +kernel
theorem dL_law_623 : decode cL_law 623 = .ok (.iconst 0, 1) := by decide +kernel
theorem dL_law_624 : decode cL_law 624 = .ok (.laload, 1) := by decide +kernel
theorem dL_law_625 : decode cL_law 625 = .ok (.iload 7, 2) := by decide +kernel
theorem dL_law_627 : decode cL_law 627 = .ok (.i2l, 1) := by decide +kernel
theorem dL_law_628 : decode cL_law 628 = .ok (.lcmp, 1) := by decide +kernel
theorem dL_law_629 : decode cL_law 629 = .ok (.ifCond .eq 5, 3) := by decide +kernel
theorem dL_law_632 : decode cL_law 632 = .ok (.iconst 0, 1) := by decide +kernel
theorem dL_law_633 : decode cL_law 633 = .ok (.ireturn, 1) := by decide +kernel
theorem dL_law_634 : decode cL_law 634 = .ok (.goto 2346, 3) := by decide +kernel
theorem dL_law_637 : decode cL_law 637 = .ok (.aload_n 1, 1) := by decide +kernel
theorem dL_law_638 : decode cL_law 638 = .ok (.aload_n 0, 1) := by decide +kernel
theorem dL_law_639 : decode cL_law 639 = .ok (.iload 5, 2) := by decide +kernel
theorem dL_law_641 : decode cL_law 641 = .ok (.iconst 1, 1) := by decide +kernel
theorem dL_law_642 : decode cL_law 642 = .ok (.iadd, 1) := by decide +kernel
theorem dL_law_643 : decode cL_law 643 = .ok (.iaload, 1) := by decide +kernel
theorem dL_law_644 : decode cL_law 644 = .ok (.aload_n 3, 1) := by decide +kernel
theorem dL_law_645 : decode cL_law 645 = .ok (.invokestatic 192, 3) := by decide +kernel
theorem dL_law_648 : decode cL_law 648 = .ok (.istore 6, 2) := by decide +kernel
theorem dL_law_650 : decode cL_law 650 = .ok (.aload_n 2, 1) := by decide +kernel
theorem dL_law_651 : decode cL_law 651 = .ok (.aload_n 0, 1) := by decide +kernel
theorem dL_law_652 : decode cL_law 652 = .ok (.iload 5, 2) := by decide +kernel
theorem dL_law_654 : decode cL_law 654 = .ok (.iconst 1, 1) := by decide +kernel
theorem dL_law_655 : decode cL_law 655 = .ok (.iadd, 1) := by decide +kernel
theorem dL_law_656 : decode cL_law 656 = .ok (.iaload, 1) := by decide +kernel
theorem dL_law_657 : decode cL_law 657 = .ok (.invokevirtual 194, 3) := by decide +kernel
theorem dL_law_660 : decode cL_law 660 = .ok (.istore 7, 2) := by decide +kernel
theorem dL_law_662 : decode cL_law 662 = .ok (.aload_n 2, 1) := by decide +kernel
theorem dL_law_663 : decode cL_law 663 = .ok (.invokevirtual 169, 3) := by decide +kernel
theorem dL_law_666 : decode cL_law 666 = .ok (.iload 6, 2) := by decide +kernel
theorem dL_law_668 : decode cL_law 668 = .ok (.if_icmp .eq 5, 3) := by decide +kernel
theorem dL_law_671 : decode cL_law 671 = .ok (.iconst 0, 1) := by decide +kernel
theorem dL_law_672 : decode cL_law 672 = .ok (.ireturn, 1) := by decide +kernel
theorem dL_law_673 : decode cL_law 673 = .ok (.iload 6, 2) := by decide +kernel
theorem dL_law_675 : decode cL_law 675 = .ok (.ifCond .ne 22, 3) := by decide +kernel
theorem dL_law_678 : decode cL_law 678 = .ok (.aload_n 3, 1) := by decide +kernel
theorem dL_law_679 : decode cL_law 679 = .ok (.iconst 0, 1) := by decide +kernel
theorem dL_law_680 : decode cL_law 680 = .ok (.laload, 1) := by decide +kernel
theorem dL_law_681 : decode cL_law 681 = .ok (.iload 7, 2) := by decide +kernel
theorem dL_law_683 : decode cL_law 683 = .ok (.ifCond .eq 7, 3) := by decide +kernel
theorem dL_law_686 : decode cL_law 686 = .ok (.lconst 1, 1) := by decide +kernel
theorem dL_law_687 : decode cL_law 687 = .ok (.goto 4, 3) := by decide +kernel
theorem dL_law_690 : decode cL_law 690 = .ok (.lconst 0, 1) := by decide +kernel
theorem dL_law_691 : decode cL_law 691 = .ok (.lcmp, 1) := by decide +kernel
theorem dL_law_692 : decode cL_law 692 = .ok (.ifCond .eq 5, 3) := by decide +kernel
theorem dL_law_695 : decode cL_law 695 = .ok (.iconst 0, 1) := by decide +kernel
theorem dL_law_696 : decode cL_law 696 = .ok (.ireturn, 1) := by decide +kernel
theorem dL_law_697 : decode cL_law 697 = .ok (.goto 2283, 3) := by decide +kernel
theorem dL_law_700 : decode cL_law 700 = .ok (.aload_n 1, 1) := by decide +kernel
theorem dL_law_701 : decode cL_law 701 = .ok (.invokevirtual 195, 3) := by decide +kernel
theorem dL_law_704 : decode cL_law 704 = .ok (.aload_n 2, 1) := by decide +kernel
theorem dL_law_705 : decode cL_law 705 = .ok (.invokevirtual 198, 3) := by decide +kernel
theorem dL_law_708 : decode cL_law 708 = .ok (.if_icmp .eq 2272, 3) := by decide +kernel
theorem dL_law_711 : decode cL_law 711 = .ok (.iconst 0, 1) := by decide +kernel
theorem dL_law_712 : decode cL_law 712 = .ok (.ireturn, 1) := by decide +kernel
theorem dL_law_713 : decode cL_law 713 = .ok (.aload_n 1, 1) := by decide +kernel
theorem dL_law_714 : decode cL_law 714 = .ok (.invokevirtual 199, 3) := by decide +kernel
theorem dL_law_717 : decode cL_law 717 = .ok (.aload_n 2, 1) := by decide +kernel
theorem dL_law_718 : decode cL_law 718 = .ok (.invokevirtual 202, 3) := by decide +kernel
theorem dL_law_721 : decode cL_law 721 = .ok (.if_icmp .eq 2259, 3) := by decide +kernel
theorem dL_law_724 : decode cL_law 724 = .ok (.iconst 0, 1) := by decide +kernel
theorem dL_law_725 : decode cL_law 725 = .ok (.ireturn, 1) := by decide +kernel
theorem dL_law_726 : decode cL_law 726 = .ok (.aload_n 1, 1) := by decide +kernel
theorem dL_law_727 : decode cL_law 727 = .ok (.invokevirtual 203, 3) := by decide +kernel
theorem dL_law_730 : decode cL_law 730 = .ok (.aload_n 2, 1) := by decide +kernel
theorem dL_law_731 : decode cL_law 731 = .ok (.invokevirtual 207, 3) := by decide +kernel
theorem dL_law_734 : decode cL_law 734 = .ok (.if_icmp .eq 2246, 3) := by decide +kernel
theorem dL_law_737 : decode cL_law 737 = .ok (.iconst 0, 1) := by decide +kernel
theorem dL_law_738 : decode cL_law 738 = .ok (.ireturn, 1) := by decide +kernel
theorem dL_law_739 : decode cL_law 739 = .ok (.aload_n 1, 1) := by decide +kernel
theorem dL_law_740 : decode cL_law 740 = .ok (.aload_n 0, 1) := by decide +kernel
theorem dL_law_741 : decode cL_law 741 = .ok (.iload 5, 2) := by decide +kernel
theorem dL_law_743 : decode cL_law 743 = .ok (.iconst 1, 1) := by decide +kernel
theorem dL_law_744 : decode cL_law 744 = .ok (.iadd, 1) := by decide +kernel
theorem dL_law_745 : decode cL_law 745 = .ok (.iaload, 1) := by decide +kernel
theorem dL_law_746 : decode cL_law 746 = .ok (.aload_n 3, 1) := by decide +kernel
theorem dL_law_747 : decode cL_law 747 = .ok (.invokestatic 208, 3) := by decide +kernel
theorem dL_law_750 : decode cL_law 750 = .ok (.istore 6, 2) := by decide +kernel
theorem dL_law_752 : decode cL_law 752 = .ok (.aload_n 2, 1) := by decide +kernel
theorem dL_law_753 : decode cL_law 753 = .ok (.aload_n 0, 1) := by decide +kernel
theorem dL_law_754 : decode cL_law 754 = .ok (.iload 5, 2) := by decide +kernel
theorem dL_law_756 : decode cL_law 756 = .ok (.iconst 1, 1) := by decide +kernel
theorem dL_law_757 : decode cL_law 757 = .ok (.iadd, 1) := by decide +kernel
theorem dL_law_758 : decode cL_law 758 = .ok (.iaload, 1) := by decide +kernel
theorem dL_law_759 : decode cL_law 759 = .ok (.invokevirtual 210, 3) := by decide +kernel
theorem dL_law_762 : decode cL_law 762 = .ok (.istore 7, 2) := by decide +kernel
theorem dL_law_764 : decode cL_law 764 = .ok (.aload_n 2, 1) := by decide +kernel
theorem dL_law_765 : decode cL_law 765 = .ok (.invokevirtual 169, 3) := by decide +kernel
theorem dL_law_768 : decode cL_law 768 = .ok (.iload 6, 2) := by decide +kernel
theorem dL_law_770 : decode cL_law 770 = .ok (.if_icmp .eq 5, 3) := by decide +kernel
theorem dL_law_773 : decode cL_law 773 = .ok (.iconst 0, 1) := by decide +kernel
theorem dL_law_774 : decode cL_law 774 = .ok (.ireturn, 1) := by decide +kernel
theorem dL_law_775 : decode cL_law 775 = .ok (.iload 6, 2) := by decide +kernel
theorem dL_law_777 : decode cL_law 777 = .ok (.ifCond .ne 15, 3) := by decide +kernel
theorem dL_law_780 : decode cL_law 780 = .ok (.aload_n 3, 1) := by decide +kernel
theorem dL_law_781 : decode cL_law 781 = .ok (.iconst 0, 1) := by decide +kernel
theorem dL_law_782 : decode cL_law 782 = .ok (.laload, 1) := by decide +kernel
theorem dL_law_783 : decode cL_law 783 = .ok (.iload 7, 2) := by decide +kernel
theorem dL_law_785 : decode cL_law 785 = .ok (.i2l, 1) := by decide +kernel
theorem dL_law_786 : decode cL_law 786 = .ok (.lcmp, 1) := by decide +kernel
theorem dL_law_787 : decode cL_law 787 = .ok (.ifCond .eq 5, 3) := by decide +kernel
theorem dL_law_790 : decode cL_law 790 = .ok (.iconst 0, 1) := by decide +kernel
theorem dL_law_791 : decode cL_law 791 = .ok (.ireturn, 1) := by decide +kernel
theorem dL_law_792 : decode cL_law 792 = .ok (.goto 2188, 3) := by decide +kernel
theorem dL_law_795 : decode cL_law 795 = .ok (.aload_n 1, 1) := by decide +kernel
theorem dL_law_796 : decode cL_law 796 = .ok (.invokevirtual 211, 3) := by decide +kernel
theorem dL_law_799 : decode cL_law 799 = .ok (.aload_n 2, 1) := by decide +kernel
theorem dL_law_800 : decode cL_law 800 = .ok (.invokevirtual 214, 3) := by decide +kernel
theorem dL_law_803 : decode cL_law 803 = .ok (.if_icmp .eq 2177, 3) := by decide +kernel
theorem dL_law_806 : decode cL_law 806 = .ok (.iconst 0, 1) := by decide +kernel
theorem dL_law_807 : decode cL_law 807 = .ok (.ireturn, 1) := by decide +kernel
theorem dL_law_808 : decode cL_law 808 = .ok (.aload_n 1, 1) := by decide +kernel
theorem dL_law_809 : decode cL_law 809 = .ok (.aload_n 0, 1) := by decide +kernel
theorem dL_law_810 : decode cL_law 810 = .ok (.iload 5, 2) := by decide +kernel
theorem dL_law_812 : decode cL_law 812 = .ok (.iconst 1, 1) := by decide +kernel
theorem dL_law_813 : decode cL_law 813 = .ok (.iadd, 1) := by decide +kernel
theorem dL_law_814 : decode cL_law 814 = .ok (.iaload, 1) := by decide +kernel
theorem dL_law_815 : decode cL_law 815 = .ok (.aload_n 0, 1) := by decide +kernel
theorem dL_law_816 : decode cL_law 816 = .ok (.iload 5, 2) := by decide +kernel
theorem dL_law_818 : decode cL_law 818 = .ok (.iconst 2, 1) := by decide +kernel
theorem dL_law_819 : decode cL_law 819 = .ok (.iadd, 1) := by decide +kernel
theorem dL_law_820 : decode cL_law 820 = .ok (.iaload, 1) := by decide +kernel
theorem dL_law_821 : decode cL_law 821 = .ok (.aload_n 0, 1) := by decide +kernel
theorem dL_law_822 : decode cL_law 822 = .ok (.iload 5, 2) := by decide +kernel
theorem dL_law_824 : decode cL_law 824 = .ok (.iconst 3, 1) := by decide +kernel
theorem dL_law_825 : decode cL_law 825 = .ok (.iadd, 1) := by decide +kernel
theorem dL_law_826 : decode cL_law 826 = .ok (.iaload, 1) := by decide +kernel
theorem dL_law_827 : decode cL_law 827 = .ok (.aload_n 3, 1) := by decide +kernel
theorem dL_law_828 : decode cL_law 828 = .ok (.invokestatic 215, 3) := by decide +kernel
theorem dL_law_831 : decode cL_law 831 = .ok (.istore 6, 2) := by decide +kernel
theorem dL_law_833 : decode cL_law 833 = .ok (.aload_n 2, 1) := by decide +kernel
theorem dL_law_834 : decode cL_law 834 = .ok (.aload_n 0, 1) := by decide +kernel
theorem dL_law_835 : decode cL_law 835 = .ok (.iload 5, 2) := by decide +kernel
theorem dL_law_837 : decode cL_law 837 = .ok (.iconst 1, 1) := by decide +kernel
theorem dL_law_838 : decode cL_law 838 = .ok (.iadd, 1) := by decide +kernel
theorem dL_law_839 : decode cL_law 839 = .ok (.iaload, 1) := by decide +kernel
theorem dL_law_840 : decode cL_law 840 = .ok (.aload_n 0, 1) := by decide +kernel
theorem dL_law_841 : decode cL_law 841 = .ok (.iload 5, 2) := by decide +kernel
theorem dL_law_843 : decode cL_law 843 = .ok (.iconst 2, 1) := by decide +kernel
theorem dL_law_844 : decode cL_law 844 = .ok (.iadd, 1) := by decide +kernel
theorem dL_law_845 : decode cL_law 845 = .ok (.iaload, 1) := by decide +kernel
theorem dL_law_846 : decode cL_law 846 = .ok (.aload_n 0, 1) := by decide +kernel
theorem dL_law_847 : decode cL_law 847 = .ok (.iload 5, 2) := by decide +kernel
theorem dL_law_849 : decode cL_law 849 = .ok (.iconst 3, 1) := by decide +kernel
theorem dL_law_850 : decode cL_law 850 = .ok (.iadd, 1) := by decide +kernel
theorem dL_law_851 : decode cL_law 851 = .ok (.iaload, 1) := by decide +kernel
theorem dL_law_852 : decode cL_law 852 = .ok (.invokevirtual 218, 3) := by decide +kernel
theorem dL_law_855 : decode cL_law 855 = .ok (.istore 7, 2) := by decide +kernel
theorem dL_law_857 : decode cL_law 857 = .ok (.aload_n 2, 1) := by decide +kernel
theorem dL_law_858 : decode cL_law 858 = .ok (.invokevirtual 169, 3) := by decide +kernel
theorem dL_law_861 : decode cL_law 861 = .ok (.iload 6, 2) := by decide +kernel
theorem dL_law_863 : decode cL_law 863 = .ok (.if_icmp .eq 5, 3) := by decide +kernel
theorem dL_law_866 : decode cL_law 866 = .ok (.iconst 0, 1) := by decide +kernel
theorem dL_law_867 : decode cL_law 867 = .ok (.ireturn, 1) := by decide +kernel
theorem dL_law_868 : decode cL_law 868 = .ok (.iload 6, 2) := by decide +kernel
theorem dL_law_870 : decode cL_law 870 = .ok (.ifCond .ne 15, 3) := by decide +kernel
theorem dL_law_873 : decode cL_law 873 = .ok (.aload_n 3, 1) := by decide +kernel
theorem dL_law_874 : decode cL_law 874 = .ok (.iconst 0, 1) := by decide +kernel
theorem dL_law_875 : decode cL_law 875 = .ok (.laload, 1) := by decide +kernel
theorem dL_law_876 : decode cL_law 876 = .ok (.iload 7, 2) := by decide +kernel
theorem dL_law_878 : decode cL_law 878 = .ok (.i2l, 1) := by decide +kernel
theorem dL_law_879 : decode cL_law 879 = .ok (.lcmp, 1) := by decide +kernel
theorem dL_law_880 : decode cL_law 880 = .ok (.ifCond .eq 5, 3) := by decide +kernel
theorem dL_law_883 : decode cL_law 883 = .ok (.iconst 0, 1) := by decide +kernel
theorem dL_law_884 : decode cL_law 884 = .ok (.ireturn, 1) := by decide +kernel
theorem dL_law_885 : decode cL_law 885 = .ok (.goto 2095, 3) := by decide +kernel
theorem dL_law_888 : decode cL_law 888 = .ok (.aload_n 1, 1) := by decide +kernel
theorem dL_law_889 : decode cL_law 889 = .ok (.invokevirtual 219, 3) := by decide +kernel
theorem dL_law_892 : decode cL_law 892 = .ok (.aload_n 2, 1) := by decide +kernel
theorem dL_law_893 : decode cL_law 893 = .ok (.invokevirtual 222, 3) := by decide +kernel
theorem dL_law_896 : decode cL_law 896 = .ok (.if_icmp .eq 2084, 3) := by decide +kernel
theorem dL_law_899 : decode cL_law 899 = .ok (.iconst 0, 1) := by decide +kernel
theorem dL_law_900 : decode cL_law 900 = .ok (.ireturn, 1) := by decide +kernel
theorem dL_law_901 : decode cL_law 901 = .ok (.aload_n 1, 1) := by decide +kernel
theorem dL_law_902 : decode cL_law 902 = .ok (.aload_n 0, 1) := by decide +kernel
theorem dL_law_903 : decode cL_law 903 = .ok (.iload 5, 2) := by decide +kernel
theorem dL_law_905 : decode cL_law 905 = .ok (.iconst 1, 1) := by decide +kernel
theorem dL_law_906 : decode cL_law 906 = .ok (.iadd, 1) := by decide +kernel
theorem dL_law_907 : decode cL_law 907 = .ok (.iaload, 1) := by decide +kernel
theorem dL_law_908 : decode cL_law 908 = .ok (.aload_n 3, 1) := by decide +kernel
theorem dL_law_909 : decode cL_law 909 = .ok (.invokestatic 223, 3) := by decide +kernel
theorem dL_law_912 : decode cL_law 912 = .ok (.istore 6, 2) := by decide +kernel
