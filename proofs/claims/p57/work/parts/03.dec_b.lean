theorem dX3_init_0 : decode cX3_init 0 = .ok (.aload_n 0, 1) := by decide +kernel
theorem dX3_init_1 : decode cX3_init 1 = .ok (.invokespecial 1, 3) := by decide +kernel
theorem dX3_init_4 : decode cX3_init 4 = .ok (.aload_n 0, 1) := by decide +kernel
theorem dX3_init_5 : decode cX3_init 5 = .ok (.new 7, 3) := by decide +kernel
theorem dX3_init_8 : decode cX3_init 8 = .ok (.dup, 1) := by decide +kernel
theorem dX3_init_9 : decode cX3_init 9 = .ok (.invokespecial 9, 3) := by decide +kernel
theorem dX3_init_12 : decode cX3_init 12 = .ok (.putfield 10, 3) := by decide +kernel
theorem dX3_init_15 : decode cX3_init 15 = .ok (.aload_n 0, 1) := by decide +kernel
theorem dX3_init_16 : decode cX3_init 16 = .ok (.new 7, 3) := by decide +kernel
theorem dX3_init_19 : decode cX3_init 19 = .ok (.dup, 1) := by decide +kernel
theorem dX3_init_20 : decode cX3_init 20 = .ok (.invokespecial 9, 3) := by decide +kernel
theorem dX3_init_23 : decode cX3_init 23 = .ok (.putfield 16, 3) := by decide +kernel
theorem dX3_init_26 : decode cX3_init 26 = .ok (.aload_n 0, 1) := by decide +kernel
theorem dX3_init_27 : decode cX3_init 27 = .ok (.new 7, 3) := by decide +kernel
theorem dX3_init_30 : decode cX3_init 30 = .ok (.dup, 1) := by decide +kernel
theorem dX3_init_31 : decode cX3_init 31 = .ok (.invokespecial 9, 3) := by decide +kernel
theorem dX3_init_34 : decode cX3_init 34 = .ok (.putfield 19, 3) := by decide +kernel
theorem dX3_init_37 : decode cX3_init 37 = .ok (.aload_n 0, 1) := by decide +kernel
theorem dX3_init_38 : decode cX3_init 38 = .ok (.bipush 8, 2) := by decide +kernel
theorem dX3_init_40 : decode cX3_init 40 = .ok (.anewarray 7, 3) := by decide +kernel
theorem dX3_init_43 : decode cX3_init 43 = .ok (.putfield 22, 3) := by decide +kernel
theorem dX3_init_46 : decode cX3_init 46 = .ok (.aload_n 0, 1) := by decide +kernel
theorem dX3_init_47 : decode cX3_init 47 = .ok (.new 26, 3) := by decide +kernel
theorem dX3_init_50 : decode cX3_init 50 = .ok (.dup, 1) := by decide +kernel
theorem dX3_init_51 : decode cX3_init 51 = .ok (.invokespecial 28, 3) := by decide +kernel
theorem dX3_init_54 : decode cX3_init 54 = .ok (.putfield 29, 3) := by decide +kernel
theorem dX3_init_57 : decode cX3_init 57 = .ok (.aload_n 0, 1) := by decide +kernel
theorem dX3_init_58 : decode cX3_init 58 = .ok (.iconst (-1), 1) := by decide +kernel
theorem dX3_init_59 : decode cX3_init 59 = .ok (.putfield 33, 3) := by decide +kernel
theorem dX3_init_62 : decode cX3_init 62 = .ok (.aload_n 0, 1) := by decide +kernel
theorem dX3_init_63 : decode cX3_init 63 = .ok (.iconst (-1), 1) := by decide +kernel
theorem dX3_init_64 : decode cX3_init 64 = .ok (.putfield 37, 3) := by decide +kernel
theorem dX3_init_67 : decode cX3_init 67 = .ok (.aload_n 0, 1) := by decide +kernel
theorem dX3_init_68 : decode cX3_init 68 = .ok (.new 40, 3) := by decide +kernel
theorem dX3_init_71 : decode cX3_init 71 = .ok (.dup, 1) := by decide +kernel
theorem dX3_init_72 : decode cX3_init 72 = .ok (.invokespecial 42, 3) := by decide +kernel
theorem dX3_init_75 : decode cX3_init 75 = .ok (.putfield 43, 3) := by decide +kernel
theorem dX3_init_78 : decode cX3_init 78 = .ok (.iconst 0, 1) := by decide +kernel
theorem dX3_init_79 : decode cX3_init 79 = .ok (.istore_n 1, 1) := by decide +kernel
theorem dX3_init_80 : decode cX3_init 80 = .ok (.iload_n 1, 1) := by decide +kernel
theorem dX3_init_81 : decode cX3_init 81 = .ok (.bipush 8, 2) := by decide +kernel
theorem dX3_init_83 : decode cX3_init 83 = .ok (.if_icmp .ge 22, 3) := by decide +kernel
theorem dX3_init_86 : decode cX3_init 86 = .ok (.aload_n 0, 1) := by decide +kernel
theorem dX3_init_87 : decode cX3_init 87 = .ok (.getfield 22, 3) := by decide +kernel
theorem dX3_init_90 : decode cX3_init 90 = .ok (.iload_n 1, 1) := by decide +kernel
theorem dX3_init_91 : decode cX3_init 91 = .ok (.new 7, 3) := by decide +kernel
theorem dX3_init_94 : decode cX3_init 94 = .ok (.dup, 1) := by decide +kernel
theorem dX3_init_95 : decode cX3_init 95 = .ok (.invokespecial 9, 3) := by decide +kernel
theorem dX3_init_98 : decode cX3_init 98 = .ok (.aastore, 1) := by decide +kernel
theorem dX3_init_99 : decode cX3_init 99 = .ok (.iinc 1 1, 3) := by decide +kernel
theorem dX3_init_102 : decode cX3_init 102 = .ok (.goto (-22), 3) := by decide +kernel
theorem dX3_init_105 : decode cX3_init 105 = .ok (.return_, 1) := by decide +kernel
theorem dX3_addMember_0 : decode cX3_addMember 0 = .ok (.aload_n 0, 1) := by decide +kernel
theorem dX3_addMember_1 : decode cX3_addMember 1 = .ok (.getfield 10, 3) := by decide +kernel
theorem dX3_addMember_4 : decode cX3_addMember 4 = .ok (.iload_n 1, 1) := by decide +kernel
theorem dX3_addMember_5 : decode cX3_addMember 5 = .ok (.iload_n 2, 1) := by decide +kernel
theorem dX3_addMember_6 : decode cX3_addMember 6 = .ok (.invokevirtual 47, 3) := by decide +kernel
theorem dX3_addMember_9 : decode cX3_addMember 9 = .ok (.invokestatic 51, 3) := by decide +kernel
theorem dX3_addMember_12 : decode cX3_addMember 12 = .ok (.aload_n 0, 1) := by decide +kernel
theorem dX3_addMember_13 : decode cX3_addMember 13 = .ok (.aload_n 0, 1) := by decide +kernel
theorem dX3_addMember_14 : decode cX3_addMember 14 = .ok (.getfield 10, 3) := by decide +kernel
theorem dX3_addMember_17 : decode cX3_addMember 17 = .ok (.invokevirtual 55, 3) := by decide +kernel
theorem dX3_addMember_20 : decode cX3_addMember 20 = .ok (.aload_n 0, 1) := by decide +kernel
theorem dX3_addMember_21 : decode cX3_addMember 21 = .ok (.getfield 10, 3) := by decide +kernel
theorem dX3_addMember_24 : decode cX3_addMember 24 = .ok (.iload_n 1, 1) := by decide +kernel
theorem dX3_addMember_25 : decode cX3_addMember 25 = .ok (.iload_n 2, 1) := by decide +kernel
theorem dX3_addMember_26 : decode cX3_addMember 26 = .ok (.invokevirtual 59, 3) := by decide +kernel
theorem dX3_addMember_29 : decode cX3_addMember 29 = .ok (.ireturn, 1) := by decide +kernel
theorem dX3_enter_0 : decode cX3_enter 0 = .ok (.aload_n 0, 1) := by decide +kernel
theorem dX3_enter_1 : decode cX3_enter 1 = .ok (.getfield 10, 3) := by decide +kernel
theorem dX3_enter_4 : decode cX3_enter 4 = .ok (.iload_n 1, 1) := by decide +kernel
theorem dX3_enter_5 : decode cX3_enter 5 = .ok (.invokevirtual 62, 3) := by decide +kernel
theorem dX3_enter_8 : decode cX3_enter 8 = .ok (.invokestatic 51, 3) := by decide +kernel
theorem dX3_enter_11 : decode cX3_enter 11 = .ok (.aload_n 0, 1) := by decide +kernel
theorem dX3_enter_12 : decode cX3_enter 12 = .ok (.aload_n 0, 1) := by decide +kernel
theorem dX3_enter_13 : decode cX3_enter 13 = .ok (.getfield 10, 3) := by decide +kernel
theorem dX3_enter_16 : decode cX3_enter 16 = .ok (.invokevirtual 55, 3) := by decide +kernel
theorem dX3_enter_19 : decode cX3_enter 19 = .ok (.aload_n 0, 1) := by decide +kernel
theorem dX3_enter_20 : decode cX3_enter 20 = .ok (.getfield 10, 3) := by decide +kernel
theorem dX3_enter_23 : decode cX3_enter 23 = .ok (.iload_n 1, 1) := by decide +kernel
theorem dX3_enter_24 : decode cX3_enter 24 = .ok (.invokevirtual 66, 3) := by decide +kernel
theorem dX3_enter_27 : decode cX3_enter 27 = .ok (.ireturn, 1) := by decide +kernel
theorem dX3_leave_0 : decode cX3_leave 0 = .ok (.aload_n 0, 1) := by decide +kernel
theorem dX3_leave_1 : decode cX3_leave 1 = .ok (.getfield 10, 3) := by decide +kernel
theorem dX3_leave_4 : decode cX3_leave 4 = .ok (.iload_n 1, 1) := by decide +kernel
theorem dX3_leave_5 : decode cX3_leave 5 = .ok (.invokevirtual 69, 3) := by decide +kernel
theorem dX3_leave_8 : decode cX3_leave 8 = .ok (.invokestatic 51, 3) := by decide +kernel
theorem dX3_leave_11 : decode cX3_leave 11 = .ok (.aload_n 0, 1) := by decide +kernel
theorem dX3_leave_12 : decode cX3_leave 12 = .ok (.aload_n 0, 1) := by decide +kernel
theorem dX3_leave_13 : decode cX3_leave 13 = .ok (.getfield 10, 3) := by decide +kernel
theorem dX3_leave_16 : decode cX3_leave 16 = .ok (.invokevirtual 55, 3) := by decide +kernel
theorem dX3_leave_19 : decode cX3_leave 19 = .ok (.aload_n 0, 1) := by decide +kernel
theorem dX3_leave_20 : decode cX3_leave 20 = .ok (.getfield 10, 3) := by decide +kernel
theorem dX3_leave_23 : decode cX3_leave 23 = .ok (.iload_n 1, 1) := by decide +kernel
theorem dX3_leave_24 : decode cX3_leave 24 = .ok (.invokevirtual 72, 3) := by decide +kernel
theorem dX3_leave_27 : decode cX3_leave 27 = .ok (.ireturn, 1) := by decide +kernel
theorem dX3_setQuorum_0 : decode cX3_setQuorum 0 = .ok (.aload_n 0, 1) := by decide +kernel
theorem dX3_setQuorum_1 : decode cX3_setQuorum 1 = .ok (.getfield 10, 3) := by decide +kernel
theorem dX3_setQuorum_4 : decode cX3_setQuorum 4 = .ok (.iload_n 1, 1) := by decide +kernel
theorem dX3_setQuorum_5 : decode cX3_setQuorum 5 = .ok (.invokevirtual 75, 3) := by decide +kernel
theorem dX3_setQuorum_8 : decode cX3_setQuorum 8 = .ok (.invokestatic 51, 3) := by decide +kernel
theorem dX3_setQuorum_11 : decode cX3_setQuorum 11 = .ok (.aload_n 0, 1) := by decide +kernel
theorem dX3_setQuorum_12 : decode cX3_setQuorum 12 = .ok (.aload_n 0, 1) := by decide +kernel
theorem dX3_setQuorum_13 : decode cX3_setQuorum 13 = .ok (.getfield 10, 3) := by decide +kernel
theorem dX3_setQuorum_16 : decode cX3_setQuorum 16 = .ok (.invokevirtual 55, 3) := by decide +kernel
theorem dX3_setQuorum_19 : decode cX3_setQuorum 19 = .ok (.aload_n 0, 1) := by decide +kernel
theorem dX3_setQuorum_20 : decode cX3_setQuorum 20 = .ok (.getfield 10, 3) := by decide +kernel
theorem dX3_setQuorum_23 : decode cX3_setQuorum 23 = .ok (.iload_n 1, 1) := by decide +kernel
theorem dX3_setQuorum_24 : decode cX3_setQuorum 24 = .ok (.invokevirtual 78, 3) := by decide +kernel
theorem dX3_setQuorum_27 : decode cX3_setQuorum 27 = .ok (.ireturn, 1) := by decide +kernel
theorem dX3_memberCount_0 : decode cX3_memberCount 0 = .ok (.aload_n 0, 1) := by decide +kernel
theorem dX3_memberCount_1 : decode cX3_memberCount 1 = .ok (.getfield 10, 3) := by decide +kernel
theorem dX3_memberCount_4 : decode cX3_memberCount 4 = .ok (.getfield 81, 3) := by decide +kernel
theorem dX3_memberCount_7 : decode cX3_memberCount 7 = .ok (.ireturn, 1) := by decide +kernel
theorem dX3_wardOf_0 : decode cX3_wardOf 0 = .ok (.aload_n 0, 1) := by decide +kernel
theorem dX3_wardOf_1 : decode cX3_wardOf 1 = .ok (.iload_n 1, 1) := by decide +kernel
theorem dX3_wardOf_2 : decode cX3_wardOf 2 = .ok (.invokevirtual 84, 3) := by decide +kernel
theorem dX3_wardOf_5 : decode cX3_wardOf 5 = .ok (.aload_n 0, 1) := by decide +kernel
theorem dX3_wardOf_6 : decode cX3_wardOf 6 = .ok (.getfield 10, 3) := by decide +kernel
theorem dX3_wardOf_9 : decode cX3_wardOf 9 = .ok (.getfield 87, 3) := by decide +kernel
theorem dX3_wardOf_12 : decode cX3_wardOf 12 = .ok (.iload_n 1, 1) := by decide +kernel
theorem dX3_wardOf_13 : decode cX3_wardOf 13 = .ok (.iaload, 1) := by decide +kernel
theorem dX3_wardOf_14 : decode cX3_wardOf 14 = .ok (.ireturn, 1) := by decide +kernel
theorem dX3_weightOf_0 : decode cX3_weightOf 0 = .ok (.aload_n 0, 1) := by decide +kernel
theorem dX3_weightOf_1 : decode cX3_weightOf 1 = .ok (.iload_n 1, 1) := by decide +kernel
theorem dX3_weightOf_2 : decode cX3_weightOf 2 = .ok (.invokevirtual 84, 3) := by decide +kernel
theorem dX3_weightOf_5 : decode cX3_weightOf 5 = .ok (.aload_n 0, 1) := by decide +kernel
theorem dX3_weightOf_6 : decode cX3_weightOf 6 = .ok (.getfield 10, 3) := by decide +kernel
theorem dX3_weightOf_9 : decode cX3_weightOf 9 = .ok (.getfield 91, 3) := by decide +kernel
theorem dX3_weightOf_12 : decode cX3_weightOf 12 = .ok (.iload_n 1, 1) := by decide +kernel
theorem dX3_weightOf_13 : decode cX3_weightOf 13 = .ok (.iaload, 1) := by decide +kernel
theorem dX3_weightOf_14 : decode cX3_weightOf 14 = .ok (.ireturn, 1) := by decide +kernel
theorem dX3_isPresent_0 : decode cX3_isPresent 0 = .ok (.aload_n 0, 1) := by decide +kernel
theorem dX3_isPresent_1 : decode cX3_isPresent 1 = .ok (.iload_n 1, 1) := by decide +kernel
theorem dX3_isPresent_2 : decode cX3_isPresent 2 = .ok (.invokevirtual 84, 3) := by decide +kernel
theorem dX3_isPresent_5 : decode cX3_isPresent 5 = .ok (.aload_n 0, 1) := by decide +kernel
theorem dX3_isPresent_6 : decode cX3_isPresent 6 = .ok (.getfield 10, 3) := by decide +kernel
theorem dX3_isPresent_9 : decode cX3_isPresent 9 = .ok (.iload_n 1, 1) := by decide +kernel
theorem dX3_isPresent_10 : decode cX3_isPresent 10 = .ok (.invokevirtual 94, 3) := by decide +kernel
theorem dX3_isPresent_13 : decode cX3_isPresent 13 = .ok (.ireturn, 1) := by decide +kernel
theorem dX3_presentMask_0 : decode cX3_presentMask 0 = .ok (.aload_n 0, 1) := by decide +kernel
theorem dX3_presentMask_1 : decode cX3_presentMask 1 = .ok (.getfield 10, 3) := by decide +kernel
theorem dX3_presentMask_4 : decode cX3_presentMask 4 = .ok (.getfield 98, 3) := by decide +kernel
theorem dX3_presentMask_7 : decode cX3_presentMask 7 = .ok (.ireturn, 1) := by decide +kernel
theorem dX3_quorum_0 : decode cX3_quorum 0 = .ok (.aload_n 0, 1) := by decide +kernel
theorem dX3_quorum_1 : decode cX3_quorum 1 = .ok (.getfield 10, 3) := by decide +kernel
theorem dX3_quorum_4 : decode cX3_quorum 4 = .ok (.getfield 101, 3) := by decide +kernel
theorem dX3_quorum_7 : decode cX3_quorum 7 = .ok (.ireturn, 1) := by decide +kernel
theorem dX3_isQuorate_0 : decode cX3_isQuorate 0 = .ok (.aload_n 0, 1) := by decide +kernel
theorem dX3_isQuorate_1 : decode cX3_isQuorate 1 = .ok (.getfield 10, 3) := by decide +kernel
theorem dX3_isQuorate_4 : decode cX3_isQuorate 4 = .ok (.invokevirtual 104, 3) := by decide +kernel
theorem dX3_isQuorate_7 : decode cX3_isQuorate 7 = .ok (.ireturn, 1) := by decide +kernel
theorem dX3_wardWeight_0 : decode cX3_wardWeight 0 = .ok (.iload_n 1, 1) := by decide +kernel
theorem dX3_wardWeight_1 : decode cX3_wardWeight 1 = .ok (.invokestatic 108, 3) := by decide +kernel
theorem dX3_wardWeight_4 : decode cX3_wardWeight 4 = .ok (.ifCond .ne 11, 3) := by decide +kernel
theorem dX3_wardWeight_7 : decode cX3_wardWeight 7 = .ok (.new 111, 3) := by decide +kernel
theorem dX3_wardWeight_10 : decode cX3_wardWeight 10 = .ok (.dup, 1) := by decide +kernel
theorem dX3_wardWeight_11 : decode cX3_wardWeight 11 = .ok (.invokespecial 113, 3) := by decide +kernel
theorem dX3_wardWeight_14 : decode cX3_wardWeight 14 = .ok (.athrow, 1) := by decide +kernel
theorem dX3_wardWeight_15 : decode cX3_wardWeight 15 = .ok (.aload_n 0, 1) := by decide +kernel
theorem dX3_wardWeight_16 : decode cX3_wardWeight 16 = .ok (.getfield 10, 3) := by decide +kernel
theorem dX3_wardWeight_19 : decode cX3_wardWeight 19 = .ok (.iload_n 1, 1) := by decide +kernel
theorem dX3_wardWeight_20 : decode cX3_wardWeight 20 = .ok (.invokevirtual 114, 3) := by decide +kernel
theorem dX3_wardWeight_23 : decode cX3_wardWeight 23 = .ok (.ireturn, 1) := by decide +kernel
theorem dX3_strongestWard_0 : decode cX3_strongestWard 0 = .ok (.iconst 0, 1) := by decide +kernel
theorem dX3_strongestWard_1 : decode cX3_strongestWard 1 = .ok (.istore_n 1, 1) := by decide +kernel
theorem dX3_strongestWard_2 : decode cX3_strongestWard 2 = .ok (.iconst 1, 1) := by decide +kernel
theorem dX3_strongestWard_3 : decode cX3_strongestWard 3 = .ok (.istore_n 2, 1) := by decide +kernel
theorem dX3_strongestWard_4 : decode cX3_strongestWard 4 = .ok (.iload_n 2, 1) := by decide +kernel
theorem dX3_strongestWard_5 : decode cX3_strongestWard 5 = .ok (.iconst 4, 1) := by decide +kernel
theorem dX3_strongestWard_6 : decode cX3_strongestWard 6 = .ok (.if_icmp .ge 30, 3) := by decide +kernel
theorem dX3_strongestWard_9 : decode cX3_strongestWard 9 = .ok (.aload_n 0, 1) := by decide +kernel
theorem dX3_strongestWard_10 : decode cX3_strongestWard 10 = .ok (.getfield 10, 3) := by decide +kernel
theorem dX3_strongestWard_13 : decode cX3_strongestWard 13 = .ok (.iload_n 2, 1) := by decide +kernel
theorem dX3_strongestWard_14 : decode cX3_strongestWard 14 = .ok (.invokevirtual 114, 3) := by decide +kernel
theorem dX3_strongestWard_17 : decode cX3_strongestWard 17 = .ok (.aload_n 0, 1) := by decide +kernel
theorem dX3_strongestWard_18 : decode cX3_strongestWard 18 = .ok (.getfield 10, 3) := by decide +kernel
theorem dX3_strongestWard_21 : decode cX3_strongestWard 21 = .ok (.iload_n 1, 1) := by decide +kernel
theorem dX3_strongestWard_22 : decode cX3_strongestWard 22 = .ok (.invokevirtual 114, 3) := by decide +kernel
theorem dX3_strongestWard_25 : decode cX3_strongestWard 25 = .ok (.if_icmp .le 5, 3) := by decide +kernel
theorem dX3_strongestWard_28 : decode cX3_strongestWard 28 = .ok (.iload_n 2, 1) := by decide +kernel
theorem dX3_strongestWard_29 : decode cX3_strongestWard 29 = .ok (.istore_n 1, 1) := by decide +kernel
theorem dX3_strongestWard_30 : decode cX3_strongestWard 30 = .ok (.iinc 2 1, 3) := by decide +kernel
theorem dX3_strongestWard_33 : decode cX3_strongestWard 33 = .ok (.goto (-29), 3) := by decide +kernel
theorem dX3_strongestWard_36 : decode cX3_strongestWard 36 = .ok (.iload_n 1, 1) := by decide +kernel
theorem dX3_strongestWard_37 : decode cX3_strongestWard 37 = .ok (.ireturn, 1) := by decide +kernel
theorem dX3_introduce_0 : decode cX3_introduce 0 = .ok (.aload_n 0, 1) := by decide +kernel
theorem dX3_introduce_1 : decode cX3_introduce 1 = .ok (.getfield 10, 3) := by decide +kernel
theorem dX3_introduce_4 : decode cX3_introduce 4 = .ok (.iload_n 1, 1) := by decide +kernel
theorem dX3_introduce_5 : decode cX3_introduce 5 = .ok (.iload_n 2, 1) := by decide +kernel
theorem dX3_introduce_6 : decode cX3_introduce 6 = .ok (.iload_n 3, 1) := by decide +kernel
theorem dX3_introduce_7 : decode cX3_introduce 7 = .ok (.invokevirtual 117, 3) := by decide +kernel
theorem dX3_introduce_10 : decode cX3_introduce 10 = .ok (.invokestatic 51, 3) := by decide +kernel
theorem dX3_introduce_13 : decode cX3_introduce 13 = .ok (.aload_n 0, 1) := by decide +kernel
theorem dX3_introduce_14 : decode cX3_introduce 14 = .ok (.aload_n 0, 1) := by decide +kernel
theorem dX3_introduce_15 : decode cX3_introduce 15 = .ok (.getfield 10, 3) := by decide +kernel
theorem dX3_introduce_18 : decode cX3_introduce 18 = .ok (.invokevirtual 55, 3) := by decide +kernel
theorem dX3_introduce_21 : decode cX3_introduce 21 = .ok (.aload_n 0, 1) := by decide +kernel
theorem dX3_introduce_22 : decode cX3_introduce 22 = .ok (.getfield 10, 3) := by decide +kernel
theorem dX3_introduce_25 : decode cX3_introduce 25 = .ok (.iload_n 2, 1) := by decide +kernel
theorem dX3_introduce_26 : decode cX3_introduce 26 = .ok (.iload_n 3, 1) := by decide +kernel
theorem dX3_introduce_27 : decode cX3_introduce 27 = .ok (.invokevirtual 121, 3) := by decide +kernel
theorem dX3_introduce_30 : decode cX3_introduce 30 = .ok (.ireturn, 1) := by decide +kernel
theorem dX3_billCount_0 : decode cX3_billCount 0 = .ok (.aload_n 0, 1) := by decide +kernel
theorem dX3_billCount_1 : decode cX3_billCount 1 = .ok (.getfield 10, 3) := by decide +kernel
theorem dX3_billCount_4 : decode cX3_billCount 4 = .ok (.getfield 124, 3) := by decide +kernel
theorem dX3_billCount_7 : decode cX3_billCount 7 = .ok (.ireturn, 1) := by decide +kernel
theorem dX3_isOpen_0 : decode cX3_isOpen 0 = .ok (.aload_n 0, 1) := by decide +kernel
theorem dX3_isOpen_1 : decode cX3_isOpen 1 = .ok (.iload_n 1, 1) := by decide +kernel
theorem dX3_isOpen_2 : decode cX3_isOpen 2 = .ok (.invokevirtual 127, 3) := by decide +kernel
theorem dX3_isOpen_5 : decode cX3_isOpen 5 = .ok (.aload_n 0, 1) := by decide +kernel
theorem dX3_isOpen_6 : decode cX3_isOpen 6 = .ok (.getfield 10, 3) := by decide +kernel
theorem dX3_isOpen_9 : decode cX3_isOpen 9 = .ok (.getfield 130, 3) := by decide +kernel
theorem dX3_isOpen_12 : decode cX3_isOpen 12 = .ok (.iload_n 1, 1) := by decide +kernel
theorem dX3_isOpen_13 : decode cX3_isOpen 13 = .ok (.iaload, 1) := by decide +kernel
theorem dX3_isOpen_14 : decode cX3_isOpen 14 = .ok (.ifCond .ne 7, 3) := by decide +kernel
theorem dX3_isOpen_17 : decode cX3_isOpen 17 = .ok (.iconst 1, 1) := by decide +kernel
theorem dX3_isOpen_18 : decode cX3_isOpen 18 = .ok (.goto 4, 3) := by decide +kernel
theorem dX3_isOpen_21 : decode cX3_isOpen 21 = .ok (.iconst 0, 1) := by decide +kernel
theorem dX3_isOpen_22 : decode cX3_isOpen 22 = .ok (.ireturn, 1) := by decide +kernel
theorem dX3_isPassed_0 : decode cX3_isPassed 0 = .ok (.aload_n 0, 1) := by decide +kernel
theorem dX3_isPassed_1 : decode cX3_isPassed 1 = .ok (.iload_n 1, 1) := by decide +kernel
theorem dX3_isPassed_2 : decode cX3_isPassed 2 = .ok (.invokevirtual 127, 3) := by decide +kernel
theorem dX3_isPassed_5 : decode cX3_isPassed 5 = .ok (.aload_n 0, 1) := by decide +kernel
theorem dX3_isPassed_6 : decode cX3_isPassed 6 = .ok (.getfield 10, 3) := by decide +kernel
theorem dX3_isPassed_9 : decode cX3_isPassed 9 = .ok (.getfield 130, 3) := by decide +kernel
theorem dX3_isPassed_12 : decode cX3_isPassed 12 = .ok (.iload_n 1, 1) := by decide +kernel
theorem dX3_isPassed_13 : decode cX3_isPassed 13 = .ok (.iaload, 1) := by decide +kernel
theorem dX3_isPassed_14 : decode cX3_isPassed 14 = .ok (.iconst 1, 1) := by decide +kernel
theorem dX3_isPassed_15 : decode cX3_isPassed 15 = .ok (.if_icmp .ne 7, 3) := by decide +kernel
theorem dX3_isPassed_18 : decode cX3_isPassed 18 = .ok (.iconst 1, 1) := by decide +kernel
theorem dX3_isPassed_19 : decode cX3_isPassed 19 = .ok (.goto 4, 3) := by decide +kernel
theorem dX3_isPassed_22 : decode cX3_isPassed 22 = .ok (.iconst 0, 1) := by decide +kernel
theorem dX3_isPassed_23 : decode cX3_isPassed 23 = .ok (.ireturn, 1) := by decide +kernel
theorem dX3_readings_0 : decode cX3_readings 0 = .ok (.aload_n 0, 1) := by decide +kernel
theorem dX3_readings_1 : decode cX3_readings 1 = .ok (.iload_n 1, 1) := by decide +kernel
theorem dX3_readings_2 : decode cX3_readings 2 = .ok (.invokevirtual 127, 3) := by decide +kernel
theorem dX3_readings_5 : decode cX3_readings 5 = .ok (.aload_n 0, 1) := by decide +kernel
theorem dX3_readings_6 : decode cX3_readings 6 = .ok (.getfield 10, 3) := by decide +kernel
theorem dX3_readings_9 : decode cX3_readings 9 = .ok (.getfield 133, 3) := by decide +kernel
theorem dX3_readings_12 : decode cX3_readings 12 = .ok (.iload_n 1, 1) := by decide +kernel
theorem dX3_readings_13 : decode cX3_readings 13 = .ok (.iaload, 1) := by decide +kernel
theorem dX3_readings_14 : decode cX3_readings 14 = .ok (.ireturn, 1) := by decide +kernel
theorem dX3_clauses_0 : decode cX3_clauses 0 = .ok (.aload_n 0, 1) := by decide +kernel
theorem dX3_clauses_1 : decode cX3_clauses 1 = .ok (.iload_n 1, 1) := by decide +kernel
theorem dX3_clauses_2 : decode cX3_clauses 2 = .ok (.invokevirtual 127, 3) := by decide +kernel
theorem dX3_clauses_5 : decode cX3_clauses 5 = .ok (.aload_n 0, 1) := by decide +kernel
theorem dX3_clauses_6 : decode cX3_clauses 6 = .ok (.getfield 10, 3) := by decide +kernel
theorem dX3_clauses_9 : decode cX3_clauses 9 = .ok (.getfield 136, 3) := by decide +kernel
theorem dX3_clauses_12 : decode cX3_clauses 12 = .ok (.iload_n 1, 1) := by decide +kernel
theorem dX3_clauses_13 : decode cX3_clauses 13 = .ok (.laload, 1) := by decide +kernel
theorem dX3_clauses_14 : decode cX3_clauses 14 = .ok (.lreturn, 1) := by decide +kernel
theorem dX3_clauseCount_0 : decode cX3_clauseCount 0 = .ok (.aload_n 0, 1) := by decide +kernel
theorem dX3_clauseCount_1 : decode cX3_clauseCount 1 = .ok (.iload_n 1, 1) := by decide +kernel
theorem dX3_clauseCount_2 : decode cX3_clauseCount 2 = .ok (.invokevirtual 127, 3) := by decide +kernel
theorem dX3_clauseCount_5 : decode cX3_clauseCount 5 = .ok (.aload_n 0, 1) := by decide +kernel
theorem dX3_clauseCount_6 : decode cX3_clauseCount 6 = .ok (.getfield 10, 3) := by decide +kernel
theorem dX3_clauseCount_9 : decode cX3_clauseCount 9 = .ok (.getfield 136, 3) := by decide +kernel
theorem dX3_clauseCount_12 : decode cX3_clauseCount 12 = .ok (.iload_n 1, 1) := by decide +kernel
theorem dX3_clauseCount_13 : decode cX3_clauseCount 13 = .ok (.laload, 1) := by decide +kernel
theorem dX3_clauseCount_14 : decode cX3_clauseCount 14 = .ok (.invokestatic 140, 3) := by decide +kernel
theorem dX3_clauseCount_17 : decode cX3_clauseCount 17 = .ok (.ireturn, 1) := by decide +kernel
theorem dX3_longestRun_0 : decode cX3_longestRun 0 = .ok (.aload_n 0, 1) := by decide +kernel
theorem dX3_longestRun_1 : decode cX3_longestRun 1 = .ok (.iload_n 1, 1) := by decide +kernel
theorem dX3_longestRun_2 : decode cX3_longestRun 2 = .ok (.invokevirtual 127, 3) := by decide +kernel
theorem dX3_longestRun_5 : decode cX3_longestRun 5 = .ok (.aload_n 0, 1) := by decide +kernel
theorem dX3_longestRun_6 : decode cX3_longestRun 6 = .ok (.getfield 10, 3) := by decide +kernel
theorem dX3_longestRun_9 : decode cX3_longestRun 9 = .ok (.getfield 136, 3) := by decide +kernel
theorem dX3_longestRun_12 : decode cX3_longestRun 12 = .ok (.iload_n 1, 1) := by decide +kernel
theorem dX3_longestRun_13 : decode cX3_longestRun 13 = .ok (.laload, 1) := by decide +kernel
theorem dX3_longestRun_14 : decode cX3_longestRun 14 = .ok (.invokestatic 146, 3) := by decide +kernel
theorem dX3_longestRun_17 : decode cX3_longestRun 17 = .ok (.ireturn, 1) := by decide +kernel
theorem dX3_longestRunByShift_0 : decode cX3_longestRunByShift 0 = .ok (.aload_n 0, 1) := by decide +kernel
theorem dX3_longestRunByShift_1 : decode cX3_longestRunByShift 1 = .ok (.iload_n 1, 1) := by decide +kernel
theorem dX3_longestRunByShift_2 : decode cX3_longestRunByShift 2 = .ok (.invokevirtual 127, 3) := by decide +kernel
theorem dX3_longestRunByShift_5 : decode cX3_longestRunByShift 5 = .ok (.aload_n 0, 1) := by decide +kernel
theorem dX3_longestRunByShift_6 : decode cX3_longestRunByShift 6 = .ok (.getfield 10, 3) := by decide +kernel
theorem dX3_longestRunByShift_9 : decode cX3_longestRunByShift 9 = .ok (.getfield 136, 3) := by decide +kernel
theorem dX3_longestRunByShift_12 : decode cX3_longestRunByShift 12 = .ok (.iload_n 1, 1) := by decide +kernel
theorem dX3_longestRunByShift_13 : decode cX3_longestRunByShift 13 = .ok (.laload, 1) := by decide +kernel
theorem dX3_longestRunByShift_14 : decode cX3_longestRunByShift 14 = .ok (.invokestatic 149, 3) := by decide +kernel
theorem dX3_longestRunByShift_17 : decode cX3_longestRunByShift 17 = .ok (.ireturn, 1) := by decide +kernel
theorem dX3_billAtRank_0 : decode cX3_billAtRank 0 = .ok (.iload_n 1, 1) := by decide +kernel
theorem dX3_billAtRank_1 : decode cX3_billAtRank 1 = .ok (.ifCond .lt 14, 3) := by decide +kernel
theorem dX3_billAtRank_4 : decode cX3_billAtRank 4 = .ok (.iload_n 1, 1) := by decide +kernel
theorem dX3_billAtRank_5 : decode cX3_billAtRank 5 = .ok (.aload_n 0, 1) := by decide +kernel
theorem dX3_billAtRank_6 : decode cX3_billAtRank 6 = .ok (.getfield 10, 3) := by decide +kernel
theorem dX3_billAtRank_9 : decode cX3_billAtRank 9 = .ok (.getfield 124, 3) := by decide +kernel
theorem dX3_billAtRank_12 : decode cX3_billAtRank 12 = .ok (.if_icmp .lt 11, 3) := by decide +kernel
theorem dX3_billAtRank_15 : decode cX3_billAtRank 15 = .ok (.new 152, 3) := by decide +kernel
theorem dX3_billAtRank_18 : decode cX3_billAtRank 18 = .ok (.dup, 1) := by decide +kernel
theorem dX3_billAtRank_19 : decode cX3_billAtRank 19 = .ok (.invokespecial 154, 3) := by decide +kernel
theorem dX3_billAtRank_22 : decode cX3_billAtRank 22 = .ok (.athrow, 1) := by decide +kernel
theorem dX3_billAtRank_23 : decode cX3_billAtRank 23 = .ok (.iconst 0, 1) := by decide +kernel
theorem dX3_billAtRank_24 : decode cX3_billAtRank 24 = .ok (.istore_n 2, 1) := by decide +kernel
theorem dX3_billAtRank_25 : decode cX3_billAtRank 25 = .ok (.iconst 0, 1) := by decide +kernel
theorem dX3_billAtRank_26 : decode cX3_billAtRank 26 = .ok (.istore_n 3, 1) := by decide +kernel
theorem dX3_billAtRank_27 : decode cX3_billAtRank 27 = .ok (.iload_n 3, 1) := by decide +kernel
theorem dX3_billAtRank_28 : decode cX3_billAtRank 28 = .ok (.aload_n 0, 1) := by decide +kernel
theorem dX3_billAtRank_29 : decode cX3_billAtRank 29 = .ok (.getfield 10, 3) := by decide +kernel
theorem dX3_billAtRank_32 : decode cX3_billAtRank 32 = .ok (.getfield 124, 3) := by decide +kernel
theorem dX3_billAtRank_35 : decode cX3_billAtRank 35 = .ok (.if_icmp .ge 23, 3) := by decide +kernel
theorem dX3_billAtRank_38 : decode cX3_billAtRank 38 = .ok (.aload_n 0, 1) := by decide +kernel
theorem dX3_billAtRank_39 : decode cX3_billAtRank 39 = .ok (.getfield 10, 3) := by decide +kernel
theorem dX3_billAtRank_42 : decode cX3_billAtRank 42 = .ok (.iload_n 3, 1) := by decide +kernel
theorem dX3_billAtRank_43 : decode cX3_billAtRank 43 = .ok (.invokevirtual 155, 3) := by decide +kernel
theorem dX3_billAtRank_46 : decode cX3_billAtRank 46 = .ok (.iload_n 1, 1) := by decide +kernel
theorem dX3_billAtRank_47 : decode cX3_billAtRank 47 = .ok (.if_icmp .ne 5, 3) := by decide +kernel
theorem dX3_billAtRank_50 : decode cX3_billAtRank 50 = .ok (.iload_n 3, 1) := by decide +kernel
theorem dX3_billAtRank_51 : decode cX3_billAtRank 51 = .ok (.istore_n 2, 1) := by decide +kernel
theorem dX3_billAtRank_52 : decode cX3_billAtRank 52 = .ok (.iinc 3 1, 3) := by decide +kernel
theorem dX3_billAtRank_55 : decode cX3_billAtRank 55 = .ok (.goto (-28), 3) := by decide +kernel
theorem dX3_billAtRank_58 : decode cX3_billAtRank 58 = .ok (.iload_n 2, 1) := by decide +kernel
theorem dX3_billAtRank_59 : decode cX3_billAtRank 59 = .ok (.ireturn, 1) := by decide +kernel
theorem dX3_voteFor_0 : decode cX3_voteFor 0 = .ok (.aload_n 0, 1) := by decide +kernel
theorem dX3_voteFor_1 : decode cX3_voteFor 1 = .ok (.getfield 10, 3) := by decide +kernel
theorem dX3_voteFor_4 : decode cX3_voteFor 4 = .ok (.iload_n 1, 1) := by decide +kernel
theorem dX3_voteFor_5 : decode cX3_voteFor 5 = .ok (.iload_n 2, 1) := by decide +kernel
theorem dX3_voteFor_6 : decode cX3_voteFor 6 = .ok (.invokevirtual 158, 3) := by decide +kernel
theorem dX3_voteFor_9 : decode cX3_voteFor 9 = .ok (.invokestatic 51, 3) := by decide +kernel
theorem dX3_voteFor_12 : decode cX3_voteFor 12 = .ok (.aload_n 0, 1) := by decide +kernel
theorem dX3_voteFor_13 : decode cX3_voteFor 13 = .ok (.aload_n 0, 1) := by decide +kernel
theorem dX3_voteFor_14 : decode cX3_voteFor 14 = .ok (.getfield 10, 3) := by decide +kernel
theorem dX3_voteFor_17 : decode cX3_voteFor 17 = .ok (.invokevirtual 55, 3) := by decide +kernel
theorem dX3_voteFor_20 : decode cX3_voteFor 20 = .ok (.aload_n 0, 1) := by decide +kernel
theorem dX3_voteFor_21 : decode cX3_voteFor 21 = .ok (.getfield 10, 3) := by decide +kernel
theorem dX3_voteFor_24 : decode cX3_voteFor 24 = .ok (.iload_n 1, 1) := by decide +kernel
theorem dX3_voteFor_25 : decode cX3_voteFor 25 = .ok (.iload_n 2, 1) := by decide +kernel
theorem dX3_voteFor_26 : decode cX3_voteFor 26 = .ok (.invokevirtual 161, 3) := by decide +kernel
theorem dX3_voteFor_29 : decode cX3_voteFor 29 = .ok (.ireturn, 1) := by decide +kernel
theorem dX3_voteAgainst_0 : decode cX3_voteAgainst 0 = .ok (.aload_n 0, 1) := by decide +kernel
theorem dX3_voteAgainst_1 : decode cX3_voteAgainst 1 = .ok (.getfield 10, 3) := by decide +kernel
theorem dX3_voteAgainst_4 : decode cX3_voteAgainst 4 = .ok (.iload_n 1, 1) := by decide +kernel
theorem dX3_voteAgainst_5 : decode cX3_voteAgainst 5 = .ok (.iload_n 2, 1) := by decide +kernel
theorem dX3_voteAgainst_6 : decode cX3_voteAgainst 6 = .ok (.invokevirtual 158, 3) := by decide +kernel
theorem dX3_voteAgainst_9 : decode cX3_voteAgainst 9 = .ok (.invokestatic 51, 3) := by decide +kernel
theorem dX3_voteAgainst_12 : decode cX3_voteAgainst 12 = .ok (.aload_n 0, 1) := by decide +kernel
theorem dX3_voteAgainst_13 : decode cX3_voteAgainst 13 = .ok (.aload_n 0, 1) := by decide +kernel
theorem dX3_voteAgainst_14 : decode cX3_voteAgainst 14 = .ok (.getfield 10, 3) := by decide +kernel
theorem dX3_voteAgainst_17 : decode cX3_voteAgainst 17 = .ok (.invokevirtual 55, 3) := by decide +kernel
theorem dX3_voteAgainst_20 : decode cX3_voteAgainst 20 = .ok (.aload_n 0, 1) := by decide +kernel
theorem dX3_voteAgainst_21 : decode cX3_voteAgainst 21 = .ok (.getfield 10, 3) := by decide +kernel
theorem dX3_voteAgainst_24 : decode cX3_voteAgainst 24 = .ok (.iload_n 1, 1) := by decide +kernel
theorem dX3_voteAgainst_25 : decode cX3_voteAgainst 25 = .ok (.iload_n 2, 1) := by decide +kernel
theorem dX3_voteAgainst_26 : decode cX3_voteAgainst 26 = .ok (.invokevirtual 164, 3) := by decide +kernel
theorem dX3_voteAgainst_29 : decode cX3_voteAgainst 29 = .ok (.ireturn, 1) := by decide +kernel
theorem dX3_weightFor_0 : decode cX3_weightFor 0 = .ok (.aload_n 0, 1) := by decide +kernel
theorem dX3_weightFor_1 : decode cX3_weightFor 1 = .ok (.iload_n 1, 1) := by decide +kernel
theorem dX3_weightFor_2 : decode cX3_weightFor 2 = .ok (.invokevirtual 127, 3) := by decide +kernel
theorem dX3_weightFor_5 : decode cX3_weightFor 5 = .ok (.aload_n 0, 1) := by decide +kernel
theorem dX3_weightFor_6 : decode cX3_weightFor 6 = .ok (.getfield 10, 3) := by decide +kernel
theorem dX3_weightFor_9 : decode cX3_weightFor 9 = .ok (.aload_n 0, 1) := by decide +kernel
theorem dX3_weightFor_10 : decode cX3_weightFor 10 = .ok (.getfield 10, 3) := by decide +kernel
theorem dX3_weightFor_13 : decode cX3_weightFor 13 = .ok (.getfield 167, 3) := by decide +kernel
theorem dX3_weightFor_16 : decode cX3_weightFor 16 = .ok (.iload_n 1, 1) := by decide +kernel
theorem dX3_weightFor_17 : decode cX3_weightFor 17 = .ok (.iaload, 1) := by decide +kernel
theorem dX3_weightFor_18 : decode cX3_weightFor 18 = .ok (.invokevirtual 170, 3) := by decide +kernel
theorem dX3_weightFor_21 : decode cX3_weightFor 21 = .ok (.ireturn, 1) := by decide +kernel
theorem dX3_weightForByDigits_0 : decode cX3_weightForByDigits 0 = .ok (.aload_n 0, 1) := by decide +kernel
theorem dX3_weightForByDigits_1 : decode cX3_weightForByDigits 1 = .ok (.iload_n 1, 1) := by decide +kernel
theorem dX3_weightForByDigits_2 : decode cX3_weightForByDigits 2 = .ok (.invokevirtual 127, 3) := by decide +kernel
theorem dX3_weightForByDigits_5 : decode cX3_weightForByDigits 5 = .ok (.aload_n 0, 1) := by decide +kernel
theorem dX3_weightForByDigits_6 : decode cX3_weightForByDigits 6 = .ok (.getfield 10, 3) := by decide +kernel
theorem dX3_weightForByDigits_9 : decode cX3_weightForByDigits 9 = .ok (.aload_n 0, 1) := by decide +kernel
theorem dX3_weightForByDigits_10 : decode cX3_weightForByDigits 10 = .ok (.getfield 10, 3) := by decide +kernel
theorem dX3_weightForByDigits_13 : decode cX3_weightForByDigits 13 = .ok (.getfield 167, 3) := by decide +kernel
theorem dX3_weightForByDigits_16 : decode cX3_weightForByDigits 16 = .ok (.iload_n 1, 1) := by decide +kernel
theorem dX3_weightForByDigits_17 : decode cX3_weightForByDigits 17 = .ok (.iaload, 1) := by decide +kernel
theorem dX3_weightForByDigits_18 : decode cX3_weightForByDigits 18 = .ok (.invokevirtual 173, 3) := by decide +kernel
theorem dX3_weightForByDigits_21 : decode cX3_weightForByDigits 21 = .ok (.ireturn, 1) := by decide +kernel
theorem dX3_weightAgainst_0 : decode cX3_weightAgainst 0 = .ok (.aload_n 0, 1) := by decide +kernel
theorem dX3_weightAgainst_1 : decode cX3_weightAgainst 1 = .ok (.iload_n 1, 1) := by decide +kernel
theorem dX3_weightAgainst_2 : decode cX3_weightAgainst 2 = .ok (.invokevirtual 127, 3) := by decide +kernel
theorem dX3_weightAgainst_5 : decode cX3_weightAgainst 5 = .ok (.aload_n 0, 1) := by decide +kernel
theorem dX3_weightAgainst_6 : decode cX3_weightAgainst 6 = .ok (.getfield 10, 3) := by decide +kernel
theorem dX3_weightAgainst_9 : decode cX3_weightAgainst 9 = .ok (.aload_n 0, 1) := by decide +kernel
theorem dX3_weightAgainst_10 : decode cX3_weightAgainst 10 = .ok (.getfield 10, 3) := by decide +kernel
theorem dX3_weightAgainst_13 : decode cX3_weightAgainst 13 = .ok (.getfield 176, 3) := by decide +kernel
theorem dX3_weightAgainst_16 : decode cX3_weightAgainst 16 = .ok (.iload_n 1, 1) := by decide +kernel
theorem dX3_weightAgainst_17 : decode cX3_weightAgainst 17 = .ok (.iaload, 1) := by decide +kernel
theorem dX3_weightAgainst_18 : decode cX3_weightAgainst 18 = .ok (.invokevirtual 170, 3) := by decide +kernel
theorem dX3_weightAgainst_21 : decode cX3_weightAgainst 21 = .ok (.ireturn, 1) := by decide +kernel
theorem dX3_closeReading_0 : decode cX3_closeReading 0 = .ok (.aload_n 0, 1) := by decide +kernel
theorem dX3_closeReading_1 : decode cX3_closeReading 1 = .ok (.getfield 10, 3) := by decide +kernel
theorem dX3_closeReading_4 : decode cX3_closeReading 4 = .ok (.iload_n 1, 1) := by decide +kernel
theorem dX3_closeReading_5 : decode cX3_closeReading 5 = .ok (.invokevirtual 179, 3) := by decide +kernel
theorem dX3_closeReading_8 : decode cX3_closeReading 8 = .ok (.invokestatic 51, 3) := by decide +kernel
theorem dX3_closeReading_11 : decode cX3_closeReading 11 = .ok (.aload_n 0, 1) := by decide +kernel
theorem dX3_closeReading_12 : decode cX3_closeReading 12 = .ok (.aload_n 0, 1) := by decide +kernel
theorem dX3_closeReading_13 : decode cX3_closeReading 13 = .ok (.getfield 10, 3) := by decide +kernel
theorem dX3_closeReading_16 : decode cX3_closeReading 16 = .ok (.invokevirtual 55, 3) := by decide +kernel
theorem dX3_closeReading_19 : decode cX3_closeReading 19 = .ok (.aload_n 0, 1) := by decide +kernel
theorem dX3_closeReading_20 : decode cX3_closeReading 20 = .ok (.getfield 10, 3) := by decide +kernel
theorem dX3_closeReading_23 : decode cX3_closeReading 23 = .ok (.iload_n 1, 1) := by decide +kernel
theorem dX3_closeReading_24 : decode cX3_closeReading 24 = .ok (.invokevirtual 182, 3) := by decide +kernel
theorem dX3_closeReading_27 : decode cX3_closeReading 27 = .ok (.ireturn, 1) := by decide +kernel
theorem dX3_propose_0 : decode cX3_propose 0 = .ok (.aload_n 0, 1) := by decide +kernel
theorem dX3_propose_1 : decode cX3_propose 1 = .ok (.getfield 10, 3) := by decide +kernel
theorem dX3_propose_4 : decode cX3_propose 4 = .ok (.iload_n 1, 1) := by decide +kernel
theorem dX3_propose_5 : decode cX3_propose 5 = .ok (.iload_n 2, 1) := by decide +kernel
theorem dX3_propose_6 : decode cX3_propose 6 = .ok (.iload_n 3, 1) := by decide +kernel
theorem dX3_propose_7 : decode cX3_propose 7 = .ok (.invokevirtual 185, 3) := by decide +kernel
theorem dX3_propose_10 : decode cX3_propose 10 = .ok (.invokestatic 51, 3) := by decide +kernel
theorem dX3_propose_13 : decode cX3_propose 13 = .ok (.aload_n 0, 1) := by decide +kernel
theorem dX3_propose_14 : decode cX3_propose 14 = .ok (.aload_n 0, 1) := by decide +kernel
theorem dX3_propose_15 : decode cX3_propose 15 = .ok (.getfield 10, 3) := by decide +kernel
theorem dX3_propose_18 : decode cX3_propose 18 = .ok (.invokevirtual 55, 3) := by decide +kernel
theorem dX3_propose_21 : decode cX3_propose 21 = .ok (.aload_n 0, 1) := by decide +kernel
theorem dX3_propose_22 : decode cX3_propose 22 = .ok (.getfield 10, 3) := by decide +kernel
theorem dX3_propose_25 : decode cX3_propose 25 = .ok (.iload_n 1, 1) := by decide +kernel
theorem dX3_propose_26 : decode cX3_propose 26 = .ok (.iload_n 2, 1) := by decide +kernel
theorem dX3_propose_27 : decode cX3_propose 27 = .ok (.iload_n 3, 1) := by decide +kernel
theorem dX3_propose_28 : decode cX3_propose 28 = .ok (.invokevirtual 188, 3) := by decide +kernel
theorem dX3_propose_31 : decode cX3_propose 31 = .ok (.ireturn, 1) := by decide +kernel
theorem dX3_support_0 : decode cX3_support 0 = .ok (.aload_n 0, 1) := by decide +kernel
theorem dX3_support_1 : decode cX3_support 1 = .ok (.getfield 10, 3) := by decide +kernel
theorem dX3_support_4 : decode cX3_support 4 = .ok (.iload_n 1, 1) := by decide +kernel
theorem dX3_support_5 : decode cX3_support 5 = .ok (.iload_n 2, 1) := by decide +kernel
theorem dX3_support_6 : decode cX3_support 6 = .ok (.iload_n 3, 1) := by decide +kernel
theorem dX3_support_7 : decode cX3_support 7 = .ok (.invokevirtual 191, 3) := by decide +kernel
theorem dX3_support_10 : decode cX3_support 10 = .ok (.invokestatic 51, 3) := by decide +kernel
theorem dX3_support_13 : decode cX3_support 13 = .ok (.aload_n 0, 1) := by decide +kernel
theorem dX3_support_14 : decode cX3_support 14 = .ok (.aload_n 0, 1) := by decide +kernel
theorem dX3_support_15 : decode cX3_support 15 = .ok (.getfield 10, 3) := by decide +kernel
theorem dX3_support_18 : decode cX3_support 18 = .ok (.invokevirtual 55, 3) := by decide +kernel
theorem dX3_support_21 : decode cX3_support 21 = .ok (.aload_n 0, 1) := by decide +kernel
theorem dX3_support_22 : decode cX3_support 22 = .ok (.getfield 10, 3) := by decide +kernel
theorem dX3_support_25 : decode cX3_support 25 = .ok (.iload_n 1, 1) := by decide +kernel
theorem dX3_support_26 : decode cX3_support 26 = .ok (.iload_n 2, 1) := by decide +kernel
theorem dX3_support_27 : decode cX3_support 27 = .ok (.iload_n 3, 1) := by decide +kernel
theorem dX3_support_28 : decode cX3_support 28 = .ok (.invokevirtual 194, 3) := by decide +kernel
theorem dX3_support_31 : decode cX3_support 31 = .ok (.ireturn, 1) := by decide +kernel
theorem dX3_decide_0 : decode cX3_decide 0 = .ok (.aload_n 0, 1) := by decide +kernel
theorem dX3_decide_1 : decode cX3_decide 1 = .ok (.getfield 10, 3) := by decide +kernel
theorem dX3_decide_4 : decode cX3_decide 4 = .ok (.iload_n 1, 1) := by decide +kernel
theorem dX3_decide_5 : decode cX3_decide 5 = .ok (.invokevirtual 197, 3) := by decide +kernel
theorem dX3_decide_8 : decode cX3_decide 8 = .ok (.invokestatic 51, 3) := by decide +kernel
theorem dX3_decide_11 : decode cX3_decide 11 = .ok (.aload_n 0, 1) := by decide +kernel
theorem dX3_decide_12 : decode cX3_decide 12 = .ok (.aload_n 0, 1) := by decide +kernel
theorem dX3_decide_13 : decode cX3_decide 13 = .ok (.getfield 10, 3) := by decide +kernel
theorem dX3_decide_16 : decode cX3_decide 16 = .ok (.invokevirtual 55, 3) := by decide +kernel
theorem dX3_decide_19 : decode cX3_decide 19 = .ok (.aload_n 0, 1) := by decide +kernel
theorem dX3_decide_20 : decode cX3_decide 20 = .ok (.getfield 10, 3) := by decide +kernel
theorem dX3_decide_23 : decode cX3_decide 23 = .ok (.iload_n 1, 1) := by decide +kernel
theorem dX3_decide_24 : decode cX3_decide 24 = .ok (.invokevirtual 200, 3) := by decide +kernel
theorem dX3_decide_27 : decode cX3_decide 27 = .ok (.ireturn, 1) := by decide +kernel
theorem dX3_pendingCount_0 : decode cX3_pendingCount 0 = .ok (.aload_n 0, 1) := by decide +kernel
theorem dX3_pendingCount_1 : decode cX3_pendingCount 1 = .ok (.iload_n 1, 1) := by decide +kernel
theorem dX3_pendingCount_2 : decode cX3_pendingCount 2 = .ok (.invokevirtual 127, 3) := by decide +kernel
theorem dX3_pendingCount_5 : decode cX3_pendingCount 5 = .ok (.aload_n 0, 1) := by decide +kernel
theorem dX3_pendingCount_6 : decode cX3_pendingCount 6 = .ok (.getfield 10, 3) := by decide +kernel
theorem dX3_pendingCount_9 : decode cX3_pendingCount 9 = .ok (.getfield 203, 3) := by decide +kernel
theorem dX3_pendingCount_12 : decode cX3_pendingCount 12 = .ok (.iload_n 1, 1) := by decide +kernel
theorem dX3_pendingCount_13 : decode cX3_pendingCount 13 = .ok (.iaload, 1) := by decide +kernel
theorem dX3_pendingCount_14 : decode cX3_pendingCount 14 = .ok (.ireturn, 1) := by decide +kernel
theorem dX3_amendedClause_0 : decode cX3_amendedClause 0 = .ok (.aload_n 0, 1) := by decide +kernel
theorem dX3_amendedClause_1 : decode cX3_amendedClause 1 = .ok (.iload_n 1, 1) := by decide +kernel
theorem dX3_amendedClause_2 : decode cX3_amendedClause 2 = .ok (.iload_n 2, 1) := by decide +kernel
theorem dX3_amendedClause_3 : decode cX3_amendedClause 3 = .ok (.invokevirtual 206, 3) := by decide +kernel
theorem dX3_amendedClause_6 : decode cX3_amendedClause 6 = .ok (.aload_n 0, 1) := by decide +kernel
theorem dX3_amendedClause_7 : decode cX3_amendedClause 7 = .ok (.getfield 10, 3) := by decide +kernel
theorem dX3_amendedClause_10 : decode cX3_amendedClause 10 = .ok (.getfield 210, 3) := by decide +kernel
theorem dX3_amendedClause_13 : decode cX3_amendedClause 13 = .ok (.iload_n 1, 1) := by decide +kernel
theorem dX3_amendedClause_14 : decode cX3_amendedClause 14 = .ok (.aaload, 1) := by decide +kernel
theorem dX3_amendedClause_15 : decode cX3_amendedClause 15 = .ok (.iload_n 2, 1) := by decide +kernel
theorem dX3_amendedClause_16 : decode cX3_amendedClause 16 = .ok (.iaload, 1) := by decide +kernel
theorem dX3_amendedClause_17 : decode cX3_amendedClause 17 = .ok (.ireturn, 1) := by decide +kernel
theorem dX3_supportWeight_0 : decode cX3_supportWeight 0 = .ok (.aload_n 0, 1) := by decide +kernel
theorem dX3_supportWeight_1 : decode cX3_supportWeight 1 = .ok (.iload_n 1, 1) := by decide +kernel
theorem dX3_supportWeight_2 : decode cX3_supportWeight 2 = .ok (.iload_n 2, 1) := by decide +kernel
theorem dX3_supportWeight_3 : decode cX3_supportWeight 3 = .ok (.invokevirtual 206, 3) := by decide +kernel
theorem dX3_supportWeight_6 : decode cX3_supportWeight 6 = .ok (.aload_n 0, 1) := by decide +kernel
theorem dX3_supportWeight_7 : decode cX3_supportWeight 7 = .ok (.getfield 10, 3) := by decide +kernel
theorem dX3_supportWeight_10 : decode cX3_supportWeight 10 = .ok (.aload_n 0, 1) := by decide +kernel
theorem dX3_supportWeight_11 : decode cX3_supportWeight 11 = .ok (.getfield 10, 3) := by decide +kernel
theorem dX3_supportWeight_14 : decode cX3_supportWeight 14 = .ok (.getfield 214, 3) := by decide +kernel
theorem dX3_supportWeight_17 : decode cX3_supportWeight 17 = .ok (.iload_n 1, 1) := by decide +kernel
theorem dX3_supportWeight_18 : decode cX3_supportWeight 18 = .ok (.aaload, 1) := by decide +kernel
theorem dX3_supportWeight_19 : decode cX3_supportWeight 19 = .ok (.iload_n 2, 1) := by decide +kernel
theorem dX3_supportWeight_20 : decode cX3_supportWeight 20 = .ok (.iaload, 1) := by decide +kernel
theorem dX3_supportWeight_21 : decode cX3_supportWeight 21 = .ok (.invokevirtual 170, 3) := by decide +kernel
theorem dX3_supportWeight_24 : decode cX3_supportWeight 24 = .ok (.ireturn, 1) := by decide +kernel
theorem dX3_ride_0 : decode cX3_ride 0 = .ok (.aload_n 0, 1) := by decide +kernel
theorem dX3_ride_1 : decode cX3_ride 1 = .ok (.getfield 10, 3) := by decide +kernel
theorem dX3_ride_4 : decode cX3_ride 4 = .ok (.iload_n 1, 1) := by decide +kernel
theorem dX3_ride_5 : decode cX3_ride 5 = .ok (.iload_n 2, 1) := by decide +kernel
theorem dX3_ride_6 : decode cX3_ride 6 = .ok (.iload_n 3, 1) := by decide +kernel
theorem dX3_ride_7 : decode cX3_ride 7 = .ok (.invokevirtual 217, 3) := by decide +kernel
theorem dX3_ride_10 : decode cX3_ride 10 = .ok (.invokestatic 51, 3) := by decide +kernel
theorem dX3_ride_13 : decode cX3_ride 13 = .ok (.aload_n 0, 1) := by decide +kernel
theorem dX3_ride_14 : decode cX3_ride 14 = .ok (.aload_n 0, 1) := by decide +kernel
theorem dX3_ride_15 : decode cX3_ride 15 = .ok (.getfield 10, 3) := by decide +kernel
theorem dX3_ride_18 : decode cX3_ride 18 = .ok (.invokevirtual 55, 3) := by decide +kernel
theorem dX3_ride_21 : decode cX3_ride 21 = .ok (.aload_n 0, 1) := by decide +kernel
theorem dX3_ride_22 : decode cX3_ride 22 = .ok (.getfield 10, 3) := by decide +kernel
theorem dX3_ride_25 : decode cX3_ride 25 = .ok (.iload_n 2, 1) := by decide +kernel
theorem dX3_ride_26 : decode cX3_ride 26 = .ok (.iload_n 3, 1) := by decide +kernel
theorem dX3_ride_27 : decode cX3_ride 27 = .ok (.invokevirtual 220, 3) := by decide +kernel
theorem dX3_ride_30 : decode cX3_ride 30 = .ok (.ireturn, 1) := by decide +kernel
theorem dX3_delay_0 : decode cX3_delay 0 = .ok (.aload_n 0, 1) := by decide +kernel
theorem dX3_delay_1 : decode cX3_delay 1 = .ok (.iload_n 1, 1) := by decide +kernel
theorem dX3_delay_2 : decode cX3_delay 2 = .ok (.invokevirtual 127, 3) := by decide +kernel
theorem dX3_delay_5 : decode cX3_delay 5 = .ok (.aload_n 0, 1) := by decide +kernel
theorem dX3_delay_6 : decode cX3_delay 6 = .ok (.getfield 10, 3) := by decide +kernel
theorem dX3_delay_9 : decode cX3_delay 9 = .ok (.getfield 223, 3) := by decide +kernel
theorem dX3_delay_12 : decode cX3_delay 12 = .ok (.iload_n 1, 1) := by decide +kernel
theorem dX3_delay_13 : decode cX3_delay 13 = .ok (.iaload, 1) := by decide +kernel
theorem dX3_delay_14 : decode cX3_delay 14 = .ok (.ireturn, 1) := by decide +kernel
theorem dX3_rust_0 : decode cX3_rust 0 = .ok (.aload_n 0, 1) := by decide +kernel
theorem dX3_rust_1 : decode cX3_rust 1 = .ok (.iload_n 1, 1) := by decide +kernel
theorem dX3_rust_2 : decode cX3_rust 2 = .ok (.invokevirtual 127, 3) := by decide +kernel
theorem dX3_rust_5 : decode cX3_rust 5 = .ok (.aload_n 0, 1) := by decide +kernel
theorem dX3_rust_6 : decode cX3_rust 6 = .ok (.getfield 10, 3) := by decide +kernel
theorem dX3_rust_9 : decode cX3_rust 9 = .ok (.iload_n 1, 1) := by decide +kernel
theorem dX3_rust_10 : decode cX3_rust 10 = .ok (.invokevirtual 226, 3) := by decide +kernel
theorem dX3_rust_13 : decode cX3_rust 13 = .ok (.ireturn, 1) := by decide +kernel
theorem dX3_ridesUntilFall_0 : decode cX3_ridesUntilFall 0 = .ok (.aload_n 0, 1) := by decide +kernel
theorem dX3_ridesUntilFall_1 : decode cX3_ridesUntilFall 1 = .ok (.iload_n 1, 1) := by decide +kernel
theorem dX3_ridesUntilFall_2 : decode cX3_ridesUntilFall 2 = .ok (.invokevirtual 127, 3) := by decide +kernel
theorem dX3_ridesUntilFall_5 : decode cX3_ridesUntilFall 5 = .ok (.iload_n 2, 1) := by decide +kernel
theorem dX3_ridesUntilFall_6 : decode cX3_ridesUntilFall 6 = .ok (.iconst 1, 1) := by decide +kernel
theorem dX3_ridesUntilFall_7 : decode cX3_ridesUntilFall 7 = .ok (.if_icmp .lt 9, 3) := by decide +kernel
theorem dX3_ridesUntilFall_10 : decode cX3_ridesUntilFall 10 = .ok (.iload_n 2, 1) := by decide +kernel
theorem dX3_ridesUntilFall_11 : decode cX3_ridesUntilFall 11 = .ok (.bipush 30, 2) := by decide +kernel
theorem dX3_ridesUntilFall_13 : decode cX3_ridesUntilFall 13 = .ok (.if_icmp .le 11, 3) := by decide +kernel
theorem dX3_ridesUntilFall_16 : decode cX3_ridesUntilFall 16 = .ok (.new 229, 3) := by decide +kernel
theorem dX3_ridesUntilFall_19 : decode cX3_ridesUntilFall 19 = .ok (.dup, 1) := by decide +kernel
theorem dX3_ridesUntilFall_20 : decode cX3_ridesUntilFall 20 = .ok (.invokespecial 231, 3) := by decide +kernel
theorem dX3_ridesUntilFall_23 : decode cX3_ridesUntilFall 23 = .ok (.athrow, 1) := by decide +kernel
theorem dX3_ridesUntilFall_24 : decode cX3_ridesUntilFall 24 = .ok (.aload_n 0, 1) := by decide +kernel
theorem dX3_ridesUntilFall_25 : decode cX3_ridesUntilFall 25 = .ok (.getfield 10, 3) := by decide +kernel
theorem dX3_ridesUntilFall_28 : decode cX3_ridesUntilFall 28 = .ok (.getfield 130, 3) := by decide +kernel
theorem dX3_ridesUntilFall_31 : decode cX3_ridesUntilFall 31 = .ok (.iload_n 1, 1) := by decide +kernel
theorem dX3_ridesUntilFall_32 : decode cX3_ridesUntilFall 32 = .ok (.iaload, 1) := by decide +kernel
theorem dX3_ridesUntilFall_33 : decode cX3_ridesUntilFall 33 = .ok (.ifCond .eq 11, 3) := by decide +kernel
theorem dX3_ridesUntilFall_36 : decode cX3_ridesUntilFall 36 = .ok (.new 232, 3) := by decide +kernel
theorem dX3_ridesUntilFall_39 : decode cX3_ridesUntilFall 39 = .ok (.dup, 1) := by decide +kernel
theorem dX3_ridesUntilFall_40 : decode cX3_ridesUntilFall 40 = .ok (.invokespecial 234, 3) := by decide +kernel
theorem dX3_ridesUntilFall_43 : decode cX3_ridesUntilFall 43 = .ok (.athrow, 1) := by decide +kernel
theorem dX3_ridesUntilFall_44 : decode cX3_ridesUntilFall 44 = .ok (.sipush 180, 3) := by decide +kernel
theorem dX3_ridesUntilFall_47 : decode cX3_ridesUntilFall 47 = .ok (.aload_n 0, 1) := by decide +kernel
theorem dX3_ridesUntilFall_48 : decode cX3_ridesUntilFall 48 = .ok (.getfield 10, 3) := by decide +kernel
theorem dX3_ridesUntilFall_51 : decode cX3_ridesUntilFall 51 = .ok (.getfield 223, 3) := by decide +kernel
theorem dX3_ridesUntilFall_54 : decode cX3_ridesUntilFall 54 = .ok (.iload_n 1, 1) := by decide +kernel
theorem dX3_ridesUntilFall_55 : decode cX3_ridesUntilFall 55 = .ok (.iaload, 1) := by decide +kernel
theorem dX3_ridesUntilFall_56 : decode cX3_ridesUntilFall 56 = .ok (.isub, 1) := by decide +kernel
theorem dX3_ridesUntilFall_57 : decode cX3_ridesUntilFall 57 = .ok (.istore_n 3, 1) := by decide +kernel
theorem dX3_ridesUntilFall_58 : decode cX3_ridesUntilFall 58 = .ok (.iload_n 3, 1) := by decide +kernel
theorem dX3_ridesUntilFall_59 : decode cX3_ridesUntilFall 59 = .ok (.iload_n 2, 1) := by decide +kernel
theorem dX3_ridesUntilFall_60 : decode cX3_ridesUntilFall 60 = .ok (.iadd, 1) := by decide +kernel
theorem dX3_ridesUntilFall_61 : decode cX3_ridesUntilFall 61 = .ok (.iconst 1, 1) := by decide +kernel
theorem dX3_ridesUntilFall_62 : decode cX3_ridesUntilFall 62 = .ok (.isub, 1) := by decide +kernel
theorem dX3_ridesUntilFall_63 : decode cX3_ridesUntilFall 63 = .ok (.iload_n 2, 1) := by decide +kernel
theorem dX3_ridesUntilFall_64 : decode cX3_ridesUntilFall 64 = .ok (.idiv, 1) := by decide +kernel
theorem dX3_ridesUntilFall_65 : decode cX3_ridesUntilFall 65 = .ok (.ireturn, 1) := by decide +kernel
theorem dX3_passedCount_0 : decode cX3_passedCount 0 = .ok (.aload_n 0, 1) := by decide +kernel
theorem dX3_passedCount_1 : decode cX3_passedCount 1 = .ok (.getfield 10, 3) := by decide +kernel
theorem dX3_passedCount_4 : decode cX3_passedCount 4 = .ok (.iconst 1, 1) := by decide +kernel
theorem dX3_passedCount_5 : decode cX3_passedCount 5 = .ok (.invokevirtual 235, 3) := by decide +kernel
theorem dX3_passedCount_8 : decode cX3_passedCount 8 = .ok (.ireturn, 1) := by decide +kernel
theorem dX3_fallenCount_0 : decode cX3_fallenCount 0 = .ok (.aload_n 0, 1) := by decide +kernel
theorem dX3_fallenCount_1 : decode cX3_fallenCount 1 = .ok (.getfield 10, 3) := by decide +kernel
theorem dX3_fallenCount_4 : decode cX3_fallenCount 4 = .ok (.iconst 2, 1) := by decide +kernel
theorem dX3_fallenCount_5 : decode cX3_fallenCount 5 = .ok (.invokevirtual 235, 3) := by decide +kernel
theorem dX3_fallenCount_8 : decode cX3_fallenCount 8 = .ok (.ireturn, 1) := by decide +kernel
theorem dX3_acceptedCount_0 : decode cX3_acceptedCount 0 = .ok (.aload_n 0, 1) := by decide +kernel
theorem dX3_acceptedCount_1 : decode cX3_acceptedCount 1 = .ok (.getfield 10, 3) := by decide +kernel
theorem dX3_acceptedCount_4 : decode cX3_acceptedCount 4 = .ok (.getfield 238, 3) := by decide +kernel
theorem dX3_acceptedCount_7 : decode cX3_acceptedCount 7 = .ok (.ireturn, 1) := by decide +kernel
theorem dX3_append_0 : decode cX3_append 0 = .ok (.iload_n 1, 1) := by decide +kernel
theorem dX3_append_1 : decode cX3_append 1 = .ok (.bipush 32, 2) := by decide +kernel
theorem dX3_append_3 : decode cX3_append 3 = .ok (.if_icmp .lt 9, 3) := by decide +kernel
theorem dX3_append_6 : decode cX3_append 6 = .ok (.iload_n 1, 1) := by decide +kernel
theorem dX3_append_7 : decode cX3_append 7 = .ok (.bipush 126, 2) := by decide +kernel
theorem dX3_append_9 : decode cX3_append 9 = .ok (.if_icmp .le 11, 3) := by decide +kernel
theorem dX3_append_12 : decode cX3_append 12 = .ok (.new 229, 3) := by decide +kernel
theorem dX3_append_15 : decode cX3_append 15 = .ok (.dup, 1) := by decide +kernel
theorem dX3_append_16 : decode cX3_append 16 = .ok (.invokespecial 231, 3) := by decide +kernel
theorem dX3_append_19 : decode cX3_append 19 = .ok (.athrow, 1) := by decide +kernel
theorem dX3_append_20 : decode cX3_append 20 = .ok (.aload_n 0, 1) := by decide +kernel
theorem dX3_append_21 : decode cX3_append 21 = .ok (.getfield 29, 3) := by decide +kernel
theorem dX3_append_24 : decode cX3_append 24 = .ok (.invokevirtual 241, 3) := by decide +kernel
theorem dX3_append_27 : decode cX3_append 27 = .ok (.ifCond .eq 11, 3) := by decide +kernel
theorem dX3_append_30 : decode cX3_append 30 = .ok (.new 232, 3) := by decide +kernel
theorem dX3_append_33 : decode cX3_append 33 = .ok (.dup, 1) := by decide +kernel
theorem dX3_append_34 : decode cX3_append 34 = .ok (.invokespecial 234, 3) := by decide +kernel
theorem dX3_append_37 : decode cX3_append 37 = .ok (.athrow, 1) := by decide +kernel
theorem dX3_append_38 : decode cX3_append 38 = .ok (.aload_n 0, 1) := by decide +kernel
theorem dX3_append_39 : decode cX3_append 39 = .ok (.getfield 29, 3) := by decide +kernel
theorem dX3_append_42 : decode cX3_append 42 = .ok (.iload_n 1, 1) := by decide +kernel
theorem dX3_append_43 : decode cX3_append 43 = .ok (.invokevirtual 244, 3) := by decide +kernel
theorem dX3_append_46 : decode cX3_append 46 = .ok (.ireturn, 1) := by decide +kernel
theorem dX3_run_0 : decode cX3_run 0 = .ok (.aload_n 0, 1) := by decide +kernel
theorem dX3_run_1 : decode cX3_run 1 = .ok (.getfield 29, 3) := by decide +kernel
theorem dX3_run_4 : decode cX3_run 4 = .ok (.invokevirtual 248, 3) := by decide +kernel
theorem dX3_run_7 : decode cX3_run 7 = .ok (.istore_n 1, 1) := by decide +kernel
theorem dX3_run_8 : decode cX3_run 8 = .ok (.iload_n 1, 1) := by decide +kernel
theorem dX3_run_9 : decode cX3_run 9 = .ok (.iconst (-1), 1) := by decide +kernel
theorem dX3_run_10 : decode cX3_run 10 = .ok (.if_icmp .ne 29, 3) := by decide +kernel
theorem dX3_run_13 : decode cX3_run 13 = .ok (.aload_n 0, 1) := by decide +kernel
theorem dX3_run_14 : decode cX3_run 14 = .ok (.aload_n 0, 1) := by decide +kernel
theorem dX3_run_15 : decode cX3_run 15 = .ok (.getfield 29, 3) := by decide +kernel
theorem dX3_run_18 : decode cX3_run 18 = .ok (.getfield 252, 3) := by decide +kernel
theorem dX3_run_21 : decode cX3_run 21 = .ok (.putfield 33, 3) := by decide +kernel
theorem dX3_run_24 : decode cX3_run 24 = .ok (.aload_n 0, 1) := by decide +kernel
theorem dX3_run_25 : decode cX3_run 25 = .ok (.getfield 29, 3) := by decide +kernel
theorem dX3_run_28 : decode cX3_run 28 = .ok (.invokevirtual 255, 3) := by decide +kernel
theorem dX3_run_31 : decode cX3_run 31 = .ok (.new 229, 3) := by decide +kernel
theorem dX3_run_34 : decode cX3_run 34 = .ok (.dup, 1) := by decide +kernel
theorem dX3_run_35 : decode cX3_run 35 = .ok (.invokespecial 231, 3) := by decide +kernel
theorem dX3_run_38 : decode cX3_run 38 = .ok (.athrow, 1) := by decide +kernel
theorem dX3_run_39 : decode cX3_run 39 = .ok (.aload_n 0, 1) := by decide +kernel
theorem dX3_run_40 : decode cX3_run 40 = .ok (.getfield 16, 3) := by decide +kernel
theorem dX3_run_43 : decode cX3_run 43 = .ok (.aload_n 0, 1) := by decide +kernel
theorem dX3_run_44 : decode cX3_run 44 = .ok (.getfield 10, 3) := by decide +kernel
theorem dX3_run_47 : decode cX3_run 47 = .ok (.invokevirtual 258, 3) := by decide +kernel
theorem dX3_run_50 : decode cX3_run 50 = .ok (.aload_n 0, 1) := by decide +kernel
theorem dX3_run_51 : decode cX3_run 51 = .ok (.iload_n 1, 1) := by decide +kernel
theorem dX3_run_52 : decode cX3_run 52 = .ok (.invokevirtual 261, 3) := by decide +kernel
theorem dX3_run_55 : decode cX3_run 55 = .ok (.istore_n 2, 1) := by decide +kernel
theorem dX3_run_56 : decode cX3_run 56 = .ok (.aload_n 0, 1) := by decide +kernel
theorem dX3_run_57 : decode cX3_run 57 = .ok (.getfield 29, 3) := by decide +kernel
theorem dX3_run_60 : decode cX3_run 60 = .ok (.invokevirtual 255, 3) := by decide +kernel
theorem dX3_run_63 : decode cX3_run 63 = .ok (.iload_n 2, 1) := by decide +kernel
theorem dX3_run_64 : decode cX3_run 64 = .ok (.iconst (-1), 1) := by decide +kernel
theorem dX3_run_65 : decode cX3_run 65 = .ok (.if_icmp .eq 27, 3) := by decide +kernel
theorem dX3_run_68 : decode cX3_run 68 = .ok (.aload_n 0, 1) := by decide +kernel
theorem dX3_run_69 : decode cX3_run 69 = .ok (.getfield 10, 3) := by decide +kernel
theorem dX3_run_72 : decode cX3_run 72 = .ok (.aload_n 0, 1) := by decide +kernel
theorem dX3_run_73 : decode cX3_run 73 = .ok (.getfield 16, 3) := by decide +kernel
theorem dX3_run_76 : decode cX3_run 76 = .ok (.invokevirtual 258, 3) := by decide +kernel
theorem dX3_run_79 : decode cX3_run 79 = .ok (.aload_n 0, 1) := by decide +kernel
theorem dX3_run_80 : decode cX3_run 80 = .ok (.iload_n 2, 1) := by decide +kernel
theorem dX3_run_81 : decode cX3_run 81 = .ok (.putfield 37, 3) := by decide +kernel
theorem dX3_run_84 : decode cX3_run 84 = .ok (.new 232, 3) := by decide +kernel
theorem dX3_run_87 : decode cX3_run 87 = .ok (.dup, 1) := by decide +kernel
theorem dX3_run_88 : decode cX3_run 88 = .ok (.invokespecial 234, 3) := by decide +kernel
theorem dX3_run_91 : decode cX3_run 91 = .ok (.athrow, 1) := by decide +kernel
theorem dX3_run_92 : decode cX3_run 92 = .ok (.aload_n 0, 1) := by decide +kernel
theorem dX3_run_93 : decode cX3_run 93 = .ok (.aload_n 0, 1) := by decide +kernel
theorem dX3_run_94 : decode cX3_run 94 = .ok (.getfield 16, 3) := by decide +kernel
theorem dX3_run_97 : decode cX3_run 97 = .ok (.invokevirtual 55, 3) := by decide +kernel
theorem dX3_run_100 : decode cX3_run 100 = .ok (.iload_n 1, 1) := by decide +kernel
theorem dX3_run_101 : decode cX3_run 101 = .ok (.ireturn, 1) := by decide +kernel
theorem dX3_failedCommand_0 : decode cX3_failedCommand 0 = .ok (.aload_n 0, 1) := by decide +kernel
theorem dX3_failedCommand_1 : decode cX3_failedCommand 1 = .ok (.getfield 37, 3) := by decide +kernel
theorem dX3_failedCommand_4 : decode cX3_failedCommand 4 = .ok (.iconst (-1), 1) := by decide +kernel
theorem dX3_failedCommand_5 : decode cX3_failedCommand 5 = .ok (.if_icmp .ne 11, 3) := by decide +kernel
theorem dX3_failedCommand_8 : decode cX3_failedCommand 8 = .ok (.new 152, 3) := by decide +kernel
theorem dX3_failedCommand_11 : decode cX3_failedCommand 11 = .ok (.dup, 1) := by decide +kernel
theorem dX3_failedCommand_12 : decode cX3_failedCommand 12 = .ok (.invokespecial 154, 3) := by decide +kernel
theorem dX3_failedCommand_15 : decode cX3_failedCommand 15 = .ok (.athrow, 1) := by decide +kernel
theorem dX3_failedCommand_16 : decode cX3_failedCommand 16 = .ok (.aload_n 0, 1) := by decide +kernel
theorem dX3_failedCommand_17 : decode cX3_failedCommand 17 = .ok (.getfield 37, 3) := by decide +kernel
theorem dX3_failedCommand_20 : decode cX3_failedCommand 20 = .ok (.ireturn, 1) := by decide +kernel
theorem dX3_describeBill_0 : decode cX3_describeBill 0 = .ok (.aload_n 0, 1) := by decide +kernel
theorem dX3_describeBill_1 : decode cX3_describeBill 1 = .ok (.iload_n 1, 1) := by decide +kernel
theorem dX3_describeBill_2 : decode cX3_describeBill 2 = .ok (.invokevirtual 127, 3) := by decide +kernel
theorem dX3_describeBill_5 : decode cX3_describeBill 5 = .ok (.aload_n 0, 1) := by decide +kernel
theorem dX3_describeBill_6 : decode cX3_describeBill 6 = .ok (.getfield 10, 3) := by decide +kernel
theorem dX3_describeBill_9 : decode cX3_describeBill 9 = .ok (.getfield 130, 3) := by decide +kernel
theorem dX3_describeBill_12 : decode cX3_describeBill 12 = .ok (.iload_n 1, 1) := by decide +kernel
theorem dX3_describeBill_13 : decode cX3_describeBill 13 = .ok (.iaload, 1) := by decide +kernel
theorem dX3_describeBill_14 : decode cX3_describeBill 14 = .ok (.istore_n 2, 1) := by decide +kernel
theorem dX3_describeBill_15 : decode cX3_describeBill 15 = .ok (.aload_n 0, 1) := by decide +kernel
theorem dX3_describeBill_16 : decode cX3_describeBill 16 = .ok (.getfield 10, 3) := by decide +kernel
theorem dX3_describeBill_19 : decode cX3_describeBill 19 = .ok (.iload_n 1, 1) := by decide +kernel
theorem dX3_describeBill_20 : decode cX3_describeBill 20 = .ok (.invokevirtual 226, 3) := by decide +kernel
theorem dX3_describeBill_23 : decode cX3_describeBill 23 = .ok (.istore_n 3, 1) := by decide +kernel
theorem dX3_describeBill_24 : decode cX3_describeBill 24 = .ok (.aload_n 0, 1) := by decide +kernel
theorem dX3_describeBill_25 : decode cX3_describeBill 25 = .ok (.getfield 43, 3) := by decide +kernel
theorem dX3_describeBill_28 : decode cX3_describeBill 28 = .ok (.invokevirtual 264, 3) := by decide +kernel
theorem dX3_describeBill_31 : decode cX3_describeBill 31 = .ok (.aload_n 0, 1) := by decide +kernel
theorem dX3_describeBill_32 : decode cX3_describeBill 32 = .ok (.getfield 43, 3) := by decide +kernel
theorem dX3_describeBill_35 : decode cX3_describeBill 35 = .ok (.iload_n 1, 1) := by decide +kernel
theorem dX3_describeBill_36 : decode cX3_describeBill 36 = .ok (.invokevirtual 265, 3) := by decide +kernel
theorem dX3_describeBill_39 : decode cX3_describeBill 39 = .ok (.aload_n 0, 1) := by decide +kernel
theorem dX3_describeBill_40 : decode cX3_describeBill 40 = .ok (.getfield 43, 3) := by decide +kernel
theorem dX3_describeBill_43 : decode cX3_describeBill 43 = .ok (.iload_n 2, 1) := by decide +kernel
theorem dX3_describeBill_44 : decode cX3_describeBill 44 = .ok (.ifCond .ne 8, 3) := by decide +kernel
theorem dX3_describeBill_47 : decode cX3_describeBill 47 = .ok (.bipush 111, 2) := by decide +kernel
theorem dX3_describeBill_49 : decode cX3_describeBill 49 = .ok (.goto 15, 3) := by decide +kernel
theorem dX3_describeBill_52 : decode cX3_describeBill 52 = .ok (.iload_n 2, 1) := by decide +kernel
theorem dX3_describeBill_53 : decode cX3_describeBill 53 = .ok (.iconst 1, 1) := by decide +kernel
theorem dX3_describeBill_54 : decode cX3_describeBill 54 = .ok (.if_icmp .ne 8, 3) := by decide +kernel
theorem dX3_describeBill_57 : decode cX3_describeBill 57 = .ok (.bipush 112, 2) := by decide +kernel
theorem dX3_describeBill_59 : decode cX3_describeBill 59 = .ok (.goto 5, 3) := by decide +kernel
theorem dX3_describeBill_62 : decode cX3_describeBill 62 = .ok (.bipush 102, 2) := by decide +kernel
theorem dX3_describeBill_64 : decode cX3_describeBill 64 = .ok (.invokevirtual 268, 3) := by decide +kernel
theorem dX3_describeBill_67 : decode cX3_describeBill 67 = .ok (.aload_n 0, 1) := by decide +kernel
theorem dX3_describeBill_68 : decode cX3_describeBill 68 = .ok (.getfield 43, 3) := by decide +kernel
theorem dX3_describeBill_71 : decode cX3_describeBill 71 = .ok (.aload_n 0, 1) := by decide +kernel
theorem dX3_describeBill_72 : decode cX3_describeBill 72 = .ok (.getfield 10, 3) := by decide +kernel
theorem dX3_describeBill_75 : decode cX3_describeBill 75 = .ok (.getfield 133, 3) := by decide +kernel
theorem dX3_describeBill_78 : decode cX3_describeBill 78 = .ok (.iload_n 1, 1) := by decide +kernel
theorem dX3_describeBill_79 : decode cX3_describeBill 79 = .ok (.iaload, 1) := by decide +kernel
theorem dX3_describeBill_80 : decode cX3_describeBill 80 = .ok (.invokevirtual 265, 3) := by decide +kernel
theorem dX3_describeBill_83 : decode cX3_describeBill 83 = .ok (.iconst 0, 1) := by decide +kernel
theorem dX3_describeBill_84 : decode cX3_describeBill 84 = .ok (.istore 4, 2) := by decide +kernel
theorem dX3_describeBill_86 : decode cX3_describeBill 86 = .ok (.iload 4, 2) := by decide +kernel
theorem dX3_describeBill_88 : decode cX3_describeBill 88 = .ok (.iload_n 3, 1) := by decide +kernel
theorem dX3_describeBill_89 : decode cX3_describeBill 89 = .ok (.if_icmp .ge 18, 3) := by decide +kernel
theorem dX3_describeBill_92 : decode cX3_describeBill 92 = .ok (.aload_n 0, 1) := by decide +kernel
theorem dX3_describeBill_93 : decode cX3_describeBill 93 = .ok (.getfield 43, 3) := by decide +kernel
theorem dX3_describeBill_96 : decode cX3_describeBill 96 = .ok (.bipush 42, 2) := by decide +kernel
theorem dX3_describeBill_98 : decode cX3_describeBill 98 = .ok (.invokevirtual 268, 3) := by decide +kernel
theorem dX3_describeBill_101 : decode cX3_describeBill 101 = .ok (.iinc 4 1, 3) := by decide +kernel
theorem dX3_describeBill_104 : decode cX3_describeBill 104 = .ok (.goto (-18), 3) := by decide +kernel
theorem dX3_describeBill_107 : decode cX3_describeBill 107 = .ok (.aload_n 0, 1) := by decide +kernel
theorem dX3_describeBill_108 : decode cX3_describeBill 108 = .ok (.getfield 43, 3) := by decide +kernel
theorem dX3_describeBill_111 : decode cX3_describeBill 111 = .ok (.bipush 58, 2) := by decide +kernel
theorem dX3_describeBill_113 : decode cX3_describeBill 113 = .ok (.invokevirtual 268, 3) := by decide +kernel
theorem dX3_describeBill_116 : decode cX3_describeBill 116 = .ok (.aload_n 0, 1) := by decide +kernel
theorem dX3_describeBill_117 : decode cX3_describeBill 117 = .ok (.getfield 43, 3) := by decide +kernel
theorem dX3_describeBill_120 : decode cX3_describeBill 120 = .ok (.aload_n 0, 1) := by decide +kernel
theorem dX3_describeBill_121 : decode cX3_describeBill 121 = .ok (.getfield 10, 3) := by decide +kernel
theorem dX3_describeBill_124 : decode cX3_describeBill 124 = .ok (.getfield 136, 3) := by decide +kernel
theorem dX3_describeBill_127 : decode cX3_describeBill 127 = .ok (.iload_n 1, 1) := by decide +kernel
theorem dX3_describeBill_128 : decode cX3_describeBill 128 = .ok (.laload, 1) := by decide +kernel
theorem dX3_describeBill_129 : decode cX3_describeBill 129 = .ok (.invokestatic 140, 3) := by decide +kernel
theorem dX3_describeBill_132 : decode cX3_describeBill 132 = .ok (.invokevirtual 265, 3) := by decide +kernel
theorem dX3_describeBill_135 : decode cX3_describeBill 135 = .ok (.iload_n 2, 1) := by decide +kernel
theorem dX3_describeBill_136 : decode cX3_describeBill 136 = .ok (.ifCond .ne 67, 3) := by decide +kernel
theorem dX3_describeBill_139 : decode cX3_describeBill 139 = .ok (.aload_n 0, 1) := by decide +kernel
theorem dX3_describeBill_140 : decode cX3_describeBill 140 = .ok (.getfield 43, 3) := by decide +kernel
theorem dX3_describeBill_143 : decode cX3_describeBill 143 = .ok (.bipush 43, 2) := by decide +kernel
theorem dX3_describeBill_145 : decode cX3_describeBill 145 = .ok (.invokevirtual 268, 3) := by decide +kernel
theorem dX3_describeBill_148 : decode cX3_describeBill 148 = .ok (.aload_n 0, 1) := by decide +kernel
theorem dX3_describeBill_149 : decode cX3_describeBill 149 = .ok (.getfield 43, 3) := by decide +kernel
theorem dX3_describeBill_152 : decode cX3_describeBill 152 = .ok (.aload_n 0, 1) := by decide +kernel
theorem dX3_describeBill_153 : decode cX3_describeBill 153 = .ok (.getfield 10, 3) := by decide +kernel
theorem dX3_describeBill_156 : decode cX3_describeBill 156 = .ok (.aload_n 0, 1) := by decide +kernel
theorem dX3_describeBill_157 : decode cX3_describeBill 157 = .ok (.getfield 10, 3) := by decide +kernel
theorem dX3_describeBill_160 : decode cX3_describeBill 160 = .ok (.getfield 167, 3) := by decide +kernel
theorem dX3_describeBill_163 : decode cX3_describeBill 163 = .ok (.iload_n 1, 1) := by decide +kernel
theorem dX3_describeBill_164 : decode cX3_describeBill 164 = .ok (.iaload, 1) := by decide +kernel
theorem dX3_describeBill_165 : decode cX3_describeBill 165 = .ok (.invokevirtual 170, 3) := by decide +kernel
theorem dX3_describeBill_168 : decode cX3_describeBill 168 = .ok (.invokevirtual 265, 3) := by decide +kernel
theorem dX3_describeBill_171 : decode cX3_describeBill 171 = .ok (.aload_n 0, 1) := by decide +kernel
theorem dX3_describeBill_172 : decode cX3_describeBill 172 = .ok (.getfield 43, 3) := by decide +kernel
theorem dX3_describeBill_175 : decode cX3_describeBill 175 = .ok (.bipush 45, 2) := by decide +kernel
theorem dX3_describeBill_177 : decode cX3_describeBill 177 = .ok (.invokevirtual 268, 3) := by decide +kernel
theorem dX3_describeBill_180 : decode cX3_describeBill 180 = .ok (.aload_n 0, 1) := by decide +kernel
theorem dX3_describeBill_181 : decode cX3_describeBill 181 = .ok (.getfield 43, 3) := by decide +kernel
theorem dX3_describeBill_184 : decode cX3_describeBill 184 = .ok (.aload_n 0, 1) := by decide +kernel
theorem dX3_describeBill_185 : decode cX3_describeBill 185 = .ok (.getfield 10, 3) := by decide +kernel
theorem dX3_describeBill_188 : decode cX3_describeBill 188 = .ok (.aload_n 0, 1) := by decide +kernel
theorem dX3_describeBill_189 : decode cX3_describeBill 189 = .ok (.getfield 10, 3) := by decide +kernel
theorem dX3_describeBill_192 : decode cX3_describeBill 192 = .ok (.getfield 176, 3) := by decide +kernel
theorem dX3_describeBill_195 : decode cX3_describeBill 195 = .ok (.iload_n 1, 1) := by decide +kernel
theorem dX3_describeBill_196 : decode cX3_describeBill 196 = .ok (.iaload, 1) := by decide +kernel
theorem dX3_describeBill_197 : decode cX3_describeBill 197 = .ok (.invokevirtual 170, 3) := by decide +kernel
theorem dX3_describeBill_200 : decode cX3_describeBill 200 = .ok (.invokevirtual 265, 3) := by decide +kernel
theorem dX3_describeBill_203 : decode cX3_describeBill 203 = .ok (.aload_n 0, 1) := by decide +kernel
theorem dX3_describeBill_204 : decode cX3_describeBill 204 = .ok (.getfield 43, 3) := by decide +kernel
theorem dX3_describeBill_207 : decode cX3_describeBill 207 = .ok (.getfield 272, 3) := by decide +kernel
theorem dX3_describeBill_210 : decode cX3_describeBill 210 = .ok (.ireturn, 1) := by decide +kernel
theorem dX3_meanWeight_0 : decode cX3_meanWeight 0 = .ok (.aload_n 0, 1) := by decide +kernel
theorem dX3_meanWeight_1 : decode cX3_meanWeight 1 = .ok (.getfield 10, 3) := by decide +kernel
theorem dX3_meanWeight_4 : decode cX3_meanWeight 4 = .ok (.getfield 81, 3) := by decide +kernel
theorem dX3_meanWeight_7 : decode cX3_meanWeight 7 = .ok (.ifCond .ne 11, 3) := by decide +kernel
theorem dX3_meanWeight_10 : decode cX3_meanWeight 10 = .ok (.new 279, 3) := by decide +kernel
theorem dX3_meanWeight_13 : decode cX3_meanWeight 13 = .ok (.dup, 1) := by decide +kernel
theorem dX3_meanWeight_14 : decode cX3_meanWeight 14 = .ok (.invokespecial 281, 3) := by decide +kernel
theorem dX3_meanWeight_17 : decode cX3_meanWeight 17 = .ok (.athrow, 1) := by decide +kernel
theorem dX3_meanWeight_18 : decode cX3_meanWeight 18 = .ok (.aload_n 0, 1) := by decide +kernel
theorem dX3_meanWeight_19 : decode cX3_meanWeight 19 = .ok (.getfield 10, 3) := by decide +kernel
theorem dX3_meanWeight_22 : decode cX3_meanWeight 22 = .ok (.aload_n 0, 1) := by decide +kernel
theorem dX3_meanWeight_23 : decode cX3_meanWeight 23 = .ok (.getfield 10, 3) := by decide +kernel
theorem dX3_meanWeight_26 : decode cX3_meanWeight 26 = .ok (.invokevirtual 282, 3) := by decide +kernel
theorem dX3_meanWeight_29 : decode cX3_meanWeight 29 = .ok (.invokevirtual 170, 3) := by decide +kernel
theorem dX3_meanWeight_32 : decode cX3_meanWeight 32 = .ok (.i2d, 1) := by decide +kernel
theorem dX3_meanWeight_33 : decode cX3_meanWeight 33 = .ok (.aload_n 0, 1) := by decide +kernel
theorem dX3_meanWeight_34 : decode cX3_meanWeight 34 = .ok (.getfield 10, 3) := by decide +kernel
theorem dX3_meanWeight_37 : decode cX3_meanWeight 37 = .ok (.getfield 81, 3) := by decide +kernel
theorem dX3_meanWeight_40 : decode cX3_meanWeight 40 = .ok (.i2d, 1) := by decide +kernel
theorem dX3_meanWeight_41 : decode cX3_meanWeight 41 = .ok (.ddiv, 1) := by decide +kernel
theorem dX3_meanWeight_42 : decode cX3_meanWeight 42 = .ok (.dreturn, 1) := by decide +kernel
theorem dX3_shareBits_0 : decode cX3_shareBits 0 = .ok (.aload_n 0, 1) := by decide +kernel
theorem dX3_shareBits_1 : decode cX3_shareBits 1 = .ok (.iload_n 1, 1) := by decide +kernel
theorem dX3_shareBits_2 : decode cX3_shareBits 2 = .ok (.invokevirtual 127, 3) := by decide +kernel
theorem dX3_shareBits_5 : decode cX3_shareBits 5 = .ok (.aload_n 0, 1) := by decide +kernel
theorem dX3_shareBits_6 : decode cX3_shareBits 6 = .ok (.getfield 10, 3) := by decide +kernel
theorem dX3_shareBits_9 : decode cX3_shareBits 9 = .ok (.aload_n 0, 1) := by decide +kernel
theorem dX3_shareBits_10 : decode cX3_shareBits 10 = .ok (.getfield 10, 3) := by decide +kernel
theorem dX3_shareBits_13 : decode cX3_shareBits 13 = .ok (.getfield 167, 3) := by decide +kernel
theorem dX3_shareBits_16 : decode cX3_shareBits 16 = .ok (.iload_n 1, 1) := by decide +kernel
theorem dX3_shareBits_17 : decode cX3_shareBits 17 = .ok (.iaload, 1) := by decide +kernel
theorem dX3_shareBits_18 : decode cX3_shareBits 18 = .ok (.invokevirtual 170, 3) := by decide +kernel
theorem dX3_shareBits_21 : decode cX3_shareBits 21 = .ok (.istore_n 2, 1) := by decide +kernel
theorem dX3_shareBits_22 : decode cX3_shareBits 22 = .ok (.iload_n 2, 1) := by decide +kernel
theorem dX3_shareBits_23 : decode cX3_shareBits 23 = .ok (.aload_n 0, 1) := by decide +kernel
theorem dX3_shareBits_24 : decode cX3_shareBits 24 = .ok (.getfield 10, 3) := by decide +kernel
theorem dX3_shareBits_27 : decode cX3_shareBits 27 = .ok (.aload_n 0, 1) := by decide +kernel
theorem dX3_shareBits_28 : decode cX3_shareBits 28 = .ok (.getfield 10, 3) := by decide +kernel
theorem dX3_shareBits_31 : decode cX3_shareBits 31 = .ok (.getfield 176, 3) := by decide +kernel
theorem dX3_shareBits_34 : decode cX3_shareBits 34 = .ok (.iload_n 1, 1) := by decide +kernel
theorem dX3_shareBits_35 : decode cX3_shareBits 35 = .ok (.iaload, 1) := by decide +kernel
theorem dX3_shareBits_36 : decode cX3_shareBits 36 = .ok (.invokevirtual 170, 3) := by decide +kernel
theorem dX3_shareBits_39 : decode cX3_shareBits 39 = .ok (.iadd, 1) := by decide +kernel
theorem dX3_shareBits_40 : decode cX3_shareBits 40 = .ok (.istore_n 3, 1) := by decide +kernel
theorem dX3_shareBits_41 : decode cX3_shareBits 41 = .ok (.iload_n 3, 1) := by decide +kernel
theorem dX3_shareBits_42 : decode cX3_shareBits 42 = .ok (.ifCond .ne 11, 3) := by decide +kernel
theorem dX3_shareBits_45 : decode cX3_shareBits 45 = .ok (.new 279, 3) := by decide +kernel
theorem dX3_shareBits_48 : decode cX3_shareBits 48 = .ok (.dup, 1) := by decide +kernel
theorem dX3_shareBits_49 : decode cX3_shareBits 49 = .ok (.invokespecial 281, 3) := by decide +kernel
theorem dX3_shareBits_52 : decode cX3_shareBits 52 = .ok (.athrow, 1) := by decide +kernel
theorem dX3_shareBits_53 : decode cX3_shareBits 53 = .ok (.iload_n 2, 1) := by decide +kernel
theorem dX3_shareBits_54 : decode cX3_shareBits 54 = .ok (.i2f, 1) := by decide +kernel
theorem dX3_shareBits_55 : decode cX3_shareBits 55 = .ok (.iload_n 3, 1) := by decide +kernel
theorem dX3_shareBits_56 : decode cX3_shareBits 56 = .ok (.i2f, 1) := by decide +kernel
theorem dX3_shareBits_57 : decode cX3_shareBits 57 = .ok (.fdiv, 1) := by decide +kernel
theorem dX3_shareBits_58 : decode cX3_shareBits 58 = .ok (.invokestatic 285, 3) := by decide +kernel
theorem dX3_shareBits_61 : decode cX3_shareBits 61 = .ok (.ireturn, 1) := by decide +kernel
theorem dX3_isConsistent_0 : decode cX3_isConsistent 0 = .ok (.iconst 0, 1) := by decide +kernel
theorem dX3_isConsistent_1 : decode cX3_isConsistent 1 = .ok (.istore_n 1, 1) := by decide +kernel
theorem dX3_isConsistent_2 : decode cX3_isConsistent 2 = .ok (.iload_n 1, 1) := by decide +kernel
theorem dX3_isConsistent_3 : decode cX3_isConsistent 3 = .ok (.aload_n 0, 1) := by decide +kernel
theorem dX3_isConsistent_4 : decode cX3_isConsistent 4 = .ok (.getfield 10, 3) := by decide +kernel
theorem dX3_isConsistent_7 : decode cX3_isConsistent 7 = .ok (.getfield 124, 3) := by decide +kernel
theorem dX3_isConsistent_10 : decode cX3_isConsistent 10 = .ok (.if_icmp .ge 19, 3) := by decide +kernel
theorem dX3_isConsistent_13 : decode cX3_isConsistent 13 = .ok (.aload_n 0, 1) := by decide +kernel
theorem dX3_isConsistent_14 : decode cX3_isConsistent 14 = .ok (.iload_n 1, 1) := by decide +kernel
theorem dX3_isConsistent_15 : decode cX3_isConsistent 15 = .ok (.invokevirtual 289, 3) := by decide +kernel
theorem dX3_isConsistent_18 : decode cX3_isConsistent 18 = .ok (.ifCond .ne 5, 3) := by decide +kernel
theorem dX3_isConsistent_21 : decode cX3_isConsistent 21 = .ok (.iconst 0, 1) := by decide +kernel
theorem dX3_isConsistent_22 : decode cX3_isConsistent 22 = .ok (.ireturn, 1) := by decide +kernel
theorem dX3_isConsistent_23 : decode cX3_isConsistent 23 = .ok (.iinc 1 1, 3) := by decide +kernel
theorem dX3_isConsistent_26 : decode cX3_isConsistent 26 = .ok (.goto (-24), 3) := by decide +kernel
theorem dX3_isConsistent_29 : decode cX3_isConsistent 29 = .ok (.iconst 0, 1) := by decide +kernel
theorem dX3_isConsistent_30 : decode cX3_isConsistent 30 = .ok (.istore_n 1, 1) := by decide +kernel
theorem dX3_isConsistent_31 : decode cX3_isConsistent 31 = .ok (.iconst 0, 1) := by decide +kernel
theorem dX3_isConsistent_32 : decode cX3_isConsistent 32 = .ok (.istore_n 2, 1) := by decide +kernel
theorem dX3_isConsistent_33 : decode cX3_isConsistent 33 = .ok (.iload_n 2, 1) := by decide +kernel
theorem dX3_isConsistent_34 : decode cX3_isConsistent 34 = .ok (.iconst 4, 1) := by decide +kernel
theorem dX3_isConsistent_35 : decode cX3_isConsistent 35 = .ok (.if_icmp .ge 20, 3) := by decide +kernel
theorem dX3_isConsistent_38 : decode cX3_isConsistent 38 = .ok (.iload_n 1, 1) := by decide +kernel
theorem dX3_isConsistent_39 : decode cX3_isConsistent 39 = .ok (.aload_n 0, 1) := by decide +kernel
theorem dX3_isConsistent_40 : decode cX3_isConsistent 40 = .ok (.getfield 10, 3) := by decide +kernel
theorem dX3_isConsistent_43 : decode cX3_isConsistent 43 = .ok (.iload_n 2, 1) := by decide +kernel
theorem dX3_isConsistent_44 : decode cX3_isConsistent 44 = .ok (.invokevirtual 114, 3) := by decide +kernel
theorem dX3_isConsistent_47 : decode cX3_isConsistent 47 = .ok (.iadd, 1) := by decide +kernel
theorem dX3_isConsistent_48 : decode cX3_isConsistent 48 = .ok (.istore_n 1, 1) := by decide +kernel
theorem dX3_isConsistent_49 : decode cX3_isConsistent 49 = .ok (.iinc 2 1, 3) := by decide +kernel
theorem dX3_isConsistent_52 : decode cX3_isConsistent 52 = .ok (.goto (-19), 3) := by decide +kernel
theorem dX3_isConsistent_55 : decode cX3_isConsistent 55 = .ok (.iload_n 1, 1) := by decide +kernel
theorem dX3_isConsistent_56 : decode cX3_isConsistent 56 = .ok (.aload_n 0, 1) := by decide +kernel
theorem dX3_isConsistent_57 : decode cX3_isConsistent 57 = .ok (.getfield 10, 3) := by decide +kernel
theorem dX3_isConsistent_60 : decode cX3_isConsistent 60 = .ok (.aload_n 0, 1) := by decide +kernel
theorem dX3_isConsistent_61 : decode cX3_isConsistent 61 = .ok (.getfield 10, 3) := by decide +kernel
theorem dX3_isConsistent_64 : decode cX3_isConsistent 64 = .ok (.getfield 98, 3) := by decide +kernel
theorem dX3_isConsistent_67 : decode cX3_isConsistent 67 = .ok (.invokevirtual 170, 3) := by decide +kernel
theorem dX3_isConsistent_70 : decode cX3_isConsistent 70 = .ok (.if_icmp .ne 7, 3) := by decide +kernel
theorem dX3_isConsistent_73 : decode cX3_isConsistent 73 = .ok (.iconst 1, 1) := by decide +kernel
theorem dX3_isConsistent_74 : decode cX3_isConsistent 74 = .ok (.goto 4, 3) := by decide +kernel
theorem dX3_isConsistent_77 : decode cX3_isConsistent 77 = .ok (.iconst 0, 1) := by decide +kernel
theorem dX3_isConsistent_78 : decode cX3_isConsistent 78 = .ok (.ireturn, 1) := by decide +kernel
theorem dX3_undo_0 : decode cX3_undo 0 = .ok (.aload_n 0, 1) := by decide +kernel
theorem dX3_undo_1 : decode cX3_undo 1 = .ok (.getfield 292, 3) := by decide +kernel
theorem dX3_undo_4 : decode cX3_undo 4 = .ok (.ifCond .ne 11, 3) := by decide +kernel
theorem dX3_undo_7 : decode cX3_undo 7 = .ok (.new 232, 3) := by decide +kernel
theorem dX3_undo_10 : decode cX3_undo 10 = .ok (.dup, 1) := by decide +kernel
theorem dX3_undo_11 : decode cX3_undo 11 = .ok (.invokespecial 234, 3) := by decide +kernel
theorem dX3_undo_14 : decode cX3_undo 14 = .ok (.athrow, 1) := by decide +kernel
theorem dX3_undo_15 : decode cX3_undo 15 = .ok (.aload_n 0, 1) := by decide +kernel
theorem dX3_undo_16 : decode cX3_undo 16 = .ok (.aload_n 0, 1) := by decide +kernel
theorem dX3_undo_17 : decode cX3_undo 17 = .ok (.getfield 295, 3) := by decide +kernel
theorem dX3_undo_20 : decode cX3_undo 20 = .ok (.ifCond .ne 8, 3) := by decide +kernel
theorem dX3_undo_23 : decode cX3_undo 23 = .ok (.bipush 7, 2) := by decide +kernel
theorem dX3_undo_25 : decode cX3_undo 25 = .ok (.goto 9, 3) := by decide +kernel
theorem dX3_undo_28 : decode cX3_undo 28 = .ok (.aload_n 0, 1) := by decide +kernel
theorem dX3_undo_29 : decode cX3_undo 29 = .ok (.getfield 295, 3) := by decide +kernel
theorem dX3_undo_32 : decode cX3_undo 32 = .ok (.iconst 1, 1) := by decide +kernel
theorem dX3_undo_33 : decode cX3_undo 33 = .ok (.isub, 1) := by decide +kernel
theorem dX3_undo_34 : decode cX3_undo 34 = .ok (.putfield 295, 3) := by decide +kernel
theorem dX3_undo_37 : decode cX3_undo 37 = .ok (.aload_n 0, 1) := by decide +kernel
theorem dX3_undo_38 : decode cX3_undo 38 = .ok (.dup, 1) := by decide +kernel
theorem dX3_undo_39 : decode cX3_undo 39 = .ok (.getfield 292, 3) := by decide +kernel
theorem dX3_undo_42 : decode cX3_undo 42 = .ok (.iconst 1, 1) := by decide +kernel
theorem dX3_undo_43 : decode cX3_undo 43 = .ok (.isub, 1) := by decide +kernel
theorem dX3_undo_44 : decode cX3_undo 44 = .ok (.putfield 292, 3) := by decide +kernel
theorem dX3_undo_47 : decode cX3_undo 47 = .ok (.aload_n 0, 1) := by decide +kernel
theorem dX3_undo_48 : decode cX3_undo 48 = .ok (.getfield 10, 3) := by decide +kernel
theorem dX3_undo_51 : decode cX3_undo 51 = .ok (.aload_n 0, 1) := by decide +kernel
theorem dX3_undo_52 : decode cX3_undo 52 = .ok (.getfield 22, 3) := by decide +kernel
theorem dX3_undo_55 : decode cX3_undo 55 = .ok (.aload_n 0, 1) := by decide +kernel
theorem dX3_undo_56 : decode cX3_undo 56 = .ok (.getfield 295, 3) := by decide +kernel
theorem dX3_undo_59 : decode cX3_undo 59 = .ok (.aaload, 1) := by decide +kernel
theorem dX3_undo_60 : decode cX3_undo 60 = .ok (.invokevirtual 258, 3) := by decide +kernel
theorem dX3_undo_63 : decode cX3_undo 63 = .ok (.aload_n 0, 1) := by decide +kernel
theorem dX3_undo_64 : decode cX3_undo 64 = .ok (.getfield 292, 3) := by decide +kernel
theorem dX3_undo_67 : decode cX3_undo 67 = .ok (.ireturn, 1) := by decide +kernel
theorem dX3_save_0 : decode cX3_save 0 = .ok (.aload_n 0, 1) := by decide +kernel
theorem dX3_save_1 : decode cX3_save 1 = .ok (.getfield 19, 3) := by decide +kernel
theorem dX3_save_4 : decode cX3_save 4 = .ok (.aload_n 0, 1) := by decide +kernel
theorem dX3_save_5 : decode cX3_save 5 = .ok (.getfield 10, 3) := by decide +kernel
theorem dX3_save_8 : decode cX3_save 8 = .ok (.invokevirtual 258, 3) := by decide +kernel
theorem dX3_save_11 : decode cX3_save 11 = .ok (.aload_n 0, 1) := by decide +kernel
theorem dX3_save_12 : decode cX3_save 12 = .ok (.iconst 1, 1) := by decide +kernel
theorem dX3_save_13 : decode cX3_save 13 = .ok (.putfield 298, 3) := by decide +kernel
theorem dX3_save_16 : decode cX3_save 16 = .ok (.aload_n 0, 1) := by decide +kernel
theorem dX3_save_17 : decode cX3_save 17 = .ok (.getfield 10, 3) := by decide +kernel
theorem dX3_save_20 : decode cX3_save 20 = .ok (.getfield 124, 3) := by decide +kernel
theorem dX3_save_23 : decode cX3_save 23 = .ok (.ireturn, 1) := by decide +kernel
theorem dX3_restore_0 : decode cX3_restore 0 = .ok (.aload_n 0, 1) := by decide +kernel
theorem dX3_restore_1 : decode cX3_restore 1 = .ok (.getfield 298, 3) := by decide +kernel
theorem dX3_restore_4 : decode cX3_restore 4 = .ok (.ifCond .ne 11, 3) := by decide +kernel
theorem dX3_restore_7 : decode cX3_restore 7 = .ok (.new 232, 3) := by decide +kernel
theorem dX3_restore_10 : decode cX3_restore 10 = .ok (.dup, 1) := by decide +kernel
theorem dX3_restore_11 : decode cX3_restore 11 = .ok (.invokespecial 234, 3) := by decide +kernel
theorem dX3_restore_14 : decode cX3_restore 14 = .ok (.athrow, 1) := by decide +kernel
theorem dX3_restore_15 : decode cX3_restore 15 = .ok (.aload_n 0, 1) := by decide +kernel
theorem dX3_restore_16 : decode cX3_restore 16 = .ok (.getfield 10, 3) := by decide +kernel
theorem dX3_restore_19 : decode cX3_restore 19 = .ok (.aload_n 0, 1) := by decide +kernel
theorem dX3_restore_20 : decode cX3_restore 20 = .ok (.getfield 19, 3) := by decide +kernel
theorem dX3_restore_23 : decode cX3_restore 23 = .ok (.invokevirtual 258, 3) := by decide +kernel
theorem dX3_restore_26 : decode cX3_restore 26 = .ok (.aload_n 0, 1) := by decide +kernel
theorem dX3_restore_27 : decode cX3_restore 27 = .ok (.iconst 0, 1) := by decide +kernel
theorem dX3_restore_28 : decode cX3_restore 28 = .ok (.putfield 292, 3) := by decide +kernel
theorem dX3_restore_31 : decode cX3_restore 31 = .ok (.aload_n 0, 1) := by decide +kernel
theorem dX3_restore_32 : decode cX3_restore 32 = .ok (.getfield 10, 3) := by decide +kernel
theorem dX3_restore_35 : decode cX3_restore 35 = .ok (.getfield 124, 3) := by decide +kernel
theorem dX3_restore_38 : decode cX3_restore 38 = .ok (.ireturn, 1) := by decide +kernel
theorem dX3_refuse_0 : decode cX3_refuse 0 = .ok (.iload_n 0, 1) := by decide +kernel
theorem dX3_refuse_1 : decode cX3_refuse 1 = .ok (.tableswitch 75 1 5 #[35, 43, 51, 59, 67], 35) := by decide +kernel
theorem dX3_refuse_36 : decode cX3_refuse 36 = .ok (.new 111, 3) := by decide +kernel
theorem dX3_refuse_39 : decode cX3_refuse 39 = .ok (.dup, 1) := by decide +kernel
theorem dX3_refuse_40 : decode cX3_refuse 40 = .ok (.invokespecial 113, 3) := by decide +kernel
theorem dX3_refuse_43 : decode cX3_refuse 43 = .ok (.athrow, 1) := by decide +kernel
theorem dX3_refuse_44 : decode cX3_refuse 44 = .ok (.new 229, 3) := by decide +kernel
theorem dX3_refuse_47 : decode cX3_refuse 47 = .ok (.dup, 1) := by decide +kernel
theorem dX3_refuse_48 : decode cX3_refuse 48 = .ok (.invokespecial 231, 3) := by decide +kernel
theorem dX3_refuse_51 : decode cX3_refuse 51 = .ok (.athrow, 1) := by decide +kernel
theorem dX3_refuse_52 : decode cX3_refuse 52 = .ok (.new 232, 3) := by decide +kernel
theorem dX3_refuse_55 : decode cX3_refuse 55 = .ok (.dup, 1) := by decide +kernel
theorem dX3_refuse_56 : decode cX3_refuse 56 = .ok (.invokespecial 234, 3) := by decide +kernel
theorem dX3_refuse_59 : decode cX3_refuse 59 = .ok (.athrow, 1) := by decide +kernel
theorem dX3_refuse_60 : decode cX3_refuse 60 = .ok (.new 152, 3) := by decide +kernel
theorem dX3_refuse_63 : decode cX3_refuse 63 = .ok (.dup, 1) := by decide +kernel
theorem dX3_refuse_64 : decode cX3_refuse 64 = .ok (.invokespecial 154, 3) := by decide +kernel
theorem dX3_refuse_67 : decode cX3_refuse 67 = .ok (.athrow, 1) := by decide +kernel
theorem dX3_refuse_68 : decode cX3_refuse 68 = .ok (.new 302, 3) := by decide +kernel
theorem dX3_refuse_71 : decode cX3_refuse 71 = .ok (.dup, 1) := by decide +kernel
theorem dX3_refuse_72 : decode cX3_refuse 72 = .ok (.invokespecial 304, 3) := by decide +kernel
theorem dX3_refuse_75 : decode cX3_refuse 75 = .ok (.athrow, 1) := by decide +kernel
theorem dX3_refuse_76 : decode cX3_refuse 76 = .ok (.return_, 1) := by decide +kernel
theorem dX3_requireMember_0 : decode cX3_requireMember 0 = .ok (.aload_n 0, 1) := by decide +kernel
theorem dX3_requireMember_1 : decode cX3_requireMember 1 = .ok (.getfield 10, 3) := by decide +kernel
theorem dX3_requireMember_4 : decode cX3_requireMember 4 = .ok (.iload_n 1, 1) := by decide +kernel
theorem dX3_requireMember_5 : decode cX3_requireMember 5 = .ok (.invokevirtual 305, 3) := by decide +kernel
theorem dX3_requireMember_8 : decode cX3_requireMember 8 = .ok (.ifCond .ne 11, 3) := by decide +kernel
theorem dX3_requireMember_11 : decode cX3_requireMember 11 = .ok (.new 111, 3) := by decide +kernel
theorem dX3_requireMember_14 : decode cX3_requireMember 14 = .ok (.dup, 1) := by decide +kernel
theorem dX3_requireMember_15 : decode cX3_requireMember 15 = .ok (.invokespecial 113, 3) := by decide +kernel
theorem dX3_requireMember_18 : decode cX3_requireMember 18 = .ok (.athrow, 1) := by decide +kernel
theorem dX3_requireMember_19 : decode cX3_requireMember 19 = .ok (.return_, 1) := by decide +kernel
theorem dX3_requireBill_0 : decode cX3_requireBill 0 = .ok (.aload_n 0, 1) := by decide +kernel
theorem dX3_requireBill_1 : decode cX3_requireBill 1 = .ok (.getfield 10, 3) := by decide +kernel
theorem dX3_requireBill_4 : decode cX3_requireBill 4 = .ok (.iload_n 1, 1) := by decide +kernel
theorem dX3_requireBill_5 : decode cX3_requireBill 5 = .ok (.invokevirtual 308, 3) := by decide +kernel
theorem dX3_requireBill_8 : decode cX3_requireBill 8 = .ok (.ifCond .ne 11, 3) := by decide +kernel
theorem dX3_requireBill_11 : decode cX3_requireBill 11 = .ok (.new 111, 3) := by decide +kernel
theorem dX3_requireBill_14 : decode cX3_requireBill 14 = .ok (.dup, 1) := by decide +kernel
theorem dX3_requireBill_15 : decode cX3_requireBill 15 = .ok (.invokespecial 113, 3) := by decide +kernel
theorem dX3_requireBill_18 : decode cX3_requireBill 18 = .ok (.athrow, 1) := by decide +kernel
theorem dX3_requireBill_19 : decode cX3_requireBill 19 = .ok (.return_, 1) := by decide +kernel
theorem dX3_requirePending_0 : decode cX3_requirePending 0 = .ok (.aload_n 0, 1) := by decide +kernel
theorem dX3_requirePending_1 : decode cX3_requirePending 1 = .ok (.iload_n 1, 1) := by decide +kernel
theorem dX3_requirePending_2 : decode cX3_requirePending 2 = .ok (.invokevirtual 127, 3) := by decide +kernel
theorem dX3_requirePending_5 : decode cX3_requirePending 5 = .ok (.aload_n 0, 1) := by decide +kernel
theorem dX3_requirePending_6 : decode cX3_requirePending 6 = .ok (.getfield 10, 3) := by decide +kernel
theorem dX3_requirePending_9 : decode cX3_requirePending 9 = .ok (.iload_n 1, 1) := by decide +kernel
theorem dX3_requirePending_10 : decode cX3_requirePending 10 = .ok (.iload_n 2, 1) := by decide +kernel
theorem dX3_requirePending_11 : decode cX3_requirePending 11 = .ok (.invokevirtual 311, 3) := by decide +kernel
theorem dX3_requirePending_14 : decode cX3_requirePending 14 = .ok (.ifCond .ne 11, 3) := by decide +kernel
theorem dX3_requirePending_17 : decode cX3_requirePending 17 = .ok (.new 152, 3) := by decide +kernel
theorem dX3_requirePending_20 : decode cX3_requirePending 20 = .ok (.dup, 1) := by decide +kernel
theorem dX3_requirePending_21 : decode cX3_requirePending 21 = .ok (.invokespecial 154, 3) := by decide +kernel
theorem dX3_requirePending_24 : decode cX3_requirePending 24 = .ok (.athrow, 1) := by decide +kernel
theorem dX3_requirePending_25 : decode cX3_requirePending 25 = .ok (.return_, 1) := by decide +kernel
theorem dX3_remember_0 : decode cX3_remember 0 = .ok (.aload_n 0, 1) := by decide +kernel
theorem dX3_remember_1 : decode cX3_remember 1 = .ok (.getfield 22, 3) := by decide +kernel
theorem dX3_remember_4 : decode cX3_remember 4 = .ok (.aload_n 0, 1) := by decide +kernel
theorem dX3_remember_5 : decode cX3_remember 5 = .ok (.getfield 295, 3) := by decide +kernel
theorem dX3_remember_8 : decode cX3_remember 8 = .ok (.aaload, 1) := by decide +kernel
theorem dX3_remember_9 : decode cX3_remember 9 = .ok (.aload_n 1, 1) := by decide +kernel
theorem dX3_remember_10 : decode cX3_remember 10 = .ok (.invokevirtual 258, 3) := by decide +kernel
theorem dX3_remember_13 : decode cX3_remember 13 = .ok (.aload_n 0, 1) := by decide +kernel
theorem dX3_remember_14 : decode cX3_remember 14 = .ok (.aload_n 0, 1) := by decide +kernel
theorem dX3_remember_15 : decode cX3_remember 15 = .ok (.getfield 295, 3) := by decide +kernel
theorem dX3_remember_18 : decode cX3_remember 18 = .ok (.bipush 7, 2) := by decide +kernel
theorem dX3_remember_20 : decode cX3_remember 20 = .ok (.if_icmp .ne 7, 3) := by decide +kernel
theorem dX3_remember_23 : decode cX3_remember 23 = .ok (.iconst 0, 1) := by decide +kernel
theorem dX3_remember_24 : decode cX3_remember 24 = .ok (.goto 9, 3) := by decide +kernel
theorem dX3_remember_27 : decode cX3_remember 27 = .ok (.aload_n 0, 1) := by decide +kernel
theorem dX3_remember_28 : decode cX3_remember 28 = .ok (.getfield 295, 3) := by decide +kernel
theorem dX3_remember_31 : decode cX3_remember 31 = .ok (.iconst 1, 1) := by decide +kernel
theorem dX3_remember_32 : decode cX3_remember 32 = .ok (.iadd, 1) := by decide +kernel
theorem dX3_remember_33 : decode cX3_remember 33 = .ok (.putfield 295, 3) := by decide +kernel
theorem dX3_remember_36 : decode cX3_remember 36 = .ok (.aload_n 0, 1) := by decide +kernel
theorem dX3_remember_37 : decode cX3_remember 37 = .ok (.aload_n 0, 1) := by decide +kernel
theorem dX3_remember_38 : decode cX3_remember 38 = .ok (.getfield 292, 3) := by decide +kernel
theorem dX3_remember_41 : decode cX3_remember 41 = .ok (.iconst 1, 1) := by decide +kernel
theorem dX3_remember_42 : decode cX3_remember 42 = .ok (.iadd, 1) := by decide +kernel
theorem dX3_remember_43 : decode cX3_remember 43 = .ok (.bipush 8, 2) := by decide +kernel
theorem dX3_remember_45 : decode cX3_remember 45 = .ok (.invokestatic 315, 3) := by decide +kernel
theorem dX3_remember_48 : decode cX3_remember 48 = .ok (.putfield 292, 3) := by decide +kernel
theorem dX3_remember_51 : decode cX3_remember 51 = .ok (.return_, 1) := by decide +kernel
theorem dX3_carryOutCommands_0 : decode cX3_carryOutCommands 0 = .ok (.aload_n 0, 1) := by decide +kernel
theorem dX3_carryOutCommands_1 : decode cX3_carryOutCommands 1 = .ok (.getfield 29, 3) := by decide +kernel
theorem dX3_carryOutCommands_4 : decode cX3_carryOutCommands 4 = .ok (.invokevirtual 320, 3) := by decide +kernel
theorem dX3_carryOutCommands_7 : decode cX3_carryOutCommands 7 = .ok (.iconst 0, 1) := by decide +kernel
theorem dX3_carryOutCommands_8 : decode cX3_carryOutCommands 8 = .ok (.istore_n 2, 1) := by decide +kernel
theorem dX3_carryOutCommands_9 : decode cX3_carryOutCommands 9 = .ok (.iload_n 2, 1) := by decide +kernel
theorem dX3_carryOutCommands_10 : decode cX3_carryOutCommands 10 = .ok (.iload_n 1, 1) := by decide +kernel
theorem dX3_carryOutCommands_11 : decode cX3_carryOutCommands 11 = .ok (.if_icmp .ge 40, 3) := by decide +kernel
theorem dX3_carryOutCommands_14 : decode cX3_carryOutCommands 14 = .ok (.aload_n 0, 1) := by decide +kernel
theorem dX3_carryOutCommands_15 : decode cX3_carryOutCommands 15 = .ok (.getfield 29, 3) := by decide +kernel
theorem dX3_carryOutCommands_18 : decode cX3_carryOutCommands 18 = .ok (.invokevirtual 323, 3) := by decide +kernel
theorem dX3_carryOutCommands_21 : decode cX3_carryOutCommands 21 = .ok (.pop, 1) := by decide +kernel
theorem dX3_carryOutCommands_22 : decode cX3_carryOutCommands 22 = .ok (.aload_n 0, 1) := by decide +kernel
theorem dX3_carryOutCommands_23 : decode cX3_carryOutCommands 23 = .ok (.getfield 29, 3) := by decide +kernel
theorem dX3_carryOutCommands_26 : decode cX3_carryOutCommands 26 = .ok (.bipush 59, 2) := by decide +kernel
theorem dX3_carryOutCommands_28 : decode cX3_carryOutCommands 28 = .ok (.invokevirtual 326, 3) := by decide +kernel
theorem dX3_carryOutCommands_31 : decode cX3_carryOutCommands 31 = .ok (.pop, 1) := by decide +kernel
theorem dX3_carryOutCommands_32 : decode cX3_carryOutCommands 32 = .ok (.aload_n 0, 1) := by decide +kernel
theorem dX3_carryOutCommands_33 : decode cX3_carryOutCommands 33 = .ok (.invokevirtual 330, 3) := by decide +kernel
theorem dX3_carryOutCommands_36 : decode cX3_carryOutCommands 36 = .ok (.ifCond .eq 5, 3) := by decide +kernel
theorem dX3_carryOutCommands_39 : decode cX3_carryOutCommands 39 = .ok (.iload_n 2, 1) := by decide +kernel
theorem dX3_carryOutCommands_40 : decode cX3_carryOutCommands 40 = .ok (.ireturn, 1) := by decide +kernel
theorem dX3_carryOutCommands_41 : decode cX3_carryOutCommands 41 = .ok (.aload_n 0, 1) := by decide +kernel
theorem dX3_carryOutCommands_42 : decode cX3_carryOutCommands 42 = .ok (.invokevirtual 333, 3) := by decide +kernel
theorem dX3_carryOutCommands_45 : decode cX3_carryOutCommands 45 = .ok (.iinc 2 1, 3) := by decide +kernel
theorem dX3_carryOutCommands_48 : decode cX3_carryOutCommands 48 = .ok (.goto (-39), 3) := by decide +kernel
theorem dX3_carryOutCommands_51 : decode cX3_carryOutCommands 51 = .ok (.iconst (-1), 1) := by decide +kernel
theorem dX3_carryOutCommands_52 : decode cX3_carryOutCommands 52 = .ok (.ireturn, 1) := by decide +kernel
theorem dX3_faultOfCommand_0 : decode cX3_faultOfCommand 0 = .ok (.aload_n 0, 1) := by decide +kernel
theorem dX3_faultOfCommand_1 : decode cX3_faultOfCommand 1 = .ok (.getfield 29, 3) := by decide +kernel
theorem dX3_faultOfCommand_4 : decode cX3_faultOfCommand 4 = .ok (.getfield 336, 3) := by decide +kernel
theorem dX3_faultOfCommand_7 : decode cX3_faultOfCommand 7 = .ok (.iconst 0, 1) := by decide +kernel
theorem dX3_faultOfCommand_8 : decode cX3_faultOfCommand 8 = .ok (.iaload, 1) := by decide +kernel
theorem dX3_faultOfCommand_9 : decode cX3_faultOfCommand 9 = .ok (.istore_n 1, 1) := by decide +kernel
theorem dX3_faultOfCommand_10 : decode cX3_faultOfCommand 10 = .ok (.aload_n 0, 1) := by decide +kernel
theorem dX3_faultOfCommand_11 : decode cX3_faultOfCommand 11 = .ok (.getfield 29, 3) := by decide +kernel
theorem dX3_faultOfCommand_14 : decode cX3_faultOfCommand 14 = .ok (.getfield 336, 3) := by decide +kernel
theorem dX3_faultOfCommand_17 : decode cX3_faultOfCommand 17 = .ok (.iconst 1, 1) := by decide +kernel
theorem dX3_faultOfCommand_18 : decode cX3_faultOfCommand 18 = .ok (.iaload, 1) := by decide +kernel
theorem dX3_faultOfCommand_19 : decode cX3_faultOfCommand 19 = .ok (.istore_n 2, 1) := by decide +kernel
theorem dX3_faultOfCommand_20 : decode cX3_faultOfCommand 20 = .ok (.aload_n 0, 1) := by decide +kernel
theorem dX3_faultOfCommand_21 : decode cX3_faultOfCommand 21 = .ok (.getfield 29, 3) := by decide +kernel
theorem dX3_faultOfCommand_24 : decode cX3_faultOfCommand 24 = .ok (.getfield 336, 3) := by decide +kernel
theorem dX3_faultOfCommand_27 : decode cX3_faultOfCommand 27 = .ok (.iconst 2, 1) := by decide +kernel
theorem dX3_faultOfCommand_28 : decode cX3_faultOfCommand 28 = .ok (.iaload, 1) := by decide +kernel
theorem dX3_faultOfCommand_29 : decode cX3_faultOfCommand 29 = .ok (.istore_n 3, 1) := by decide +kernel
theorem dX3_faultOfCommand_30 : decode cX3_faultOfCommand 30 = .ok (.aload_n 0, 1) := by decide +kernel
theorem dX3_faultOfCommand_31 : decode cX3_faultOfCommand 31 = .ok (.getfield 29, 3) := by decide +kernel
theorem dX3_faultOfCommand_34 : decode cX3_faultOfCommand 34 = .ok (.getfield 339, 3) := by decide +kernel
theorem dX3_faultOfCommand_37 : decode cX3_faultOfCommand 37 = .ok (.tableswitch 213 97 121 #[182, 152, 173, 204, 125, 213, 213, 213, 213, 213, 213, 134, 115, 163, 213, 213, 143, 213, 193, 213, 213, 213, 213, 213, 163], 115) := by decide +kernel
theorem dX3_faultOfCommand_152 : decode cX3_faultOfCommand 152 = .ok (.aload_n 0, 1) := by decide +kernel
theorem dX3_faultOfCommand_153 : decode cX3_faultOfCommand 153 = .ok (.getfield 10, 3) := by decide +kernel
theorem dX3_faultOfCommand_156 : decode cX3_faultOfCommand 156 = .ok (.iload_n 1, 1) := by decide +kernel
theorem dX3_faultOfCommand_157 : decode cX3_faultOfCommand 157 = .ok (.iload_n 2, 1) := by decide +kernel
theorem dX3_faultOfCommand_158 : decode cX3_faultOfCommand 158 = .ok (.invokevirtual 47, 3) := by decide +kernel
theorem dX3_faultOfCommand_161 : decode cX3_faultOfCommand 161 = .ok (.ireturn, 1) := by decide +kernel
theorem dX3_faultOfCommand_162 : decode cX3_faultOfCommand 162 = .ok (.aload_n 0, 1) := by decide +kernel
theorem dX3_faultOfCommand_163 : decode cX3_faultOfCommand 163 = .ok (.getfield 10, 3) := by decide +kernel
theorem dX3_faultOfCommand_166 : decode cX3_faultOfCommand 166 = .ok (.iload_n 1, 1) := by decide +kernel
theorem dX3_faultOfCommand_167 : decode cX3_faultOfCommand 167 = .ok (.invokevirtual 62, 3) := by decide +kernel
theorem dX3_faultOfCommand_170 : decode cX3_faultOfCommand 170 = .ok (.ireturn, 1) := by decide +kernel
theorem dX3_faultOfCommand_171 : decode cX3_faultOfCommand 171 = .ok (.aload_n 0, 1) := by decide +kernel
theorem dX3_faultOfCommand_172 : decode cX3_faultOfCommand 172 = .ok (.getfield 10, 3) := by decide +kernel
theorem dX3_faultOfCommand_175 : decode cX3_faultOfCommand 175 = .ok (.iload_n 1, 1) := by decide +kernel
theorem dX3_faultOfCommand_176 : decode cX3_faultOfCommand 176 = .ok (.invokevirtual 69, 3) := by decide +kernel
theorem dX3_faultOfCommand_179 : decode cX3_faultOfCommand 179 = .ok (.ireturn, 1) := by decide +kernel
theorem dX3_faultOfCommand_180 : decode cX3_faultOfCommand 180 = .ok (.aload_n 0, 1) := by decide +kernel
theorem dX3_faultOfCommand_181 : decode cX3_faultOfCommand 181 = .ok (.getfield 10, 3) := by decide +kernel
theorem dX3_faultOfCommand_184 : decode cX3_faultOfCommand 184 = .ok (.iload_n 1, 1) := by decide +kernel
theorem dX3_faultOfCommand_185 : decode cX3_faultOfCommand 185 = .ok (.invokevirtual 75, 3) := by decide +kernel
theorem dX3_faultOfCommand_188 : decode cX3_faultOfCommand 188 = .ok (.ireturn, 1) := by decide +kernel
theorem dX3_faultOfCommand_189 : decode cX3_faultOfCommand 189 = .ok (.aload_n 0, 1) := by decide +kernel
theorem dX3_faultOfCommand_190 : decode cX3_faultOfCommand 190 = .ok (.getfield 10, 3) := by decide +kernel
theorem dX3_faultOfCommand_193 : decode cX3_faultOfCommand 193 = .ok (.iload_n 1, 1) := by decide +kernel
theorem dX3_faultOfCommand_194 : decode cX3_faultOfCommand 194 = .ok (.iload_n 2, 1) := by decide +kernel
theorem dX3_faultOfCommand_195 : decode cX3_faultOfCommand 195 = .ok (.iload_n 3, 1) := by decide +kernel
theorem dX3_faultOfCommand_196 : decode cX3_faultOfCommand 196 = .ok (.invokevirtual 117, 3) := by decide +kernel
theorem dX3_faultOfCommand_199 : decode cX3_faultOfCommand 199 = .ok (.ireturn, 1) := by decide +kernel
theorem dX3_faultOfCommand_200 : decode cX3_faultOfCommand 200 = .ok (.aload_n 0, 1) := by decide +kernel
theorem dX3_faultOfCommand_201 : decode cX3_faultOfCommand 201 = .ok (.getfield 10, 3) := by decide +kernel
theorem dX3_faultOfCommand_204 : decode cX3_faultOfCommand 204 = .ok (.iload_n 1, 1) := by decide +kernel
theorem dX3_faultOfCommand_205 : decode cX3_faultOfCommand 205 = .ok (.iload_n 2, 1) := by decide +kernel
theorem dX3_faultOfCommand_206 : decode cX3_faultOfCommand 206 = .ok (.invokevirtual 158, 3) := by decide +kernel
theorem dX3_faultOfCommand_209 : decode cX3_faultOfCommand 209 = .ok (.ireturn, 1) := by decide +kernel
theorem dX3_faultOfCommand_210 : decode cX3_faultOfCommand 210 = .ok (.aload_n 0, 1) := by decide +kernel
theorem dX3_faultOfCommand_211 : decode cX3_faultOfCommand 211 = .ok (.getfield 10, 3) := by decide +kernel
theorem dX3_faultOfCommand_214 : decode cX3_faultOfCommand 214 = .ok (.iload_n 1, 1) := by decide +kernel
theorem dX3_faultOfCommand_215 : decode cX3_faultOfCommand 215 = .ok (.invokevirtual 179, 3) := by decide +kernel
theorem dX3_faultOfCommand_218 : decode cX3_faultOfCommand 218 = .ok (.ireturn, 1) := by decide +kernel
theorem dX3_faultOfCommand_219 : decode cX3_faultOfCommand 219 = .ok (.aload_n 0, 1) := by decide +kernel
theorem dX3_faultOfCommand_220 : decode cX3_faultOfCommand 220 = .ok (.getfield 10, 3) := by decide +kernel
theorem dX3_faultOfCommand_223 : decode cX3_faultOfCommand 223 = .ok (.iload_n 1, 1) := by decide +kernel
theorem dX3_faultOfCommand_224 : decode cX3_faultOfCommand 224 = .ok (.iload_n 2, 1) := by decide +kernel
theorem dX3_faultOfCommand_225 : decode cX3_faultOfCommand 225 = .ok (.iload_n 3, 1) := by decide +kernel
theorem dX3_faultOfCommand_226 : decode cX3_faultOfCommand 226 = .ok (.invokevirtual 185, 3) := by decide +kernel
theorem dX3_faultOfCommand_229 : decode cX3_faultOfCommand 229 = .ok (.ireturn, 1) := by decide +kernel
theorem dX3_faultOfCommand_230 : decode cX3_faultOfCommand 230 = .ok (.aload_n 0, 1) := by decide +kernel
theorem dX3_faultOfCommand_231 : decode cX3_faultOfCommand 231 = .ok (.getfield 10, 3) := by decide +kernel
theorem dX3_faultOfCommand_234 : decode cX3_faultOfCommand 234 = .ok (.iload_n 1, 1) := by decide +kernel
theorem dX3_faultOfCommand_235 : decode cX3_faultOfCommand 235 = .ok (.iload_n 2, 1) := by decide +kernel
theorem dX3_faultOfCommand_236 : decode cX3_faultOfCommand 236 = .ok (.iload_n 3, 1) := by decide +kernel
theorem dX3_faultOfCommand_237 : decode cX3_faultOfCommand 237 = .ok (.invokevirtual 191, 3) := by decide +kernel
theorem dX3_faultOfCommand_240 : decode cX3_faultOfCommand 240 = .ok (.ireturn, 1) := by decide +kernel
theorem dX3_faultOfCommand_241 : decode cX3_faultOfCommand 241 = .ok (.aload_n 0, 1) := by decide +kernel
theorem dX3_faultOfCommand_242 : decode cX3_faultOfCommand 242 = .ok (.getfield 10, 3) := by decide +kernel
theorem dX3_faultOfCommand_245 : decode cX3_faultOfCommand 245 = .ok (.iload_n 1, 1) := by decide +kernel
theorem dX3_faultOfCommand_246 : decode cX3_faultOfCommand 246 = .ok (.invokevirtual 197, 3) := by decide +kernel
theorem dX3_faultOfCommand_249 : decode cX3_faultOfCommand 249 = .ok (.ireturn, 1) := by decide +kernel
theorem dX3_faultOfCommand_250 : decode cX3_faultOfCommand 250 = .ok (.aload_n 0, 1) := by decide +kernel
theorem dX3_faultOfCommand_251 : decode cX3_faultOfCommand 251 = .ok (.getfield 10, 3) := by decide +kernel
theorem dX3_faultOfCommand_254 : decode cX3_faultOfCommand 254 = .ok (.iload_n 1, 1) := by decide +kernel
theorem dX3_faultOfCommand_255 : decode cX3_faultOfCommand 255 = .ok (.iload_n 2, 1) := by decide +kernel
theorem dX3_faultOfCommand_256 : decode cX3_faultOfCommand 256 = .ok (.iload_n 3, 1) := by decide +kernel
theorem dX3_faultOfCommand_257 : decode cX3_faultOfCommand 257 = .ok (.invokevirtual 217, 3) := by decide +kernel
theorem dX3_faultOfCommand_260 : decode cX3_faultOfCommand 260 = .ok (.ireturn, 1) := by decide +kernel
theorem dX3_carryOutCommand_0 : decode cX3_carryOutCommand 0 = .ok (.aload_n 0, 1) := by decide +kernel
theorem dX3_carryOutCommand_1 : decode cX3_carryOutCommand 1 = .ok (.getfield 29, 3) := by decide +kernel
theorem dX3_carryOutCommand_4 : decode cX3_carryOutCommand 4 = .ok (.getfield 336, 3) := by decide +kernel
theorem dX3_carryOutCommand_7 : decode cX3_carryOutCommand 7 = .ok (.iconst 0, 1) := by decide +kernel
theorem dX3_carryOutCommand_8 : decode cX3_carryOutCommand 8 = .ok (.iaload, 1) := by decide +kernel
theorem dX3_carryOutCommand_9 : decode cX3_carryOutCommand 9 = .ok (.istore_n 1, 1) := by decide +kernel
theorem dX3_carryOutCommand_10 : decode cX3_carryOutCommand 10 = .ok (.aload_n 0, 1) := by decide +kernel
theorem dX3_carryOutCommand_11 : decode cX3_carryOutCommand 11 = .ok (.getfield 29, 3) := by decide +kernel
theorem dX3_carryOutCommand_14 : decode cX3_carryOutCommand 14 = .ok (.getfield 336, 3) := by decide +kernel
theorem dX3_carryOutCommand_17 : decode cX3_carryOutCommand 17 = .ok (.iconst 1, 1) := by decide +kernel
theorem dX3_carryOutCommand_18 : decode cX3_carryOutCommand 18 = .ok (.iaload, 1) := by decide +kernel
theorem dX3_carryOutCommand_19 : decode cX3_carryOutCommand 19 = .ok (.istore_n 2, 1) := by decide +kernel
theorem dX3_carryOutCommand_20 : decode cX3_carryOutCommand 20 = .ok (.aload_n 0, 1) := by decide +kernel
theorem dX3_carryOutCommand_21 : decode cX3_carryOutCommand 21 = .ok (.getfield 29, 3) := by decide +kernel
theorem dX3_carryOutCommand_24 : decode cX3_carryOutCommand 24 = .ok (.getfield 336, 3) := by decide +kernel
theorem dX3_carryOutCommand_27 : decode cX3_carryOutCommand 27 = .ok (.iconst 2, 1) := by decide +kernel
theorem dX3_carryOutCommand_28 : decode cX3_carryOutCommand 28 = .ok (.iaload, 1) := by decide +kernel
theorem dX3_carryOutCommand_29 : decode cX3_carryOutCommand 29 = .ok (.istore_n 3, 1) := by decide +kernel
theorem dX3_carryOutCommand_30 : decode cX3_carryOutCommand 30 = .ok (.aload_n 0, 1) := by decide +kernel
theorem dX3_carryOutCommand_31 : decode cX3_carryOutCommand 31 = .ok (.getfield 29, 3) := by decide +kernel
theorem dX3_carryOutCommand_34 : decode cX3_carryOutCommand 34 = .ok (.getfield 339, 3) := by decide +kernel
theorem dX3_carryOutCommand_37 : decode cX3_carryOutCommand 37 = .ok (.tableswitch 255 97 121 #[215, 164, 203, 243, 128, 255, 255, 255, 255, 255, 255, 140, 115, 190, 255, 255, 152, 255, 229, 255, 255, 255, 255, 255, 177], 115) := by decide +kernel
theorem dX3_carryOutCommand_152 : decode cX3_carryOutCommand 152 = .ok (.aload_n 0, 1) := by decide +kernel
theorem dX3_carryOutCommand_153 : decode cX3_carryOutCommand 153 = .ok (.getfield 10, 3) := by decide +kernel
theorem dX3_carryOutCommand_156 : decode cX3_carryOutCommand 156 = .ok (.iload_n 1, 1) := by decide +kernel
theorem dX3_carryOutCommand_157 : decode cX3_carryOutCommand 157 = .ok (.iload_n 2, 1) := by decide +kernel
theorem dX3_carryOutCommand_158 : decode cX3_carryOutCommand 158 = .ok (.invokevirtual 59, 3) := by decide +kernel
theorem dX3_carryOutCommand_161 : decode cX3_carryOutCommand 161 = .ok (.pop, 1) := by decide +kernel
theorem dX3_carryOutCommand_162 : decode cX3_carryOutCommand 162 = .ok (.goto 140, 3) := by decide +kernel
theorem dX3_carryOutCommand_165 : decode cX3_carryOutCommand 165 = .ok (.aload_n 0, 1) := by decide +kernel
theorem dX3_carryOutCommand_166 : decode cX3_carryOutCommand 166 = .ok (.getfield 10, 3) := by decide +kernel
theorem dX3_carryOutCommand_169 : decode cX3_carryOutCommand 169 = .ok (.iload_n 1, 1) := by decide +kernel
theorem dX3_carryOutCommand_170 : decode cX3_carryOutCommand 170 = .ok (.invokevirtual 66, 3) := by decide +kernel
theorem dX3_carryOutCommand_173 : decode cX3_carryOutCommand 173 = .ok (.pop, 1) := by decide +kernel
theorem dX3_carryOutCommand_174 : decode cX3_carryOutCommand 174 = .ok (.goto 128, 3) := by decide +kernel
theorem dX3_carryOutCommand_177 : decode cX3_carryOutCommand 177 = .ok (.aload_n 0, 1) := by decide +kernel
theorem dX3_carryOutCommand_178 : decode cX3_carryOutCommand 178 = .ok (.getfield 10, 3) := by decide +kernel
theorem dX3_carryOutCommand_181 : decode cX3_carryOutCommand 181 = .ok (.iload_n 1, 1) := by decide +kernel
theorem dX3_carryOutCommand_182 : decode cX3_carryOutCommand 182 = .ok (.invokevirtual 72, 3) := by decide +kernel
theorem dX3_carryOutCommand_185 : decode cX3_carryOutCommand 185 = .ok (.pop, 1) := by decide +kernel
theorem dX3_carryOutCommand_186 : decode cX3_carryOutCommand 186 = .ok (.goto 116, 3) := by decide +kernel
theorem dX3_carryOutCommand_189 : decode cX3_carryOutCommand 189 = .ok (.aload_n 0, 1) := by decide +kernel
theorem dX3_carryOutCommand_190 : decode cX3_carryOutCommand 190 = .ok (.getfield 10, 3) := by decide +kernel
theorem dX3_carryOutCommand_193 : decode cX3_carryOutCommand 193 = .ok (.iload_n 1, 1) := by decide +kernel
theorem dX3_carryOutCommand_194 : decode cX3_carryOutCommand 194 = .ok (.invokevirtual 78, 3) := by decide +kernel
theorem dX3_carryOutCommand_197 : decode cX3_carryOutCommand 197 = .ok (.pop, 1) := by decide +kernel
theorem dX3_carryOutCommand_198 : decode cX3_carryOutCommand 198 = .ok (.goto 104, 3) := by decide +kernel
theorem dX3_carryOutCommand_201 : decode cX3_carryOutCommand 201 = .ok (.aload_n 0, 1) := by decide +kernel
theorem dX3_carryOutCommand_202 : decode cX3_carryOutCommand 202 = .ok (.getfield 10, 3) := by decide +kernel
theorem dX3_carryOutCommand_205 : decode cX3_carryOutCommand 205 = .ok (.iload_n 2, 1) := by decide +kernel
theorem dX3_carryOutCommand_206 : decode cX3_carryOutCommand 206 = .ok (.iload_n 3, 1) := by decide +kernel
theorem dX3_carryOutCommand_207 : decode cX3_carryOutCommand 207 = .ok (.invokevirtual 121, 3) := by decide +kernel
theorem dX3_carryOutCommand_210 : decode cX3_carryOutCommand 210 = .ok (.pop, 1) := by decide +kernel
theorem dX3_carryOutCommand_211 : decode cX3_carryOutCommand 211 = .ok (.goto 91, 3) := by decide +kernel
theorem dX3_carryOutCommand_214 : decode cX3_carryOutCommand 214 = .ok (.aload_n 0, 1) := by decide +kernel
theorem dX3_carryOutCommand_215 : decode cX3_carryOutCommand 215 = .ok (.getfield 10, 3) := by decide +kernel
theorem dX3_carryOutCommand_218 : decode cX3_carryOutCommand 218 = .ok (.iload_n 1, 1) := by decide +kernel
theorem dX3_carryOutCommand_219 : decode cX3_carryOutCommand 219 = .ok (.iload_n 2, 1) := by decide +kernel
theorem dX3_carryOutCommand_220 : decode cX3_carryOutCommand 220 = .ok (.invokevirtual 161, 3) := by decide +kernel
theorem dX3_carryOutCommand_223 : decode cX3_carryOutCommand 223 = .ok (.pop, 1) := by decide +kernel
theorem dX3_carryOutCommand_224 : decode cX3_carryOutCommand 224 = .ok (.goto 78, 3) := by decide +kernel
theorem dX3_carryOutCommand_227 : decode cX3_carryOutCommand 227 = .ok (.aload_n 0, 1) := by decide +kernel
theorem dX3_carryOutCommand_228 : decode cX3_carryOutCommand 228 = .ok (.getfield 10, 3) := by decide +kernel
theorem dX3_carryOutCommand_231 : decode cX3_carryOutCommand 231 = .ok (.iload_n 1, 1) := by decide +kernel
theorem dX3_carryOutCommand_232 : decode cX3_carryOutCommand 232 = .ok (.iload_n 2, 1) := by decide +kernel
theorem dX3_carryOutCommand_233 : decode cX3_carryOutCommand 233 = .ok (.invokevirtual 164, 3) := by decide +kernel
theorem dX3_carryOutCommand_236 : decode cX3_carryOutCommand 236 = .ok (.pop, 1) := by decide +kernel
theorem dX3_carryOutCommand_237 : decode cX3_carryOutCommand 237 = .ok (.goto 65, 3) := by decide +kernel
theorem dX3_carryOutCommand_240 : decode cX3_carryOutCommand 240 = .ok (.aload_n 0, 1) := by decide +kernel
theorem dX3_carryOutCommand_241 : decode cX3_carryOutCommand 241 = .ok (.getfield 10, 3) := by decide +kernel
theorem dX3_carryOutCommand_244 : decode cX3_carryOutCommand 244 = .ok (.iload_n 1, 1) := by decide +kernel
theorem dX3_carryOutCommand_245 : decode cX3_carryOutCommand 245 = .ok (.invokevirtual 182, 3) := by decide +kernel
theorem dX3_carryOutCommand_248 : decode cX3_carryOutCommand 248 = .ok (.pop, 1) := by decide +kernel
theorem dX3_carryOutCommand_249 : decode cX3_carryOutCommand 249 = .ok (.goto 53, 3) := by decide +kernel
theorem dX3_carryOutCommand_252 : decode cX3_carryOutCommand 252 = .ok (.aload_n 0, 1) := by decide +kernel
theorem dX3_carryOutCommand_253 : decode cX3_carryOutCommand 253 = .ok (.getfield 10, 3) := by decide +kernel
theorem dX3_carryOutCommand_256 : decode cX3_carryOutCommand 256 = .ok (.iload_n 1, 1) := by decide +kernel
theorem dX3_carryOutCommand_257 : decode cX3_carryOutCommand 257 = .ok (.iload_n 2, 1) := by decide +kernel
theorem dX3_carryOutCommand_258 : decode cX3_carryOutCommand 258 = .ok (.iload_n 3, 1) := by decide +kernel
theorem dX3_carryOutCommand_259 : decode cX3_carryOutCommand 259 = .ok (.invokevirtual 188, 3) := by decide +kernel
theorem dX3_carryOutCommand_262 : decode cX3_carryOutCommand 262 = .ok (.pop, 1) := by decide +kernel
theorem dX3_carryOutCommand_263 : decode cX3_carryOutCommand 263 = .ok (.goto 39, 3) := by decide +kernel
theorem dX3_carryOutCommand_266 : decode cX3_carryOutCommand 266 = .ok (.aload_n 0, 1) := by decide +kernel
theorem dX3_carryOutCommand_267 : decode cX3_carryOutCommand 267 = .ok (.getfield 10, 3) := by decide +kernel
theorem dX3_carryOutCommand_270 : decode cX3_carryOutCommand 270 = .ok (.iload_n 1, 1) := by decide +kernel
theorem dX3_carryOutCommand_271 : decode cX3_carryOutCommand 271 = .ok (.iload_n 2, 1) := by decide +kernel
theorem dX3_carryOutCommand_272 : decode cX3_carryOutCommand 272 = .ok (.iload_n 3, 1) := by decide +kernel
theorem dX3_carryOutCommand_273 : decode cX3_carryOutCommand 273 = .ok (.invokevirtual 194, 3) := by decide +kernel
theorem dX3_carryOutCommand_276 : decode cX3_carryOutCommand 276 = .ok (.pop, 1) := by decide +kernel
theorem dX3_carryOutCommand_277 : decode cX3_carryOutCommand 277 = .ok (.goto 25, 3) := by decide +kernel
theorem dX3_carryOutCommand_280 : decode cX3_carryOutCommand 280 = .ok (.aload_n 0, 1) := by decide +kernel
theorem dX3_carryOutCommand_281 : decode cX3_carryOutCommand 281 = .ok (.getfield 10, 3) := by decide +kernel
theorem dX3_carryOutCommand_284 : decode cX3_carryOutCommand 284 = .ok (.iload_n 1, 1) := by decide +kernel
theorem dX3_carryOutCommand_285 : decode cX3_carryOutCommand 285 = .ok (.invokevirtual 200, 3) := by decide +kernel
theorem dX3_carryOutCommand_288 : decode cX3_carryOutCommand 288 = .ok (.pop, 1) := by decide +kernel
theorem dX3_carryOutCommand_289 : decode cX3_carryOutCommand 289 = .ok (.goto 13, 3) := by decide +kernel
theorem dX3_carryOutCommand_292 : decode cX3_carryOutCommand 292 = .ok (.aload_n 0, 1) := by decide +kernel
theorem dX3_carryOutCommand_293 : decode cX3_carryOutCommand 293 = .ok (.getfield 10, 3) := by decide +kernel
theorem dX3_carryOutCommand_296 : decode cX3_carryOutCommand 296 = .ok (.iload_n 2, 1) := by decide +kernel
theorem dX3_carryOutCommand_297 : decode cX3_carryOutCommand 297 = .ok (.iload_n 3, 1) := by decide +kernel
theorem dX3_carryOutCommand_298 : decode cX3_carryOutCommand 298 = .ok (.invokevirtual 220, 3) := by decide +kernel
theorem dX3_carryOutCommand_301 : decode cX3_carryOutCommand 301 = .ok (.pop, 1) := by decide +kernel
theorem dX3_carryOutCommand_302 : decode cX3_carryOutCommand 302 = .ok (.return_, 1) := by decide +kernel
theorem dX3_isBillConsistent_0 : decode cX3_isBillConsistent 0 = .ok (.aload_n 0, 1) := by decide +kernel
theorem dX3_isBillConsistent_1 : decode cX3_isBillConsistent 1 = .ok (.getfield 10, 3) := by decide +kernel
theorem dX3_isBillConsistent_4 : decode cX3_isBillConsistent 4 = .ok (.getfield 167, 3) := by decide +kernel
theorem dX3_isBillConsistent_7 : decode cX3_isBillConsistent 7 = .ok (.iload_n 1, 1) := by decide +kernel
theorem dX3_isBillConsistent_8 : decode cX3_isBillConsistent 8 = .ok (.iaload, 1) := by decide +kernel
theorem dX3_isBillConsistent_9 : decode cX3_isBillConsistent 9 = .ok (.istore_n 2, 1) := by decide +kernel
theorem dX3_isBillConsistent_10 : decode cX3_isBillConsistent 10 = .ok (.aload_n 0, 1) := by decide +kernel
theorem dX3_isBillConsistent_11 : decode cX3_isBillConsistent 11 = .ok (.getfield 10, 3) := by decide +kernel
theorem dX3_isBillConsistent_14 : decode cX3_isBillConsistent 14 = .ok (.getfield 136, 3) := by decide +kernel
theorem dX3_isBillConsistent_17 : decode cX3_isBillConsistent 17 = .ok (.iload_n 1, 1) := by decide +kernel
theorem dX3_isBillConsistent_18 : decode cX3_isBillConsistent 18 = .ok (.laload, 1) := by decide +kernel
theorem dX3_isBillConsistent_19 : decode cX3_isBillConsistent 19 = .ok (.lstore_n 3, 1) := by decide +kernel
theorem dX3_isBillConsistent_20 : decode cX3_isBillConsistent 20 = .ok (.aload_n 0, 1) := by decide +kernel
theorem dX3_isBillConsistent_21 : decode cX3_isBillConsistent 21 = .ok (.getfield 10, 3) := by decide +kernel
theorem dX3_isBillConsistent_24 : decode cX3_isBillConsistent 24 = .ok (.iload_n 2, 1) := by decide +kernel
theorem dX3_isBillConsistent_25 : decode cX3_isBillConsistent 25 = .ok (.invokevirtual 170, 3) := by decide +kernel
theorem dX3_isBillConsistent_28 : decode cX3_isBillConsistent 28 = .ok (.aload_n 0, 1) := by decide +kernel
theorem dX3_isBillConsistent_29 : decode cX3_isBillConsistent 29 = .ok (.getfield 10, 3) := by decide +kernel
theorem dX3_isBillConsistent_32 : decode cX3_isBillConsistent 32 = .ok (.iload_n 2, 1) := by decide +kernel
theorem dX3_isBillConsistent_33 : decode cX3_isBillConsistent 33 = .ok (.invokevirtual 173, 3) := by decide +kernel
theorem dX3_isBillConsistent_36 : decode cX3_isBillConsistent 36 = .ok (.if_icmp .ne 32, 3) := by decide +kernel
theorem dX3_isBillConsistent_39 : decode cX3_isBillConsistent 39 = .ok (.lload_n 3, 1) := by decide +kernel
theorem dX3_isBillConsistent_40 : decode cX3_isBillConsistent 40 = .ok (.invokestatic 146, 3) := by decide +kernel
theorem dX3_isBillConsistent_43 : decode cX3_isBillConsistent 43 = .ok (.lload_n 3, 1) := by decide +kernel
theorem dX3_isBillConsistent_44 : decode cX3_isBillConsistent 44 = .ok (.invokestatic 149, 3) := by decide +kernel
theorem dX3_isBillConsistent_47 : decode cX3_isBillConsistent 47 = .ok (.if_icmp .ne 21, 3) := by decide +kernel
theorem dX3_isBillConsistent_50 : decode cX3_isBillConsistent 50 = .ok (.iload_n 2, 1) := by decide +kernel
theorem dX3_isBillConsistent_51 : decode cX3_isBillConsistent 51 = .ok (.aload_n 0, 1) := by decide +kernel
theorem dX3_isBillConsistent_52 : decode cX3_isBillConsistent 52 = .ok (.getfield 10, 3) := by decide +kernel
theorem dX3_isBillConsistent_55 : decode cX3_isBillConsistent 55 = .ok (.getfield 176, 3) := by decide +kernel
theorem dX3_isBillConsistent_58 : decode cX3_isBillConsistent 58 = .ok (.iload_n 1, 1) := by decide +kernel
theorem dX3_isBillConsistent_59 : decode cX3_isBillConsistent 59 = .ok (.iaload, 1) := by decide +kernel
theorem dX3_isBillConsistent_60 : decode cX3_isBillConsistent 60 = .ok (.iand, 1) := by decide +kernel
theorem dX3_isBillConsistent_61 : decode cX3_isBillConsistent 61 = .ok (.ifCond .ne 7, 3) := by decide +kernel
theorem dX3_isBillConsistent_64 : decode cX3_isBillConsistent 64 = .ok (.iconst 1, 1) := by decide +kernel
theorem dX3_isBillConsistent_65 : decode cX3_isBillConsistent 65 = .ok (.goto 4, 3) := by decide +kernel
theorem dX3_isBillConsistent_68 : decode cX3_isBillConsistent 68 = .ok (.iconst 0, 1) := by decide +kernel
theorem dX3_isBillConsistent_69 : decode cX3_isBillConsistent 69 = .ok (.ireturn, 1) := by decide +kernel
theorem dX3_isWard_0 : decode cX3_isWard 0 = .ok (.iload_n 0, 1) := by decide +kernel
theorem dX3_isWard_1 : decode cX3_isWard 1 = .ok (.ifCond .lt 12, 3) := by decide +kernel
theorem dX3_isWard_4 : decode cX3_isWard 4 = .ok (.iload_n 0, 1) := by decide +kernel
theorem dX3_isWard_5 : decode cX3_isWard 5 = .ok (.iconst 4, 1) := by decide +kernel
theorem dX3_isWard_6 : decode cX3_isWard 6 = .ok (.if_icmp .ge 7, 3) := by decide +kernel
theorem dX3_isWard_9 : decode cX3_isWard 9 = .ok (.iconst 1, 1) := by decide +kernel
theorem dX3_isWard_10 : decode cX3_isWard 10 = .ok (.goto 4, 3) := by decide +kernel
theorem dX3_isWard_13 : decode cX3_isWard 13 = .ok (.iconst 0, 1) := by decide +kernel
theorem dX3_isWard_14 : decode cX3_isWard 14 = .ok (.ireturn, 1) := by decide +kernel
theorem dX3_isClause_0 : decode cX3_isClause 0 = .ok (.iload_n 0, 1) := by decide +kernel
theorem dX3_isClause_1 : decode cX3_isClause 1 = .ok (.ifCond .lt 13, 3) := by decide +kernel
theorem dX3_isClause_4 : decode cX3_isClause 4 = .ok (.iload_n 0, 1) := by decide +kernel
theorem dX3_isClause_5 : decode cX3_isClause 5 = .ok (.bipush 64, 2) := by decide +kernel
theorem dX3_isClause_7 : decode cX3_isClause 7 = .ok (.if_icmp .ge 7, 3) := by decide +kernel
theorem dX3_isClause_10 : decode cX3_isClause 10 = .ok (.iconst 1, 1) := by decide +kernel
theorem dX3_isClause_11 : decode cX3_isClause 11 = .ok (.goto 4, 3) := by decide +kernel
theorem dX3_isClause_14 : decode cX3_isClause 14 = .ok (.iconst 0, 1) := by decide +kernel
theorem dX3_isClause_15 : decode cX3_isClause 15 = .ok (.ireturn, 1) := by decide +kernel
theorem dX3_runByClauses_0 : decode cX3_runByClauses 0 = .ok (.iconst 0, 1) := by decide +kernel
theorem dX3_runByClauses_1 : decode cX3_runByClauses 1 = .ok (.istore_n 2, 1) := by decide +kernel
theorem dX3_runByClauses_2 : decode cX3_runByClauses 2 = .ok (.iconst 0, 1) := by decide +kernel
theorem dX3_runByClauses_3 : decode cX3_runByClauses 3 = .ok (.istore_n 3, 1) := by decide +kernel
theorem dX3_runByClauses_4 : decode cX3_runByClauses 4 = .ok (.iconst 0, 1) := by decide +kernel
theorem dX3_runByClauses_5 : decode cX3_runByClauses 5 = .ok (.istore 4, 2) := by decide +kernel
theorem dX3_runByClauses_7 : decode cX3_runByClauses 7 = .ok (.iload 4, 2) := by decide +kernel
theorem dX3_runByClauses_9 : decode cX3_runByClauses 9 = .ok (.bipush 64, 2) := by decide +kernel
theorem dX3_runByClauses_11 : decode cX3_runByClauses 11 = .ok (.if_icmp .ge 34, 3) := by decide +kernel
theorem dX3_runByClauses_14 : decode cX3_runByClauses 14 = .ok (.lload_n 0, 1) := by decide +kernel
theorem dX3_runByClauses_15 : decode cX3_runByClauses 15 = .ok (.iload 4, 2) := by decide +kernel
theorem dX3_runByClauses_17 : decode cX3_runByClauses 17 = .ok (.lushr, 1) := by decide +kernel
theorem dX3_runByClauses_18 : decode cX3_runByClauses 18 = .ok (.lconst 1, 1) := by decide +kernel
theorem dX3_runByClauses_19 : decode cX3_runByClauses 19 = .ok (.land, 1) := by decide +kernel
theorem dX3_runByClauses_20 : decode cX3_runByClauses 20 = .ok (.lconst 0, 1) := by decide +kernel
theorem dX3_runByClauses_21 : decode cX3_runByClauses 21 = .ok (.lcmp, 1) := by decide +kernel
theorem dX3_runByClauses_22 : decode cX3_runByClauses 22 = .ok (.ifCond .eq 9, 3) := by decide +kernel
theorem dX3_runByClauses_25 : decode cX3_runByClauses 25 = .ok (.iload_n 3, 1) := by decide +kernel
theorem dX3_runByClauses_26 : decode cX3_runByClauses 26 = .ok (.iconst 1, 1) := by decide +kernel
theorem dX3_runByClauses_27 : decode cX3_runByClauses 27 = .ok (.iadd, 1) := by decide +kernel
theorem dX3_runByClauses_28 : decode cX3_runByClauses 28 = .ok (.goto 4, 3) := by decide +kernel
theorem dX3_runByClauses_31 : decode cX3_runByClauses 31 = .ok (.iconst 0, 1) := by decide +kernel
theorem dX3_runByClauses_32 : decode cX3_runByClauses 32 = .ok (.istore_n 3, 1) := by decide +kernel
theorem dX3_runByClauses_33 : decode cX3_runByClauses 33 = .ok (.iload_n 2, 1) := by decide +kernel
theorem dX3_runByClauses_34 : decode cX3_runByClauses 34 = .ok (.iload_n 3, 1) := by decide +kernel
theorem dX3_runByClauses_35 : decode cX3_runByClauses 35 = .ok (.invokestatic 343, 3) := by decide +kernel
theorem dX3_runByClauses_38 : decode cX3_runByClauses 38 = .ok (.istore_n 2, 1) := by decide +kernel
theorem dX3_runByClauses_39 : decode cX3_runByClauses 39 = .ok (.iinc 4 1, 3) := by decide +kernel
theorem dX3_runByClauses_42 : decode cX3_runByClauses 42 = .ok (.goto (-35), 3) := by decide +kernel
theorem dX3_runByClauses_45 : decode cX3_runByClauses 45 = .ok (.iload_n 2, 1) := by decide +kernel
theorem dX3_runByClauses_46 : decode cX3_runByClauses 46 = .ok (.ireturn, 1) := by decide +kernel
theorem dX3_runByShifts_0 : decode cX3_runByShifts 0 = .ok (.lload_n 0, 1) := by decide +kernel
theorem dX3_runByShifts_1 : decode cX3_runByShifts 1 = .ok (.lstore_n 2, 1) := by decide +kernel
theorem dX3_runByShifts_2 : decode cX3_runByShifts 2 = .ok (.iconst 0, 1) := by decide +kernel
theorem dX3_runByShifts_3 : decode cX3_runByShifts 3 = .ok (.istore 4, 2) := by decide +kernel
theorem dX3_runByShifts_5 : decode cX3_runByShifts 5 = .ok (.lload_n 2, 1) := by decide +kernel
theorem dX3_runByShifts_6 : decode cX3_runByShifts 6 = .ok (.lconst 0, 1) := by decide +kernel
theorem dX3_runByShifts_7 : decode cX3_runByShifts 7 = .ok (.lcmp, 1) := by decide +kernel
theorem dX3_runByShifts_8 : decode cX3_runByShifts 8 = .ok (.ifCond .eq 22, 3) := by decide +kernel
theorem dX3_runByShifts_11 : decode cX3_runByShifts 11 = .ok (.iload 4, 2) := by decide +kernel
theorem dX3_runByShifts_13 : decode cX3_runByShifts 13 = .ok (.bipush 64, 2) := by decide +kernel
theorem dX3_runByShifts_15 : decode cX3_runByShifts 15 = .ok (.if_icmp .ge 15, 3) := by decide +kernel
theorem dX3_runByShifts_18 : decode cX3_runByShifts 18 = .ok (.lload_n 2, 1) := by decide +kernel
theorem dX3_runByShifts_19 : decode cX3_runByShifts 19 = .ok (.lload_n 2, 1) := by decide +kernel
theorem dX3_runByShifts_20 : decode cX3_runByShifts 20 = .ok (.iconst 1, 1) := by decide +kernel
theorem dX3_runByShifts_21 : decode cX3_runByShifts 21 = .ok (.lshl, 1) := by decide +kernel
theorem dX3_runByShifts_22 : decode cX3_runByShifts 22 = .ok (.land, 1) := by decide +kernel
theorem dX3_runByShifts_23 : decode cX3_runByShifts 23 = .ok (.lstore_n 2, 1) := by decide +kernel
theorem dX3_runByShifts_24 : decode cX3_runByShifts 24 = .ok (.iinc 4 1, 3) := by decide +kernel
theorem dX3_runByShifts_27 : decode cX3_runByShifts 27 = .ok (.goto (-22), 3) := by decide +kernel
theorem dX3_runByShifts_30 : decode cX3_runByShifts 30 = .ok (.iload 4, 2) := by decide +kernel
theorem dX3_runByShifts_32 : decode cX3_runByShifts 32 = .ok (.ireturn, 1) := by decide +kernel
theorem dX3_bitsOfShare_0 : decode cX3_bitsOfShare 0 = .ok (.fload_n 0, 1) := by decide +kernel
theorem dX3_bitsOfShare_1 : decode cX3_bitsOfShare 1 = .ok (.fconst 0, 1) := by decide +kernel
theorem dX3_bitsOfShare_2 : decode cX3_bitsOfShare 2 = .ok (.fcmp .g, 1) := by decide +kernel
theorem dX3_bitsOfShare_3 : decode cX3_bitsOfShare 3 = .ok (.ifCond .gt 5, 3) := by decide +kernel
theorem dX3_bitsOfShare_6 : decode cX3_bitsOfShare 6 = .ok (.iconst 0, 1) := by decide +kernel
theorem dX3_bitsOfShare_7 : decode cX3_bitsOfShare 7 = .ok (.ireturn, 1) := by decide +kernel
theorem dX3_bitsOfShare_8 : decode cX3_bitsOfShare 8 = .ok (.fload_n 0, 1) := by decide +kernel
theorem dX3_bitsOfShare_9 : decode cX3_bitsOfShare 9 = .ok (.fstore_n 1, 1) := by decide +kernel
theorem dX3_bitsOfShare_10 : decode cX3_bitsOfShare 10 = .ok (.bipush 127, 2) := by decide +kernel
theorem dX3_bitsOfShare_12 : decode cX3_bitsOfShare 12 = .ok (.istore_n 2, 1) := by decide +kernel
theorem dX3_bitsOfShare_13 : decode cX3_bitsOfShare 13 = .ok (.fload_n 1, 1) := by decide +kernel
theorem dX3_bitsOfShare_14 : decode cX3_bitsOfShare 14 = .ok (.fconst 1, 1) := by decide +kernel
theorem dX3_bitsOfShare_15 : decode cX3_bitsOfShare 15 = .ok (.fcmp .g, 1) := by decide +kernel
theorem dX3_bitsOfShare_16 : decode cX3_bitsOfShare 16 = .ok (.ifCond .ge 18, 3) := by decide +kernel
theorem dX3_bitsOfShare_19 : decode cX3_bitsOfShare 19 = .ok (.iload_n 2, 1) := by decide +kernel
theorem dX3_bitsOfShare_20 : decode cX3_bitsOfShare 20 = .ok (.iconst 1, 1) := by decide +kernel
theorem dX3_bitsOfShare_21 : decode cX3_bitsOfShare 21 = .ok (.if_icmp .le 13, 3) := by decide +kernel
theorem dX3_bitsOfShare_24 : decode cX3_bitsOfShare 24 = .ok (.fload_n 1, 1) := by decide +kernel
theorem dX3_bitsOfShare_25 : decode cX3_bitsOfShare 25 = .ok (.fconst 2, 1) := by decide +kernel
theorem dX3_bitsOfShare_26 : decode cX3_bitsOfShare 26 = .ok (.fmul, 1) := by decide +kernel
theorem dX3_bitsOfShare_27 : decode cX3_bitsOfShare 27 = .ok (.fstore_n 1, 1) := by decide +kernel
theorem dX3_bitsOfShare_28 : decode cX3_bitsOfShare 28 = .ok (.iinc 2 (-1), 3) := by decide +kernel
theorem dX3_bitsOfShare_31 : decode cX3_bitsOfShare 31 = .ok (.goto (-18), 3) := by decide +kernel
theorem dX3_bitsOfShare_34 : decode cX3_bitsOfShare 34 = .ok (.fload_n 1, 1) := by decide +kernel
theorem dX3_bitsOfShare_35 : decode cX3_bitsOfShare 35 = .ok (.ldc_w 346, 3) := by decide +kernel
theorem dX3_bitsOfShare_38 : decode cX3_bitsOfShare 38 = .ok (.fmul, 1) := by decide +kernel
theorem dX3_bitsOfShare_39 : decode cX3_bitsOfShare 39 = .ok (.f2i, 1) := by decide +kernel
theorem dX3_bitsOfShare_40 : decode cX3_bitsOfShare 40 = .ok (.ldc_w 347, 3) := by decide +kernel
theorem dX3_bitsOfShare_43 : decode cX3_bitsOfShare 43 = .ok (.isub, 1) := by decide +kernel
theorem dX3_bitsOfShare_44 : decode cX3_bitsOfShare 44 = .ok (.istore_n 3, 1) := by decide +kernel
theorem dX3_bitsOfShare_45 : decode cX3_bitsOfShare 45 = .ok (.iload_n 2, 1) := by decide +kernel
theorem dX3_bitsOfShare_46 : decode cX3_bitsOfShare 46 = .ok (.bipush 23, 2) := by decide +kernel
theorem dX3_bitsOfShare_48 : decode cX3_bitsOfShare 48 = .ok (.ishl, 1) := by decide +kernel
theorem dX3_bitsOfShare_49 : decode cX3_bitsOfShare 49 = .ok (.iload_n 3, 1) := by decide +kernel
theorem dX3_bitsOfShare_50 : decode cX3_bitsOfShare 50 = .ok (.ior, 1) := by decide +kernel
theorem dX3_bitsOfShare_51 : decode cX3_bitsOfShare 51 = .ok (.ireturn, 1) := by decide +kernel
theorem dJx00060_init_a7421_0 : decode cJx00060_init_a7421 0 = .ok (.aload_n 0, 1) := by decide +kernel
theorem dJx00060_init_a7421_1 : decode cJx00060_init_a7421 1 = .ok (.aload_n 1, 1) := by decide +kernel
theorem dJx00060_init_a7421_2 : decode cJx00060_init_a7421 2 = .ok (.invokespecial 7, 3) := by decide +kernel
theorem dJx00060_init_a7421_5 : decode cJx00060_init_a7421 5 = .ok (.return_, 1) := by decide +kernel
theorem dJxf58ca_isNaN_12338_0 : decode cJxf58ca_isNaN_12338 0 = .ok (.fload_n 0, 1) := by decide +kernel
theorem dJxf58ca_isNaN_12338_1 : decode cJxf58ca_isNaN_12338 1 = .ok (.fload_n 0, 1) := by decide +kernel
theorem dJxf58ca_isNaN_12338_2 : decode cJxf58ca_isNaN_12338 2 = .ok (.fcmp .l, 1) := by decide +kernel
theorem dJxf58ca_isNaN_12338_3 : decode cJxf58ca_isNaN_12338 3 = .ok (.ifCond .eq 7, 3) := by decide +kernel
theorem dJxf58ca_isNaN_12338_6 : decode cJxf58ca_isNaN_12338 6 = .ok (.iconst 1, 1) := by decide +kernel
theorem dJxf58ca_isNaN_12338_7 : decode cJxf58ca_isNaN_12338 7 = .ok (.goto 4, 3) := by decide +kernel
theorem dJxf58ca_isNaN_12338_10 : decode cJxf58ca_isNaN_12338 10 = .ok (.iconst 0, 1) := by decide +kernel
theorem dJxf58ca_isNaN_12338_11 : decode cJxf58ca_isNaN_12338 11 = .ok (.ireturn, 1) := by decide +kernel
theorem dJxf58ca_floatToIntBits_5c35a_0 : decode cJxf58ca_floatToIntBits_5c35a 0 = .ok (.fload_n 0, 1) := by decide +kernel
theorem dJxf58ca_floatToIntBits_5c35a_1 : decode cJxf58ca_floatToIntBits_5c35a 1 = .ok (.invokestatic 59, 3) := by decide +kernel
theorem dJxf58ca_floatToIntBits_5c35a_4 : decode cJxf58ca_floatToIntBits_5c35a 4 = .ok (.ifCond .ne 8, 3) := by decide +kernel
theorem dJxf58ca_floatToIntBits_5c35a_7 : decode cJxf58ca_floatToIntBits_5c35a 7 = .ok (.fload_n 0, 1) := by decide +kernel
theorem dJxf58ca_floatToIntBits_5c35a_8 : decode cJxf58ca_floatToIntBits_5c35a 8 = .ok (.invokestatic 74, 3) := by decide +kernel
theorem dJxf58ca_floatToIntBits_5c35a_11 : decode cJxf58ca_floatToIntBits_5c35a 11 = .ok (.ireturn, 1) := by decide +kernel
theorem dJxf58ca_floatToIntBits_5c35a_12 : decode cJxf58ca_floatToIntBits_5c35a 12 = .ok (.ldc 77, 2) := by decide +kernel
theorem dJxf58ca_floatToIntBits_5c35a_14 : decode cJxf58ca_floatToIntBits_5c35a 14 = .ok (.ireturn, 1) := by decide +kernel
theorem dJ6_bitCount_0f7a4_0 : decode cJ6_bitCount_0f7a4 0 = .ok (.iload_n 0, 1) := by decide +kernel
theorem dJ6_bitCount_0f7a4_1 : decode cJ6_bitCount_0f7a4 1 = .ok (.iload_n 0, 1) := by decide +kernel
theorem dJ6_bitCount_0f7a4_2 : decode cJ6_bitCount_0f7a4 2 = .ok (.iconst 1, 1) := by decide +kernel
theorem dJ6_bitCount_0f7a4_3 : decode cJ6_bitCount_0f7a4 3 = .ok (.iushr, 1) := by decide +kernel
theorem dJ6_bitCount_0f7a4_4 : decode cJ6_bitCount_0f7a4 4 = .ok (.ldc_w 265, 3) := by decide +kernel
theorem dJ6_bitCount_0f7a4_7 : decode cJ6_bitCount_0f7a4 7 = .ok (.iand, 1) := by decide +kernel
theorem dJ6_bitCount_0f7a4_8 : decode cJ6_bitCount_0f7a4 8 = .ok (.isub, 1) := by decide +kernel
theorem dJ6_bitCount_0f7a4_9 : decode cJ6_bitCount_0f7a4 9 = .ok (.istore_n 0, 1) := by decide +kernel
theorem dJ6_bitCount_0f7a4_10 : decode cJ6_bitCount_0f7a4 10 = .ok (.iload_n 0, 1) := by decide +kernel
theorem dJ6_bitCount_0f7a4_11 : decode cJ6_bitCount_0f7a4 11 = .ok (.ldc_w 266, 3) := by decide +kernel
theorem dJ6_bitCount_0f7a4_14 : decode cJ6_bitCount_0f7a4 14 = .ok (.iand, 1) := by decide +kernel
theorem dJ6_bitCount_0f7a4_15 : decode cJ6_bitCount_0f7a4 15 = .ok (.iload_n 0, 1) := by decide +kernel
theorem dJ6_bitCount_0f7a4_16 : decode cJ6_bitCount_0f7a4 16 = .ok (.iconst 2, 1) := by decide +kernel
theorem dJ6_bitCount_0f7a4_17 : decode cJ6_bitCount_0f7a4 17 = .ok (.iushr, 1) := by decide +kernel
theorem dJ6_bitCount_0f7a4_18 : decode cJ6_bitCount_0f7a4 18 = .ok (.ldc_w 266, 3) := by decide +kernel
theorem dJ6_bitCount_0f7a4_21 : decode cJ6_bitCount_0f7a4 21 = .ok (.iand, 1) := by decide +kernel
theorem dJ6_bitCount_0f7a4_22 : decode cJ6_bitCount_0f7a4 22 = .ok (.iadd, 1) := by decide +kernel
theorem dJ6_bitCount_0f7a4_23 : decode cJ6_bitCount_0f7a4 23 = .ok (.istore_n 0, 1) := by decide +kernel
theorem dJ6_bitCount_0f7a4_24 : decode cJ6_bitCount_0f7a4 24 = .ok (.iload_n 0, 1) := by decide +kernel
theorem dJ6_bitCount_0f7a4_25 : decode cJ6_bitCount_0f7a4 25 = .ok (.iload_n 0, 1) := by decide +kernel
theorem dJ6_bitCount_0f7a4_26 : decode cJ6_bitCount_0f7a4 26 = .ok (.iconst 4, 1) := by decide +kernel
theorem dJ6_bitCount_0f7a4_27 : decode cJ6_bitCount_0f7a4 27 = .ok (.iushr, 1) := by decide +kernel
theorem dJ6_bitCount_0f7a4_28 : decode cJ6_bitCount_0f7a4 28 = .ok (.iadd, 1) := by decide +kernel
theorem dJ6_bitCount_0f7a4_29 : decode cJ6_bitCount_0f7a4 29 = .ok (.ldc_w 267, 3) := by decide +kernel
theorem dJ6_bitCount_0f7a4_32 : decode cJ6_bitCount_0f7a4 32 = .ok (.iand, 1) := by decide +kernel
theorem dJ6_bitCount_0f7a4_33 : decode cJ6_bitCount_0f7a4 33 = .ok (.istore_n 0, 1) := by decide +kernel
theorem dJ6_bitCount_0f7a4_34 : decode cJ6_bitCount_0f7a4 34 = .ok (.iload_n 0, 1) := by decide +kernel
theorem dJ6_bitCount_0f7a4_35 : decode cJ6_bitCount_0f7a4 35 = .ok (.iload_n 0, 1) := by decide +kernel
theorem dJ6_bitCount_0f7a4_36 : decode cJ6_bitCount_0f7a4 36 = .ok (.bipush 8, 2) := by decide +kernel
theorem dJ6_bitCount_0f7a4_38 : decode cJ6_bitCount_0f7a4 38 = .ok (.iushr, 1) := by decide +kernel
theorem dJ6_bitCount_0f7a4_39 : decode cJ6_bitCount_0f7a4 39 = .ok (.iadd, 1) := by decide +kernel
theorem dJ6_bitCount_0f7a4_40 : decode cJ6_bitCount_0f7a4 40 = .ok (.istore_n 0, 1) := by decide +kernel
theorem dJ6_bitCount_0f7a4_41 : decode cJ6_bitCount_0f7a4 41 = .ok (.iload_n 0, 1) := by decide +kernel
theorem dJ6_bitCount_0f7a4_42 : decode cJ6_bitCount_0f7a4 42 = .ok (.iload_n 0, 1) := by decide +kernel
theorem dJ6_bitCount_0f7a4_43 : decode cJ6_bitCount_0f7a4 43 = .ok (.bipush 16, 2) := by decide +kernel
theorem dJ6_bitCount_0f7a4_45 : decode cJ6_bitCount_0f7a4 45 = .ok (.iushr, 1) := by decide +kernel
theorem dJ6_bitCount_0f7a4_46 : decode cJ6_bitCount_0f7a4 46 = .ok (.iadd, 1) := by decide +kernel
theorem dJ6_bitCount_0f7a4_47 : decode cJ6_bitCount_0f7a4 47 = .ok (.istore_n 0, 1) := by decide +kernel
theorem dJ6_bitCount_0f7a4_48 : decode cJ6_bitCount_0f7a4 48 = .ok (.iload_n 0, 1) := by decide +kernel
theorem dJ6_bitCount_0f7a4_49 : decode cJ6_bitCount_0f7a4 49 = .ok (.bipush 63, 2) := by decide +kernel
theorem dJ6_bitCount_0f7a4_51 : decode cJ6_bitCount_0f7a4 51 = .ok (.iand, 1) := by decide +kernel
theorem dJ6_bitCount_0f7a4_52 : decode cJ6_bitCount_0f7a4 52 = .ok (.ireturn, 1) := by decide +kernel
theorem dJ13_bitCount_95d88_0 : decode cJ13_bitCount_95d88 0 = .ok (.lload_n 0, 1) := by decide +kernel
theorem dJ13_bitCount_95d88_1 : decode cJ13_bitCount_95d88 1 = .ok (.lload_n 0, 1) := by decide +kernel
theorem dJ13_bitCount_95d88_2 : decode cJ13_bitCount_95d88 2 = .ok (.iconst 1, 1) := by decide +kernel
theorem dJ13_bitCount_95d88_3 : decode cJ13_bitCount_95d88 3 = .ok (.lushr, 1) := by decide +kernel
theorem dJ13_bitCount_95d88_4 : decode cJ13_bitCount_95d88 4 = .ok (.ldc2_w 314, 3) := by decide +kernel
theorem dJ13_bitCount_95d88_7 : decode cJ13_bitCount_95d88 7 = .ok (.land, 1) := by decide +kernel
theorem dJ13_bitCount_95d88_8 : decode cJ13_bitCount_95d88 8 = .ok (.lsub, 1) := by decide +kernel
theorem dJ13_bitCount_95d88_9 : decode cJ13_bitCount_95d88 9 = .ok (.lstore_n 0, 1) := by decide +kernel
theorem dJ13_bitCount_95d88_10 : decode cJ13_bitCount_95d88 10 = .ok (.lload_n 0, 1) := by decide +kernel
theorem dJ13_bitCount_95d88_11 : decode cJ13_bitCount_95d88 11 = .ok (.ldc2_w 316, 3) := by decide +kernel
theorem dJ13_bitCount_95d88_14 : decode cJ13_bitCount_95d88 14 = .ok (.land, 1) := by decide +kernel
theorem dJ13_bitCount_95d88_15 : decode cJ13_bitCount_95d88 15 = .ok (.lload_n 0, 1) := by decide +kernel
theorem dJ13_bitCount_95d88_16 : decode cJ13_bitCount_95d88 16 = .ok (.iconst 2, 1) := by decide +kernel
theorem dJ13_bitCount_95d88_17 : decode cJ13_bitCount_95d88 17 = .ok (.lushr, 1) := by decide +kernel
theorem dJ13_bitCount_95d88_18 : decode cJ13_bitCount_95d88 18 = .ok (.ldc2_w 316, 3) := by decide +kernel
theorem dJ13_bitCount_95d88_21 : decode cJ13_bitCount_95d88 21 = .ok (.land, 1) := by decide +kernel
theorem dJ13_bitCount_95d88_22 : decode cJ13_bitCount_95d88 22 = .ok (.ladd, 1) := by decide +kernel
theorem dJ13_bitCount_95d88_23 : decode cJ13_bitCount_95d88 23 = .ok (.lstore_n 0, 1) := by decide +kernel
theorem dJ13_bitCount_95d88_24 : decode cJ13_bitCount_95d88 24 = .ok (.lload_n 0, 1) := by decide +kernel
theorem dJ13_bitCount_95d88_25 : decode cJ13_bitCount_95d88 25 = .ok (.lload_n 0, 1) := by decide +kernel
theorem dJ13_bitCount_95d88_26 : decode cJ13_bitCount_95d88 26 = .ok (.iconst 4, 1) := by decide +kernel
theorem dJ13_bitCount_95d88_27 : decode cJ13_bitCount_95d88 27 = .ok (.lushr, 1) := by decide +kernel
theorem dJ13_bitCount_95d88_28 : decode cJ13_bitCount_95d88 28 = .ok (.ladd, 1) := by decide +kernel
theorem dJ13_bitCount_95d88_29 : decode cJ13_bitCount_95d88 29 = .ok (.ldc2_w 318, 3) := by decide +kernel
theorem dJ13_bitCount_95d88_32 : decode cJ13_bitCount_95d88 32 = .ok (.land, 1) := by decide +kernel
theorem dJ13_bitCount_95d88_33 : decode cJ13_bitCount_95d88 33 = .ok (.lstore_n 0, 1) := by decide +kernel
theorem dJ13_bitCount_95d88_34 : decode cJ13_bitCount_95d88 34 = .ok (.lload_n 0, 1) := by decide +kernel
theorem dJ13_bitCount_95d88_35 : decode cJ13_bitCount_95d88 35 = .ok (.lload_n 0, 1) := by decide +kernel
theorem dJ13_bitCount_95d88_36 : decode cJ13_bitCount_95d88 36 = .ok (.bipush 8, 2) := by decide +kernel
theorem dJ13_bitCount_95d88_38 : decode cJ13_bitCount_95d88 38 = .ok (.lushr, 1) := by decide +kernel
theorem dJ13_bitCount_95d88_39 : decode cJ13_bitCount_95d88 39 = .ok (.ladd, 1) := by decide +kernel
theorem dJ13_bitCount_95d88_40 : decode cJ13_bitCount_95d88 40 = .ok (.lstore_n 0, 1) := by decide +kernel
theorem dJ13_bitCount_95d88_41 : decode cJ13_bitCount_95d88 41 = .ok (.lload_n 0, 1) := by decide +kernel
theorem dJ13_bitCount_95d88_42 : decode cJ13_bitCount_95d88 42 = .ok (.lload_n 0, 1) := by decide +kernel
theorem dJ13_bitCount_95d88_43 : decode cJ13_bitCount_95d88 43 = .ok (.bipush 16, 2) := by decide +kernel
theorem dJ13_bitCount_95d88_45 : decode cJ13_bitCount_95d88 45 = .ok (.lushr, 1) := by decide +kernel
theorem dJ13_bitCount_95d88_46 : decode cJ13_bitCount_95d88 46 = .ok (.ladd, 1) := by decide +kernel
theorem dJ13_bitCount_95d88_47 : decode cJ13_bitCount_95d88 47 = .ok (.lstore_n 0, 1) := by decide +kernel
theorem dJ13_bitCount_95d88_48 : decode cJ13_bitCount_95d88 48 = .ok (.lload_n 0, 1) := by decide +kernel
theorem dJ13_bitCount_95d88_49 : decode cJ13_bitCount_95d88 49 = .ok (.lload_n 0, 1) := by decide +kernel
theorem dJ13_bitCount_95d88_50 : decode cJ13_bitCount_95d88 50 = .ok (.bipush 32, 2) := by decide +kernel
theorem dJ13_bitCount_95d88_52 : decode cJ13_bitCount_95d88 52 = .ok (.lushr, 1) := by decide +kernel
theorem dJ13_bitCount_95d88_53 : decode cJ13_bitCount_95d88 53 = .ok (.ladd, 1) := by decide +kernel
theorem dJ13_bitCount_95d88_54 : decode cJ13_bitCount_95d88 54 = .ok (.lstore_n 0, 1) := by decide +kernel
theorem dJ13_bitCount_95d88_55 : decode cJ13_bitCount_95d88 55 = .ok (.lload_n 0, 1) := by decide +kernel
theorem dJ13_bitCount_95d88_56 : decode cJ13_bitCount_95d88 56 = .ok (.l2i, 1) := by decide +kernel
theorem dJ13_bitCount_95d88_57 : decode cJ13_bitCount_95d88 57 = .ok (.bipush 127, 2) := by decide +kernel
theorem dJ13_bitCount_95d88_59 : decode cJ13_bitCount_95d88 59 = .ok (.iand, 1) := by decide +kernel
theorem dJ13_bitCount_95d88_60 : decode cJ13_bitCount_95d88 60 = .ok (.ireturn, 1) := by decide +kernel
theorem dJ9_max_7cf53_0 : decode cJ9_max_7cf53 0 = .ok (.iload_n 0, 1) := by decide +kernel
theorem dJ9_max_7cf53_1 : decode cJ9_max_7cf53 1 = .ok (.iload_n 1, 1) := by decide +kernel
theorem dJ9_max_7cf53_2 : decode cJ9_max_7cf53 2 = .ok (.if_icmp .lt 7, 3) := by decide +kernel
theorem dJ9_max_7cf53_5 : decode cJ9_max_7cf53 5 = .ok (.iload_n 0, 1) := by decide +kernel
theorem dJ9_max_7cf53_6 : decode cJ9_max_7cf53 6 = .ok (.goto 4, 3) := by decide +kernel
theorem dJ9_max_7cf53_9 : decode cJ9_max_7cf53 9 = .ok (.iload_n 1, 1) := by decide +kernel
theorem dJ9_max_7cf53_10 : decode cJ9_max_7cf53 10 = .ok (.ireturn, 1) := by decide +kernel
theorem dJ9_min_7cf53_0 : decode cJ9_min_7cf53 0 = .ok (.iload_n 0, 1) := by decide +kernel
theorem dJ9_min_7cf53_1 : decode cJ9_min_7cf53 1 = .ok (.iload_n 1, 1) := by decide +kernel
theorem dJ9_min_7cf53_2 : decode cJ9_min_7cf53 2 = .ok (.if_icmp .gt 7, 3) := by decide +kernel
theorem dJ9_min_7cf53_5 : decode cJ9_min_7cf53 5 = .ok (.iload_n 0, 1) := by decide +kernel
theorem dJ9_min_7cf53_6 : decode cJ9_min_7cf53 6 = .ok (.goto 4, 3) := by decide +kernel
theorem dJ9_min_7cf53_9 : decode cJ9_min_7cf53 9 = .ok (.iload_n 1, 1) := by decide +kernel
theorem dJ9_min_7cf53_10 : decode cJ9_min_7cf53 10 = .ok (.ireturn, 1) := by decide +kernel
theorem dJ0_length_8abf5_0 : decode cJ0_length_8abf5 0 = .ok (.aload_n 0, 1) := by decide +kernel
theorem dJ0_length_8abf5_1 : decode cJ0_length_8abf5 1 = .ok (.getfield 9, 3) := by decide +kernel
theorem dJ0_length_8abf5_4 : decode cJ0_length_8abf5 4 = .ok (.arraylength, 1) := by decide +kernel
theorem dJ0_length_8abf5_5 : decode cJ0_length_8abf5 5 = .ok (.aload_n 0, 1) := by decide +kernel
theorem dJ0_length_8abf5_6 : decode cJ0_length_8abf5 6 = .ok (.invokevirtual 335, 3) := by decide +kernel
theorem dJ0_length_8abf5_9 : decode cJ0_length_8abf5 9 = .ok (.ishr, 1) := by decide +kernel
theorem dJ0_length_8abf5_10 : decode cJ0_length_8abf5 10 = .ok (.ireturn, 1) := by decide +kernel
theorem dJ0_isEmpty_aae02_0 : decode cJ0_isEmpty_aae02 0 = .ok (.aload_n 0, 1) := by decide +kernel
theorem dJ0_isEmpty_aae02_1 : decode cJ0_isEmpty_aae02 1 = .ok (.getfield 9, 3) := by decide +kernel
theorem dJ0_isEmpty_aae02_4 : decode cJ0_isEmpty_aae02 4 = .ok (.arraylength, 1) := by decide +kernel
theorem dJ0_isEmpty_aae02_5 : decode cJ0_isEmpty_aae02 5 = .ok (.ifCond .ne 7, 3) := by decide +kernel
theorem dJ0_isEmpty_aae02_8 : decode cJ0_isEmpty_aae02 8 = .ok (.iconst 1, 1) := by decide +kernel
theorem dJ0_isEmpty_aae02_9 : decode cJ0_isEmpty_aae02 9 = .ok (.goto 4, 3) := by decide +kernel
theorem dJ0_isEmpty_aae02_12 : decode cJ0_isEmpty_aae02 12 = .ok (.iconst 0, 1) := by decide +kernel
theorem dJ0_isEmpty_aae02_13 : decode cJ0_isEmpty_aae02 13 = .ok (.ireturn, 1) := by decide +kernel
theorem dJ0_charAt_5068e_0 : decode cJ0_charAt_5068e 0 = .ok (.aload_n 0, 1) := by decide +kernel
theorem dJ0_charAt_5068e_1 : decode cJ0_charAt_5068e 1 = .ok (.invokevirtual 492, 3) := by decide +kernel
theorem dJ0_charAt_5068e_4 : decode cJ0_charAt_5068e 4 = .ok (.ifCond .eq 12, 3) := by decide +kernel
theorem dJ0_charAt_5068e_7 : decode cJ0_charAt_5068e 7 = .ok (.aload_n 0, 1) := by decide +kernel
theorem dJ0_charAt_5068e_8 : decode cJ0_charAt_5068e 8 = .ok (.getfield 9, 3) := by decide +kernel
theorem dJ0_charAt_5068e_11 : decode cJ0_charAt_5068e 11 = .ok (.iload_n 1, 1) := by decide +kernel
theorem dJ0_charAt_5068e_12 : decode cJ0_charAt_5068e 12 = .ok (.invokestatic 495, 3) := by decide +kernel
theorem dJ0_charAt_5068e_15 : decode cJ0_charAt_5068e 15 = .ok (.ireturn, 1) := by decide +kernel
theorem dJ0_charAt_5068e_16 : decode cJ0_charAt_5068e 16 = .ok (.aload_n 0, 1) := by decide +kernel
theorem dJ0_charAt_5068e_17 : decode cJ0_charAt_5068e 17 = .ok (.getfield 9, 3) := by decide +kernel
theorem dJ0_charAt_5068e_20 : decode cJ0_charAt_5068e 20 = .ok (.iload_n 1, 1) := by decide +kernel
theorem dJ0_charAt_5068e_21 : decode cJ0_charAt_5068e 21 = .ok (.invokestatic 498, 3) := by decide +kernel
theorem dJ0_charAt_5068e_24 : decode cJ0_charAt_5068e 24 = .ok (.ireturn, 1) := by decide +kernel
theorem dJ0_coder_7d493_0 : decode cJ0_coder_7d493 0 = .ok (.getstatic 38, 3) := by decide +kernel
theorem dJ0_coder_7d493_3 : decode cJ0_coder_7d493 3 = .ok (.ifCond .eq 10, 3) := by decide +kernel
theorem dJ0_coder_7d493_6 : decode cJ0_coder_7d493 6 = .ok (.aload_n 0, 1) := by decide +kernel
theorem dJ0_coder_7d493_7 : decode cJ0_coder_7d493 7 = .ok (.getfield 15, 3) := by decide +kernel
theorem dJ0_coder_7d493_10 : decode cJ0_coder_7d493 10 = .ok (.goto 4, 3) := by decide +kernel
theorem dJ0_coder_7d493_13 : decode cJ0_coder_7d493 13 = .ok (.iconst 1, 1) := by decide +kernel
theorem dJ0_coder_7d493_14 : decode cJ0_coder_7d493 14 = .ok (.ireturn, 1) := by decide +kernel
theorem dJ0_isLatin1_aae02_0 : decode cJ0_isLatin1_aae02 0 = .ok (.getstatic 38, 3) := by decide +kernel
theorem dJ0_isLatin1_aae02_3 : decode cJ0_isLatin1_aae02 3 = .ok (.ifCond .eq 14, 3) := by decide +kernel
theorem dJ0_isLatin1_aae02_6 : decode cJ0_isLatin1_aae02 6 = .ok (.aload_n 0, 1) := by decide +kernel
theorem dJ0_isLatin1_aae02_7 : decode cJ0_isLatin1_aae02 7 = .ok (.getfield 15, 3) := by decide +kernel
theorem dJ0_isLatin1_aae02_10 : decode cJ0_isLatin1_aae02 10 = .ok (.ifCond .ne 7, 3) := by decide +kernel
theorem dJ0_isLatin1_aae02_13 : decode cJ0_isLatin1_aae02 13 = .ok (.iconst 1, 1) := by decide +kernel
theorem dJ0_isLatin1_aae02_14 : decode cJ0_isLatin1_aae02 14 = .ok (.goto 4, 3) := by decide +kernel
theorem dJ0_isLatin1_aae02_17 : decode cJ0_isLatin1_aae02 17 = .ok (.iconst 0, 1) := by decide +kernel
theorem dJ0_isLatin1_aae02_18 : decode cJ0_isLatin1_aae02 18 = .ok (.ireturn, 1) := by decide +kernel
theorem dJ0_checkIndex_df160_0 : decode cJ0_checkIndex_df160 0 = .ok (.iload_n 0, 1) := by decide +kernel
theorem dJ0_checkIndex_df160_1 : decode cJ0_checkIndex_df160 1 = .ok (.iload_n 1, 1) := by decide +kernel
theorem dJ0_checkIndex_df160_2 : decode cJ0_checkIndex_df160 2 = .ok (.getstatic 1053, 3) := by decide +kernel
theorem dJ0_checkIndex_df160_5 : decode cJ0_checkIndex_df160 5 = .ok (.invokestatic 1059, 3) := by decide +kernel
theorem dJ0_checkIndex_df160_8 : decode cJ0_checkIndex_df160 8 = .ok (.pop, 1) := by decide +kernel
theorem dJ0_checkIndex_df160_9 : decode cJ0_checkIndex_df160 9 = .ok (.return_, 1) := by decide +kernel
theorem dJ1_charAt_3b067_0 : decode cJ1_charAt_3b067 0 = .ok (.iload_n 1, 1) := by decide +kernel
theorem dJ1_charAt_3b067_1 : decode cJ1_charAt_3b067 1 = .ok (.aload_n 0, 1) := by decide +kernel
theorem dJ1_charAt_3b067_2 : decode cJ1_charAt_3b067 2 = .ok (.arraylength, 1) := by decide +kernel
theorem dJ1_charAt_3b067_3 : decode cJ1_charAt_3b067 3 = .ok (.invokestatic 9, 3) := by decide +kernel
theorem dJ1_charAt_3b067_6 : decode cJ1_charAt_3b067 6 = .ok (.aload_n 0, 1) := by decide +kernel
theorem dJ1_charAt_3b067_7 : decode cJ1_charAt_3b067 7 = .ok (.iload_n 1, 1) := by decide +kernel
theorem dJ1_charAt_3b067_8 : decode cJ1_charAt_3b067 8 = .ok (.baload, 1) := by decide +kernel
theorem dJ1_charAt_3b067_9 : decode cJ1_charAt_3b067 9 = .ok (.sipush 255, 3) := by decide +kernel
theorem dJ1_charAt_3b067_12 : decode cJ1_charAt_3b067 12 = .ok (.iand, 1) := by decide +kernel
theorem dJ1_charAt_3b067_13 : decode cJ1_charAt_3b067 13 = .ok (.i2c, 1) := by decide +kernel
theorem dJ1_charAt_3b067_14 : decode cJ1_charAt_3b067 14 = .ok (.ireturn, 1) := by decide +kernel
theorem dJ2_getChar_3b067_0 : decode cJ2_getChar_3b067 0 = .ok (.getstatic 44, 3) := by decide +kernel
theorem dJ2_getChar_3b067_3 : decode cJ2_getChar_3b067 3 = .ok (.ifCond .ne 25, 3) := by decide +kernel
theorem dJ2_getChar_3b067_6 : decode cJ2_getChar_3b067 6 = .ok (.iload_n 1, 1) := by decide +kernel
theorem dJ2_getChar_3b067_7 : decode cJ2_getChar_3b067 7 = .ok (.ifCond .lt 11, 3) := by decide +kernel
theorem dJ2_getChar_3b067_10 : decode cJ2_getChar_3b067 10 = .ok (.iload_n 1, 1) := by decide +kernel
theorem dJ2_getChar_3b067_11 : decode cJ2_getChar_3b067 11 = .ok (.aload_n 0, 1) := by decide +kernel
theorem dJ2_getChar_3b067_12 : decode cJ2_getChar_3b067 12 = .ok (.invokestatic 48, 3) := by decide +kernel
theorem dJ2_getChar_3b067_15 : decode cJ2_getChar_3b067 15 = .ok (.if_icmp .lt 13, 3) := by decide +kernel
theorem dJ2_getChar_3b067_18 : decode cJ2_getChar_3b067 18 = .ok (.new 52, 3) := by decide +kernel
theorem dJ2_getChar_3b067_21 : decode cJ2_getChar_3b067 21 = .ok (.dup, 1) := by decide +kernel
theorem dJ2_getChar_3b067_22 : decode cJ2_getChar_3b067 22 = .ok (.ldc 54, 2) := by decide +kernel
theorem dJ2_getChar_3b067_24 : decode cJ2_getChar_3b067 24 = .ok (.invokespecial 56, 3) := by decide +kernel
theorem dJ2_getChar_3b067_27 : decode cJ2_getChar_3b067 27 = .ok (.athrow, 1) := by decide +kernel
theorem dJ2_getChar_3b067_28 : decode cJ2_getChar_3b067 28 = .ok (.iload_n 1, 1) := by decide +kernel
theorem dJ2_getChar_3b067_29 : decode cJ2_getChar_3b067 29 = .ok (.iconst 1, 1) := by decide +kernel
theorem dJ2_getChar_3b067_30 : decode cJ2_getChar_3b067 30 = .ok (.ishl, 1) := by decide +kernel
theorem dJ2_getChar_3b067_31 : decode cJ2_getChar_3b067 31 = .ok (.istore_n 1, 1) := by decide +kernel
theorem dJ2_getChar_3b067_32 : decode cJ2_getChar_3b067 32 = .ok (.aload_n 0, 1) := by decide +kernel
theorem dJ2_getChar_3b067_33 : decode cJ2_getChar_3b067 33 = .ok (.iload_n 1, 1) := by decide +kernel
theorem dJ2_getChar_3b067_34 : decode cJ2_getChar_3b067 34 = .ok (.iinc 1 1, 3) := by decide +kernel
theorem dJ2_getChar_3b067_37 : decode cJ2_getChar_3b067 37 = .ok (.baload, 1) := by decide +kernel
theorem dJ2_getChar_3b067_38 : decode cJ2_getChar_3b067 38 = .ok (.sipush 255, 3) := by decide +kernel
theorem dJ2_getChar_3b067_41 : decode cJ2_getChar_3b067 41 = .ok (.iand, 1) := by decide +kernel
theorem dJ2_getChar_3b067_42 : decode cJ2_getChar_3b067 42 = .ok (.getstatic 59, 3) := by decide +kernel
theorem dJ2_getChar_3b067_45 : decode cJ2_getChar_3b067 45 = .ok (.ishl, 1) := by decide +kernel
theorem dJ2_getChar_3b067_46 : decode cJ2_getChar_3b067 46 = .ok (.aload_n 0, 1) := by decide +kernel
theorem dJ2_getChar_3b067_47 : decode cJ2_getChar_3b067 47 = .ok (.iload_n 1, 1) := by decide +kernel
theorem dJ2_getChar_3b067_48 : decode cJ2_getChar_3b067 48 = .ok (.baload, 1) := by decide +kernel
theorem dJ2_getChar_3b067_49 : decode cJ2_getChar_3b067 49 = .ok (.sipush 255, 3) := by decide +kernel
theorem dJ2_getChar_3b067_52 : decode cJ2_getChar_3b067 52 = .ok (.iand, 1) := by decide +kernel
theorem dJ2_getChar_3b067_53 : decode cJ2_getChar_3b067 53 = .ok (.getstatic 63, 3) := by decide +kernel
theorem dJ2_getChar_3b067_56 : decode cJ2_getChar_3b067 56 = .ok (.ishl, 1) := by decide +kernel
theorem dJ2_getChar_3b067_57 : decode cJ2_getChar_3b067 57 = .ok (.ior, 1) := by decide +kernel
theorem dJ2_getChar_3b067_58 : decode cJ2_getChar_3b067 58 = .ok (.i2c, 1) := by decide +kernel
theorem dJ2_getChar_3b067_59 : decode cJ2_getChar_3b067 59 = .ok (.ireturn, 1) := by decide +kernel
theorem dJ2_length_9d52b_0 : decode cJ2_length_9d52b 0 = .ok (.aload_n 0, 1) := by decide +kernel
theorem dJ2_length_9d52b_1 : decode cJ2_length_9d52b 1 = .ok (.arraylength, 1) := by decide +kernel
theorem dJ2_length_9d52b_2 : decode cJ2_length_9d52b 2 = .ok (.iconst 1, 1) := by decide +kernel
theorem dJ2_length_9d52b_3 : decode cJ2_length_9d52b 3 = .ok (.ishr, 1) := by decide +kernel
theorem dJ2_length_9d52b_4 : decode cJ2_length_9d52b 4 = .ok (.ireturn, 1) := by decide +kernel
theorem dJ2_charAt_3b067_0 : decode cJ2_charAt_3b067 0 = .ok (.iload_n 1, 1) := by decide +kernel
theorem dJ2_charAt_3b067_1 : decode cJ2_charAt_3b067 1 = .ok (.aload_n 0, 1) := by decide +kernel
theorem dJ2_charAt_3b067_2 : decode cJ2_charAt_3b067 2 = .ok (.invokestatic 67, 3) := by decide +kernel
theorem dJ2_charAt_3b067_5 : decode cJ2_charAt_3b067 5 = .ok (.aload_n 0, 1) := by decide +kernel
theorem dJ2_charAt_3b067_6 : decode cJ2_charAt_3b067 6 = .ok (.iload_n 1, 1) := by decide +kernel
theorem dJ2_charAt_3b067_7 : decode cJ2_charAt_3b067 7 = .ok (.invokestatic 71, 3) := by decide +kernel
theorem dJ2_charAt_3b067_10 : decode cJ2_charAt_3b067 10 = .ok (.ireturn, 1) := by decide +kernel
theorem dJ2_checkIndex_2214a_0 : decode cJ2_checkIndex_2214a 0 = .ok (.iload_n 0, 1) := by decide +kernel
theorem dJ2_checkIndex_2214a_1 : decode cJ2_checkIndex_2214a 1 = .ok (.aload_n 1, 1) := by decide +kernel
theorem dJ2_checkIndex_2214a_2 : decode cJ2_checkIndex_2214a 2 = .ok (.invokestatic 48, 3) := by decide +kernel
theorem dJ2_checkIndex_2214a_5 : decode cJ2_checkIndex_2214a 5 = .ok (.invokestatic 414, 3) := by decide +kernel
theorem dJ2_checkIndex_2214a_8 : decode cJ2_checkIndex_2214a 8 = .ok (.return_, 1) := by decide +kernel
theorem dJ3_checkIndex_8e157_0 : decode cJ3_checkIndex_8e157 0 = .ok (.iload_n 0, 1) := by decide +kernel
theorem dJ3_checkIndex_8e157_1 : decode cJ3_checkIndex_8e157 1 = .ok (.ifCond .lt 8, 3) := by decide +kernel
theorem dJ3_checkIndex_8e157_4 : decode cJ3_checkIndex_8e157 4 = .ok (.iload_n 0, 1) := by decide +kernel
theorem dJ3_checkIndex_8e157_5 : decode cJ3_checkIndex_8e157 5 = .ok (.iload_n 1, 1) := by decide +kernel
theorem dJ3_checkIndex_8e157_6 : decode cJ3_checkIndex_8e157 6 = .ok (.if_icmp .lt 10, 3) := by decide +kernel
theorem dJ3_checkIndex_8e157_9 : decode cJ3_checkIndex_8e157 9 = .ok (.aload_n 2, 1) := by decide +kernel
theorem dJ3_checkIndex_8e157_10 : decode cJ3_checkIndex_8e157 10 = .ok (.iload_n 0, 1) := by decide +kernel
theorem dJ3_checkIndex_8e157_11 : decode cJ3_checkIndex_8e157 11 = .ok (.iload_n 1, 1) := by decide +kernel
theorem dJ3_checkIndex_8e157_12 : decode cJ3_checkIndex_8e157 12 = .ok (.invokestatic 95, 3) := by decide +kernel
theorem dJ3_checkIndex_8e157_15 : decode cJ3_checkIndex_8e157 15 = .ok (.athrow, 1) := by decide +kernel
theorem dJ3_checkIndex_8e157_16 : decode cJ3_checkIndex_8e157 16 = .ok (.iload_n 0, 1) := by decide +kernel
theorem dJ3_checkIndex_8e157_17 : decode cJ3_checkIndex_8e157 17 = .ok (.ireturn, 1) := by decide +kernel
