theorem dX4_init_0 : decode cX4_init 0 = .ok (.aload_n 0, 1) := by decide +kernel
theorem dX4_init_1 : decode cX4_init 1 = .ok (.invokespecial 3, 3) := by decide +kernel
theorem dX4_init_4 : decode cX4_init 4 = .ok (.aload_n 0, 1) := by decide +kernel
theorem dX4_init_5 : decode cX4_init 5 = .ok (.sipush 181, 3) := by decide +kernel
theorem dX4_init_8 : decode cX4_init 8 = .ok (.newarray .int, 2) := by decide +kernel
theorem dX4_init_10 : decode cX4_init 10 = .ok (.putfield 9, 3) := by decide +kernel
theorem dX4_init_13 : decode cX4_init 13 = .ok (.aload_n 0, 1) := by decide +kernel
theorem dX4_init_14 : decode cX4_init 14 = .ok (.sipush 181, 3) := by decide +kernel
theorem dX4_init_17 : decode cX4_init 17 = .ok (.newarray .int, 2) := by decide +kernel
theorem dX4_init_19 : decode cX4_init 19 = .ok (.putfield 13, 3) := by decide +kernel
theorem dX4_init_22 : decode cX4_init 22 = .ok (.aload_n 0, 1) := by decide +kernel
theorem dX4_init_23 : decode cX4_init 23 = .ok (.sipush 181, 3) := by decide +kernel
theorem dX4_init_26 : decode cX4_init 26 = .ok (.newarray .int, 2) := by decide +kernel
theorem dX4_init_28 : decode cX4_init 28 = .ok (.putfield 16, 3) := by decide +kernel
theorem dX4_init_31 : decode cX4_init 31 = .ok (.aload_n 0, 1) := by decide +kernel
theorem dX4_init_32 : decode cX4_init 32 = .ok (.bipush 8, 2) := by decide +kernel
theorem dX4_init_34 : decode cX4_init 34 = .ok (.sipush 181, 3) := by decide +kernel
theorem dX4_init_37 : decode cX4_init 37 = .ok (.multianewarray 19 2, 4) := by decide +kernel
theorem dX4_init_41 : decode cX4_init 41 = .ok (.putfield 21, 3) := by decide +kernel
theorem dX4_init_44 : decode cX4_init 44 = .ok (.aload_n 0, 1) := by decide +kernel
theorem dX4_init_45 : decode cX4_init 45 = .ok (.bipush 40, 2) := by decide +kernel
theorem dX4_init_47 : decode cX4_init 47 = .ok (.newarray .char, 2) := by decide +kernel
theorem dX4_init_49 : decode cX4_init 49 = .ok (.putfield 24, 3) := by decide +kernel
theorem dX4_init_52 : decode cX4_init 52 = .ok (.aload_n 0, 1) := by decide +kernel
theorem dX4_init_53 : decode cX4_init 53 = .ok (.bipush 60, 2) := by decide +kernel
theorem dX4_init_55 : decode cX4_init 55 = .ok (.newarray .char, 2) := by decide +kernel
theorem dX4_init_57 : decode cX4_init 57 = .ok (.putfield 28, 3) := by decide +kernel
theorem dX4_init_60 : decode cX4_init 60 = .ok (.aload_n 0, 1) := by decide +kernel
theorem dX4_init_61 : decode cX4_init 61 = .ok (.iconst (-1), 1) := by decide +kernel
theorem dX4_init_62 : decode cX4_init 62 = .ok (.putfield 31, 3) := by decide +kernel
theorem dX4_init_65 : decode cX4_init 65 = .ok (.aload_n 0, 1) := by decide +kernel
theorem dX4_init_66 : decode cX4_init 66 = .ok (.iconst (-1), 1) := by decide +kernel
theorem dX4_init_67 : decode cX4_init 67 = .ok (.putfield 35, 3) := by decide +kernel
theorem dX4_init_70 : decode cX4_init 70 = .ok (.aload_n 0, 1) := by decide +kernel
theorem dX4_init_71 : decode cX4_init 71 = .ok (.getfield 9, 3) := by decide +kernel
theorem dX4_init_74 : decode cX4_init 74 = .ok (.iconst 3, 1) := by decide +kernel
theorem dX4_init_75 : decode cX4_init 75 = .ok (.iconst 3, 1) := by decide +kernel
theorem dX4_init_76 : decode cX4_init 76 = .ok (.iastore, 1) := by decide +kernel
theorem dX4_init_77 : decode cX4_init 77 = .ok (.return_, 1) := by decide +kernel
theorem dX4_thrown_0 : decode cX4_thrown 0 = .ok (.aload_n 0, 1) := by decide +kernel
theorem dX4_thrown_1 : decode cX4_thrown 1 = .ok (.getfield 38, 3) := by decide +kernel
theorem dX4_thrown_4 : decode cX4_thrown 4 = .ok (.ireturn, 1) := by decide +kernel
theorem dX4_isBetween_0 : decode cX4_isBetween 0 = .ok (.iload_n 0, 1) := by decide +kernel
theorem dX4_isBetween_1 : decode cX4_isBetween 1 = .ok (.iload_n 1, 1) := by decide +kernel
theorem dX4_isBetween_2 : decode cX4_isBetween 2 = .ok (.if_icmp .lt 12, 3) := by decide +kernel
theorem dX4_isBetween_5 : decode cX4_isBetween 5 = .ok (.iload_n 0, 1) := by decide +kernel
theorem dX4_isBetween_6 : decode cX4_isBetween 6 = .ok (.iload_n 2, 1) := by decide +kernel
theorem dX4_isBetween_7 : decode cX4_isBetween 7 = .ok (.if_icmp .gt 7, 3) := by decide +kernel
theorem dX4_isBetween_10 : decode cX4_isBetween 10 = .ok (.iconst 1, 1) := by decide +kernel
theorem dX4_isBetween_11 : decode cX4_isBetween 11 = .ok (.goto 4, 3) := by decide +kernel
theorem dX4_isBetween_14 : decode cX4_isBetween 14 = .ok (.iconst 0, 1) := by decide +kernel
theorem dX4_isBetween_15 : decode cX4_isBetween 15 = .ok (.ireturn, 1) := by decide +kernel
theorem dX4_isWard_0 : decode cX4_isWard 0 = .ok (.iload_n 0, 1) := by decide +kernel
theorem dX4_isWard_1 : decode cX4_isWard 1 = .ok (.iconst 0, 1) := by decide +kernel
theorem dX4_isWard_2 : decode cX4_isWard 2 = .ok (.iconst 3, 1) := by decide +kernel
theorem dX4_isWard_3 : decode cX4_isWard 3 = .ok (.invokestatic 41, 3) := by decide +kernel
theorem dX4_isWard_6 : decode cX4_isWard 6 = .ok (.ireturn, 1) := by decide +kernel
theorem dX4_isClause_0 : decode cX4_isClause 0 = .ok (.iload_n 0, 1) := by decide +kernel
theorem dX4_isClause_1 : decode cX4_isClause 1 = .ok (.iconst 0, 1) := by decide +kernel
theorem dX4_isClause_2 : decode cX4_isClause 2 = .ok (.bipush 63, 2) := by decide +kernel
theorem dX4_isClause_4 : decode cX4_isClause 4 = .ok (.invokestatic 41, 3) := by decide +kernel
theorem dX4_isClause_7 : decode cX4_isClause 7 = .ok (.ireturn, 1) := by decide +kernel
theorem dX4_copyRow_0 : decode cX4_copyRow 0 = .ok (.iconst 0, 1) := by decide +kernel
theorem dX4_copyRow_1 : decode cX4_copyRow 1 = .ok (.istore_n 2, 1) := by decide +kernel
theorem dX4_copyRow_2 : decode cX4_copyRow 2 = .ok (.iload_n 2, 1) := by decide +kernel
theorem dX4_copyRow_3 : decode cX4_copyRow 3 = .ok (.sipush 181, 3) := by decide +kernel
theorem dX4_copyRow_6 : decode cX4_copyRow 6 = .ok (.if_icmp .ge 15, 3) := by decide +kernel
theorem dX4_copyRow_9 : decode cX4_copyRow 9 = .ok (.aload_n 1, 1) := by decide +kernel
theorem dX4_copyRow_10 : decode cX4_copyRow 10 = .ok (.iload_n 2, 1) := by decide +kernel
theorem dX4_copyRow_11 : decode cX4_copyRow 11 = .ok (.aload_n 0, 1) := by decide +kernel
theorem dX4_copyRow_12 : decode cX4_copyRow 12 = .ok (.iload_n 2, 1) := by decide +kernel
theorem dX4_copyRow_13 : decode cX4_copyRow 13 = .ok (.iaload, 1) := by decide +kernel
theorem dX4_copyRow_14 : decode cX4_copyRow 14 = .ok (.iastore, 1) := by decide +kernel
theorem dX4_copyRow_15 : decode cX4_copyRow 15 = .ok (.iinc 2 1, 3) := by decide +kernel
theorem dX4_copyRow_18 : decode cX4_copyRow 18 = .ok (.goto (-16), 3) := by decide +kernel
theorem dX4_copyRow_21 : decode cX4_copyRow 21 = .ok (.return_, 1) := by decide +kernel
theorem dX4_fails_0 : decode cX4_fails 0 = .ok (.aload_n 0, 1) := by decide +kernel
theorem dX4_fails_1 : decode cX4_fails 1 = .ok (.iload_n 2, 1) := by decide +kernel
theorem dX4_fails_2 : decode cX4_fails 2 = .ok (.ifCond .eq 7, 3) := by decide +kernel
theorem dX4_fails_5 : decode cX4_fails 5 = .ok (.iload_n 1, 1) := by decide +kernel
theorem dX4_fails_6 : decode cX4_fails 6 = .ok (.goto 4, 3) := by decide +kernel
theorem dX4_fails_9 : decode cX4_fails 9 = .ok (.iconst 0, 1) := by decide +kernel
theorem dX4_fails_10 : decode cX4_fails 10 = .ok (.putfield 38, 3) := by decide +kernel
theorem dX4_fails_13 : decode cX4_fails 13 = .ok (.iload_n 2, 1) := by decide +kernel
theorem dX4_fails_14 : decode cX4_fails 14 = .ok (.ireturn, 1) := by decide +kernel
theorem dX4_remember_0 : decode cX4_remember 0 = .ok (.aload_n 0, 1) := by decide +kernel
theorem dX4_remember_1 : decode cX4_remember 1 = .ok (.getfield 45, 3) := by decide +kernel
theorem dX4_remember_4 : decode cX4_remember 4 = .ok (.bipush 8, 2) := by decide +kernel
theorem dX4_remember_6 : decode cX4_remember 6 = .ok (.if_icmp .ne 46, 3) := by decide +kernel
theorem dX4_remember_9 : decode cX4_remember 9 = .ok (.aload_n 0, 1) := by decide +kernel
theorem dX4_remember_10 : decode cX4_remember 10 = .ok (.dup, 1) := by decide +kernel
theorem dX4_remember_11 : decode cX4_remember 11 = .ok (.getfield 45, 3) := by decide +kernel
theorem dX4_remember_14 : decode cX4_remember 14 = .ok (.iconst 1, 1) := by decide +kernel
theorem dX4_remember_15 : decode cX4_remember 15 = .ok (.isub, 1) := by decide +kernel
theorem dX4_remember_16 : decode cX4_remember 16 = .ok (.putfield 45, 3) := by decide +kernel
theorem dX4_remember_19 : decode cX4_remember 19 = .ok (.iconst 0, 1) := by decide +kernel
theorem dX4_remember_20 : decode cX4_remember 20 = .ok (.istore_n 2, 1) := by decide +kernel
theorem dX4_remember_21 : decode cX4_remember 21 = .ok (.iload_n 2, 1) := by decide +kernel
theorem dX4_remember_22 : decode cX4_remember 22 = .ok (.aload_n 0, 1) := by decide +kernel
theorem dX4_remember_23 : decode cX4_remember 23 = .ok (.getfield 45, 3) := by decide +kernel
theorem dX4_remember_26 : decode cX4_remember 26 = .ok (.if_icmp .ge 26, 3) := by decide +kernel
theorem dX4_remember_29 : decode cX4_remember 29 = .ok (.aload_n 0, 1) := by decide +kernel
theorem dX4_remember_30 : decode cX4_remember 30 = .ok (.getfield 21, 3) := by decide +kernel
theorem dX4_remember_33 : decode cX4_remember 33 = .ok (.iload_n 2, 1) := by decide +kernel
theorem dX4_remember_34 : decode cX4_remember 34 = .ok (.iconst 1, 1) := by decide +kernel
theorem dX4_remember_35 : decode cX4_remember 35 = .ok (.iadd, 1) := by decide +kernel
theorem dX4_remember_36 : decode cX4_remember 36 = .ok (.aaload, 1) := by decide +kernel
theorem dX4_remember_37 : decode cX4_remember 37 = .ok (.aload_n 0, 1) := by decide +kernel
theorem dX4_remember_38 : decode cX4_remember 38 = .ok (.getfield 21, 3) := by decide +kernel
theorem dX4_remember_41 : decode cX4_remember 41 = .ok (.iload_n 2, 1) := by decide +kernel
theorem dX4_remember_42 : decode cX4_remember 42 = .ok (.aaload, 1) := by decide +kernel
theorem dX4_remember_43 : decode cX4_remember 43 = .ok (.invokestatic 48, 3) := by decide +kernel
theorem dX4_remember_46 : decode cX4_remember 46 = .ok (.iinc 2 1, 3) := by decide +kernel
theorem dX4_remember_49 : decode cX4_remember 49 = .ok (.goto (-28), 3) := by decide +kernel
theorem dX4_remember_52 : decode cX4_remember 52 = .ok (.aload_n 1, 1) := by decide +kernel
theorem dX4_remember_53 : decode cX4_remember 53 = .ok (.aload_n 0, 1) := by decide +kernel
theorem dX4_remember_54 : decode cX4_remember 54 = .ok (.getfield 21, 3) := by decide +kernel
theorem dX4_remember_57 : decode cX4_remember 57 = .ok (.aload_n 0, 1) := by decide +kernel
theorem dX4_remember_58 : decode cX4_remember 58 = .ok (.getfield 45, 3) := by decide +kernel
theorem dX4_remember_61 : decode cX4_remember 61 = .ok (.aaload, 1) := by decide +kernel
theorem dX4_remember_62 : decode cX4_remember 62 = .ok (.invokestatic 48, 3) := by decide +kernel
theorem dX4_remember_65 : decode cX4_remember 65 = .ok (.aload_n 0, 1) := by decide +kernel
theorem dX4_remember_66 : decode cX4_remember 66 = .ok (.dup, 1) := by decide +kernel
theorem dX4_remember_67 : decode cX4_remember 67 = .ok (.getfield 45, 3) := by decide +kernel
theorem dX4_remember_70 : decode cX4_remember 70 = .ok (.iconst 1, 1) := by decide +kernel
theorem dX4_remember_71 : decode cX4_remember 71 = .ok (.iadd, 1) := by decide +kernel
theorem dX4_remember_72 : decode cX4_remember 72 = .ok (.putfield 45, 3) := by decide +kernel
theorem dX4_remember_75 : decode cX4_remember 75 = .ok (.return_, 1) := by decide +kernel
theorem dX4_change_0 : decode cX4_change 0 = .ok (.aload_n 0, 1) := by decide +kernel
theorem dX4_change_1 : decode cX4_change 1 = .ok (.getfield 52, 3) := by decide +kernel
theorem dX4_change_4 : decode cX4_change 4 = .ok (.ifCond .ne 11, 3) := by decide +kernel
theorem dX4_change_7 : decode cX4_change 7 = .ok (.aload_n 0, 1) := by decide +kernel
theorem dX4_change_8 : decode cX4_change 8 = .ok (.aload_n 0, 1) := by decide +kernel
theorem dX4_change_9 : decode cX4_change 9 = .ok (.getfield 9, 3) := by decide +kernel
theorem dX4_change_12 : decode cX4_change 12 = .ok (.invokevirtual 56, 3) := by decide +kernel
theorem dX4_change_15 : decode cX4_change 15 = .ok (.return_, 1) := by decide +kernel
theorem dX4_isMember_0 : decode cX4_isMember 0 = .ok (.iload_n 1, 1) := by decide +kernel
theorem dX4_isMember_1 : decode cX4_isMember 1 = .ok (.iconst 0, 1) := by decide +kernel
theorem dX4_isMember_2 : decode cX4_isMember 2 = .ok (.aload_n 0, 1) := by decide +kernel
theorem dX4_isMember_3 : decode cX4_isMember 3 = .ok (.getfield 9, 3) := by decide +kernel
theorem dX4_isMember_6 : decode cX4_isMember 6 = .ok (.iconst 0, 1) := by decide +kernel
theorem dX4_isMember_7 : decode cX4_isMember 7 = .ok (.iaload, 1) := by decide +kernel
theorem dX4_isMember_8 : decode cX4_isMember 8 = .ok (.iconst 1, 1) := by decide +kernel
theorem dX4_isMember_9 : decode cX4_isMember 9 = .ok (.isub, 1) := by decide +kernel
theorem dX4_isMember_10 : decode cX4_isMember 10 = .ok (.invokestatic 41, 3) := by decide +kernel
theorem dX4_isMember_13 : decode cX4_isMember 13 = .ok (.ireturn, 1) := by decide +kernel
theorem dX4_ofMember_0 : decode cX4_ofMember 0 = .ok (.aload_n 0, 1) := by decide +kernel
theorem dX4_ofMember_1 : decode cX4_ofMember 1 = .ok (.getfield 9, 3) := by decide +kernel
theorem dX4_ofMember_4 : decode cX4_ofMember 4 = .ok (.iconst 5, 1) := by decide +kernel
theorem dX4_ofMember_5 : decode cX4_ofMember 5 = .ok (.iconst 2, 1) := by decide +kernel
theorem dX4_ofMember_6 : decode cX4_ofMember 6 = .ok (.iload_n 1, 1) := by decide +kernel
theorem dX4_ofMember_7 : decode cX4_ofMember 7 = .ok (.imul, 1) := by decide +kernel
theorem dX4_ofMember_8 : decode cX4_ofMember 8 = .ok (.iadd, 1) := by decide +kernel
theorem dX4_ofMember_9 : decode cX4_ofMember 9 = .ok (.iload_n 2, 1) := by decide +kernel
theorem dX4_ofMember_10 : decode cX4_ofMember 10 = .ok (.iadd, 1) := by decide +kernel
theorem dX4_ofMember_11 : decode cX4_ofMember 11 = .ok (.iaload, 1) := by decide +kernel
theorem dX4_ofMember_12 : decode cX4_ofMember 12 = .ok (.ireturn, 1) := by decide +kernel
theorem dX4_present_0 : decode cX4_present 0 = .ok (.aload_n 0, 1) := by decide +kernel
theorem dX4_present_1 : decode cX4_present 1 = .ok (.getfield 9, 3) := by decide +kernel
theorem dX4_present_4 : decode cX4_present 4 = .ok (.iconst 2, 1) := by decide +kernel
theorem dX4_present_5 : decode cX4_present 5 = .ok (.iaload, 1) := by decide +kernel
theorem dX4_present_6 : decode cX4_present 6 = .ok (.iload_n 1, 1) := by decide +kernel
theorem dX4_present_7 : decode cX4_present 7 = .ok (.ishr, 1) := by decide +kernel
theorem dX4_present_8 : decode cX4_present 8 = .ok (.iconst 1, 1) := by decide +kernel
theorem dX4_present_9 : decode cX4_present 9 = .ok (.iand, 1) := by decide +kernel
theorem dX4_present_10 : decode cX4_present 10 = .ok (.iconst 1, 1) := by decide +kernel
theorem dX4_present_11 : decode cX4_present 11 = .ok (.if_icmp .ne 7, 3) := by decide +kernel
theorem dX4_present_14 : decode cX4_present 14 = .ok (.iconst 1, 1) := by decide +kernel
theorem dX4_present_15 : decode cX4_present 15 = .ok (.goto 4, 3) := by decide +kernel
theorem dX4_present_18 : decode cX4_present 18 = .ok (.iconst 0, 1) := by decide +kernel
theorem dX4_present_19 : decode cX4_present 19 = .ok (.ireturn, 1) := by decide +kernel
theorem dX4_weigh_0 : decode cX4_weigh 0 = .ok (.iconst 0, 1) := by decide +kernel
theorem dX4_weigh_1 : decode cX4_weigh 1 = .ok (.istore_n 2, 1) := by decide +kernel
theorem dX4_weigh_2 : decode cX4_weigh 2 = .ok (.iconst 0, 1) := by decide +kernel
theorem dX4_weigh_3 : decode cX4_weigh 3 = .ok (.istore_n 3, 1) := by decide +kernel
theorem dX4_weigh_4 : decode cX4_weigh 4 = .ok (.iload_n 3, 1) := by decide +kernel
theorem dX4_weigh_5 : decode cX4_weigh 5 = .ok (.aload_n 0, 1) := by decide +kernel
theorem dX4_weigh_6 : decode cX4_weigh 6 = .ok (.getfield 9, 3) := by decide +kernel
theorem dX4_weigh_9 : decode cX4_weigh 9 = .ok (.iconst 0, 1) := by decide +kernel
theorem dX4_weigh_10 : decode cX4_weigh 10 = .ok (.iaload, 1) := by decide +kernel
theorem dX4_weigh_11 : decode cX4_weigh 11 = .ok (.if_icmp .ge 31, 3) := by decide +kernel
theorem dX4_weigh_14 : decode cX4_weigh 14 = .ok (.iload_n 2, 1) := by decide +kernel
theorem dX4_weigh_15 : decode cX4_weigh 15 = .ok (.iload_n 1, 1) := by decide +kernel
theorem dX4_weigh_16 : decode cX4_weigh 16 = .ok (.iload_n 3, 1) := by decide +kernel
theorem dX4_weigh_17 : decode cX4_weigh 17 = .ok (.ishr, 1) := by decide +kernel
theorem dX4_weigh_18 : decode cX4_weigh 18 = .ok (.iconst 1, 1) := by decide +kernel
theorem dX4_weigh_19 : decode cX4_weigh 19 = .ok (.iand, 1) := by decide +kernel
theorem dX4_weigh_20 : decode cX4_weigh 20 = .ok (.iconst 1, 1) := by decide +kernel
theorem dX4_weigh_21 : decode cX4_weigh 21 = .ok (.if_icmp .ne 12, 3) := by decide +kernel
theorem dX4_weigh_24 : decode cX4_weigh 24 = .ok (.aload_n 0, 1) := by decide +kernel
theorem dX4_weigh_25 : decode cX4_weigh 25 = .ok (.iload_n 3, 1) := by decide +kernel
theorem dX4_weigh_26 : decode cX4_weigh 26 = .ok (.iconst 1, 1) := by decide +kernel
theorem dX4_weigh_27 : decode cX4_weigh 27 = .ok (.invokevirtual 60, 3) := by decide +kernel
theorem dX4_weigh_30 : decode cX4_weigh 30 = .ok (.goto 4, 3) := by decide +kernel
theorem dX4_weigh_33 : decode cX4_weigh 33 = .ok (.iconst 0, 1) := by decide +kernel
theorem dX4_weigh_34 : decode cX4_weigh 34 = .ok (.iadd, 1) := by decide +kernel
theorem dX4_weigh_35 : decode cX4_weigh 35 = .ok (.istore_n 2, 1) := by decide +kernel
theorem dX4_weigh_36 : decode cX4_weigh 36 = .ok (.iinc 3 1, 3) := by decide +kernel
theorem dX4_weigh_39 : decode cX4_weigh 39 = .ok (.goto (-35), 3) := by decide +kernel
theorem dX4_weigh_42 : decode cX4_weigh 42 = .ok (.iload_n 2, 1) := by decide +kernel
theorem dX4_weigh_43 : decode cX4_weigh 43 = .ok (.ireturn, 1) := by decide +kernel
theorem dX4_quorate_0 : decode cX4_quorate 0 = .ok (.aload_n 0, 1) := by decide +kernel
theorem dX4_quorate_1 : decode cX4_quorate 1 = .ok (.getfield 9, 3) := by decide +kernel
theorem dX4_quorate_4 : decode cX4_quorate 4 = .ok (.iconst 2, 1) := by decide +kernel
theorem dX4_quorate_5 : decode cX4_quorate 5 = .ok (.iaload, 1) := by decide +kernel
theorem dX4_quorate_6 : decode cX4_quorate 6 = .ok (.invokestatic 64, 3) := by decide +kernel
theorem dX4_quorate_9 : decode cX4_quorate 9 = .ok (.aload_n 0, 1) := by decide +kernel
theorem dX4_quorate_10 : decode cX4_quorate 10 = .ok (.getfield 9, 3) := by decide +kernel
theorem dX4_quorate_13 : decode cX4_quorate 13 = .ok (.iconst 3, 1) := by decide +kernel
theorem dX4_quorate_14 : decode cX4_quorate 14 = .ok (.iaload, 1) := by decide +kernel
theorem dX4_quorate_15 : decode cX4_quorate 15 = .ok (.if_icmp .lt 7, 3) := by decide +kernel
theorem dX4_quorate_18 : decode cX4_quorate 18 = .ok (.iconst 1, 1) := by decide +kernel
theorem dX4_quorate_19 : decode cX4_quorate 19 = .ok (.goto 4, 3) := by decide +kernel
theorem dX4_quorate_22 : decode cX4_quorate 22 = .ok (.iconst 0, 1) := by decide +kernel
theorem dX4_quorate_23 : decode cX4_quorate 23 = .ok (.ireturn, 1) := by decide +kernel
theorem dX4_addMember_0 : decode cX4_addMember 0 = .ok (.aload_n 0, 1) := by decide +kernel
theorem dX4_addMember_1 : decode cX4_addMember 1 = .ok (.iconst 1, 1) := by decide +kernel
theorem dX4_addMember_2 : decode cX4_addMember 2 = .ok (.iload_n 1, 1) := by decide +kernel
theorem dX4_addMember_3 : decode cX4_addMember 3 = .ok (.invokestatic 70, 3) := by decide +kernel
theorem dX4_addMember_6 : decode cX4_addMember 6 = .ok (.ifCond .ne 7, 3) := by decide +kernel
theorem dX4_addMember_9 : decode cX4_addMember 9 = .ok (.iconst 1, 1) := by decide +kernel
theorem dX4_addMember_10 : decode cX4_addMember 10 = .ok (.goto 4, 3) := by decide +kernel
theorem dX4_addMember_13 : decode cX4_addMember 13 = .ok (.iconst 0, 1) := by decide +kernel
theorem dX4_addMember_14 : decode cX4_addMember 14 = .ok (.invokevirtual 74, 3) := by decide +kernel
theorem dX4_addMember_17 : decode cX4_addMember 17 = .ok (.ifCond .ne 50, 3) := by decide +kernel
theorem dX4_addMember_20 : decode cX4_addMember 20 = .ok (.aload_n 0, 1) := by decide +kernel
theorem dX4_addMember_21 : decode cX4_addMember 21 = .ok (.iconst 2, 1) := by decide +kernel
theorem dX4_addMember_22 : decode cX4_addMember 22 = .ok (.iload_n 2, 1) := by decide +kernel
theorem dX4_addMember_23 : decode cX4_addMember 23 = .ok (.iconst 1, 1) := by decide +kernel
theorem dX4_addMember_24 : decode cX4_addMember 24 = .ok (.bipush 7, 2) := by decide +kernel
theorem dX4_addMember_26 : decode cX4_addMember 26 = .ok (.invokestatic 41, 3) := by decide +kernel
theorem dX4_addMember_29 : decode cX4_addMember 29 = .ok (.ifCond .ne 7, 3) := by decide +kernel
theorem dX4_addMember_32 : decode cX4_addMember 32 = .ok (.iconst 1, 1) := by decide +kernel
theorem dX4_addMember_33 : decode cX4_addMember 33 = .ok (.goto 4, 3) := by decide +kernel
theorem dX4_addMember_36 : decode cX4_addMember 36 = .ok (.iconst 0, 1) := by decide +kernel
theorem dX4_addMember_37 : decode cX4_addMember 37 = .ok (.invokevirtual 74, 3) := by decide +kernel
theorem dX4_addMember_40 : decode cX4_addMember 40 = .ok (.ifCond .ne 27, 3) := by decide +kernel
theorem dX4_addMember_43 : decode cX4_addMember 43 = .ok (.aload_n 0, 1) := by decide +kernel
theorem dX4_addMember_44 : decode cX4_addMember 44 = .ok (.iconst 3, 1) := by decide +kernel
theorem dX4_addMember_45 : decode cX4_addMember 45 = .ok (.aload_n 0, 1) := by decide +kernel
theorem dX4_addMember_46 : decode cX4_addMember 46 = .ok (.getfield 9, 3) := by decide +kernel
theorem dX4_addMember_49 : decode cX4_addMember 49 = .ok (.iconst 0, 1) := by decide +kernel
theorem dX4_addMember_50 : decode cX4_addMember 50 = .ok (.iaload, 1) := by decide +kernel
theorem dX4_addMember_51 : decode cX4_addMember 51 = .ok (.bipush 24, 2) := by decide +kernel
theorem dX4_addMember_53 : decode cX4_addMember 53 = .ok (.if_icmp .ne 7, 3) := by decide +kernel
theorem dX4_addMember_56 : decode cX4_addMember 56 = .ok (.iconst 1, 1) := by decide +kernel
theorem dX4_addMember_57 : decode cX4_addMember 57 = .ok (.goto 4, 3) := by decide +kernel
theorem dX4_addMember_60 : decode cX4_addMember 60 = .ok (.iconst 0, 1) := by decide +kernel
theorem dX4_addMember_61 : decode cX4_addMember 61 = .ok (.invokevirtual 74, 3) := by decide +kernel
theorem dX4_addMember_64 : decode cX4_addMember 64 = .ok (.ifCond .eq 5, 3) := by decide +kernel
theorem dX4_addMember_67 : decode cX4_addMember 67 = .ok (.iconst 0, 1) := by decide +kernel
theorem dX4_addMember_68 : decode cX4_addMember 68 = .ok (.ireturn, 1) := by decide +kernel
theorem dX4_addMember_69 : decode cX4_addMember 69 = .ok (.aload_n 0, 1) := by decide +kernel
theorem dX4_addMember_70 : decode cX4_addMember 70 = .ok (.invokevirtual 78, 3) := by decide +kernel
theorem dX4_addMember_73 : decode cX4_addMember 73 = .ok (.aload_n 0, 1) := by decide +kernel
theorem dX4_addMember_74 : decode cX4_addMember 74 = .ok (.getfield 9, 3) := by decide +kernel
theorem dX4_addMember_77 : decode cX4_addMember 77 = .ok (.iconst 0, 1) := by decide +kernel
theorem dX4_addMember_78 : decode cX4_addMember 78 = .ok (.iaload, 1) := by decide +kernel
theorem dX4_addMember_79 : decode cX4_addMember 79 = .ok (.istore_n 3, 1) := by decide +kernel
theorem dX4_addMember_80 : decode cX4_addMember 80 = .ok (.aload_n 0, 1) := by decide +kernel
theorem dX4_addMember_81 : decode cX4_addMember 81 = .ok (.getfield 9, 3) := by decide +kernel
theorem dX4_addMember_84 : decode cX4_addMember 84 = .ok (.iconst 0, 1) := by decide +kernel
theorem dX4_addMember_85 : decode cX4_addMember 85 = .ok (.dup2, 1) := by decide +kernel
theorem dX4_addMember_86 : decode cX4_addMember 86 = .ok (.iaload, 1) := by decide +kernel
theorem dX4_addMember_87 : decode cX4_addMember 87 = .ok (.iconst 1, 1) := by decide +kernel
theorem dX4_addMember_88 : decode cX4_addMember 88 = .ok (.iadd, 1) := by decide +kernel
theorem dX4_addMember_89 : decode cX4_addMember 89 = .ok (.iastore, 1) := by decide +kernel
theorem dX4_addMember_90 : decode cX4_addMember 90 = .ok (.aload_n 0, 1) := by decide +kernel
theorem dX4_addMember_91 : decode cX4_addMember 91 = .ok (.getfield 9, 3) := by decide +kernel
theorem dX4_addMember_94 : decode cX4_addMember 94 = .ok (.iconst 5, 1) := by decide +kernel
theorem dX4_addMember_95 : decode cX4_addMember 95 = .ok (.iconst 2, 1) := by decide +kernel
theorem dX4_addMember_96 : decode cX4_addMember 96 = .ok (.iload_n 3, 1) := by decide +kernel
theorem dX4_addMember_97 : decode cX4_addMember 97 = .ok (.imul, 1) := by decide +kernel
theorem dX4_addMember_98 : decode cX4_addMember 98 = .ok (.iadd, 1) := by decide +kernel
theorem dX4_addMember_99 : decode cX4_addMember 99 = .ok (.iconst 0, 1) := by decide +kernel
theorem dX4_addMember_100 : decode cX4_addMember 100 = .ok (.iadd, 1) := by decide +kernel
theorem dX4_addMember_101 : decode cX4_addMember 101 = .ok (.iload_n 1, 1) := by decide +kernel
theorem dX4_addMember_102 : decode cX4_addMember 102 = .ok (.iastore, 1) := by decide +kernel
theorem dX4_addMember_103 : decode cX4_addMember 103 = .ok (.aload_n 0, 1) := by decide +kernel
theorem dX4_addMember_104 : decode cX4_addMember 104 = .ok (.getfield 9, 3) := by decide +kernel
theorem dX4_addMember_107 : decode cX4_addMember 107 = .ok (.iconst 5, 1) := by decide +kernel
theorem dX4_addMember_108 : decode cX4_addMember 108 = .ok (.iconst 2, 1) := by decide +kernel
theorem dX4_addMember_109 : decode cX4_addMember 109 = .ok (.iload_n 3, 1) := by decide +kernel
theorem dX4_addMember_110 : decode cX4_addMember 110 = .ok (.imul, 1) := by decide +kernel
theorem dX4_addMember_111 : decode cX4_addMember 111 = .ok (.iadd, 1) := by decide +kernel
theorem dX4_addMember_112 : decode cX4_addMember 112 = .ok (.iconst 1, 1) := by decide +kernel
theorem dX4_addMember_113 : decode cX4_addMember 113 = .ok (.iadd, 1) := by decide +kernel
theorem dX4_addMember_114 : decode cX4_addMember 114 = .ok (.iload_n 2, 1) := by decide +kernel
theorem dX4_addMember_115 : decode cX4_addMember 115 = .ok (.iastore, 1) := by decide +kernel
theorem dX4_addMember_116 : decode cX4_addMember 116 = .ok (.iload_n 3, 1) := by decide +kernel
theorem dX4_addMember_117 : decode cX4_addMember 117 = .ok (.ireturn, 1) := by decide +kernel
theorem dX4_enter_0 : decode cX4_enter 0 = .ok (.aload_n 0, 1) := by decide +kernel
theorem dX4_enter_1 : decode cX4_enter 1 = .ok (.iconst 1, 1) := by decide +kernel
theorem dX4_enter_2 : decode cX4_enter 2 = .ok (.aload_n 0, 1) := by decide +kernel
theorem dX4_enter_3 : decode cX4_enter 3 = .ok (.iload_n 1, 1) := by decide +kernel
theorem dX4_enter_4 : decode cX4_enter 4 = .ok (.invokevirtual 81, 3) := by decide +kernel
theorem dX4_enter_7 : decode cX4_enter 7 = .ok (.ifCond .ne 7, 3) := by decide +kernel
theorem dX4_enter_10 : decode cX4_enter 10 = .ok (.iconst 1, 1) := by decide +kernel
theorem dX4_enter_11 : decode cX4_enter 11 = .ok (.goto 4, 3) := by decide +kernel
theorem dX4_enter_14 : decode cX4_enter 14 = .ok (.iconst 0, 1) := by decide +kernel
theorem dX4_enter_15 : decode cX4_enter 15 = .ok (.invokevirtual 74, 3) := by decide +kernel
theorem dX4_enter_18 : decode cX4_enter 18 = .ok (.ifCond .ne 16, 3) := by decide +kernel
theorem dX4_enter_21 : decode cX4_enter 21 = .ok (.aload_n 0, 1) := by decide +kernel
theorem dX4_enter_22 : decode cX4_enter 22 = .ok (.iconst 2, 1) := by decide +kernel
theorem dX4_enter_23 : decode cX4_enter 23 = .ok (.aload_n 0, 1) := by decide +kernel
theorem dX4_enter_24 : decode cX4_enter 24 = .ok (.iload_n 1, 1) := by decide +kernel
theorem dX4_enter_25 : decode cX4_enter 25 = .ok (.invokevirtual 84, 3) := by decide +kernel
theorem dX4_enter_28 : decode cX4_enter 28 = .ok (.invokevirtual 74, 3) := by decide +kernel
theorem dX4_enter_31 : decode cX4_enter 31 = .ok (.ifCond .eq 5, 3) := by decide +kernel
theorem dX4_enter_34 : decode cX4_enter 34 = .ok (.iconst 0, 1) := by decide +kernel
theorem dX4_enter_35 : decode cX4_enter 35 = .ok (.ireturn, 1) := by decide +kernel
theorem dX4_enter_36 : decode cX4_enter 36 = .ok (.aload_n 0, 1) := by decide +kernel
theorem dX4_enter_37 : decode cX4_enter 37 = .ok (.invokevirtual 78, 3) := by decide +kernel
theorem dX4_enter_40 : decode cX4_enter 40 = .ok (.aload_n 0, 1) := by decide +kernel
theorem dX4_enter_41 : decode cX4_enter 41 = .ok (.getfield 9, 3) := by decide +kernel
theorem dX4_enter_44 : decode cX4_enter 44 = .ok (.iconst 2, 1) := by decide +kernel
theorem dX4_enter_45 : decode cX4_enter 45 = .ok (.dup2, 1) := by decide +kernel
theorem dX4_enter_46 : decode cX4_enter 46 = .ok (.iaload, 1) := by decide +kernel
theorem dX4_enter_47 : decode cX4_enter 47 = .ok (.iconst 1, 1) := by decide +kernel
theorem dX4_enter_48 : decode cX4_enter 48 = .ok (.iload_n 1, 1) := by decide +kernel
theorem dX4_enter_49 : decode cX4_enter 49 = .ok (.ishl, 1) := by decide +kernel
theorem dX4_enter_50 : decode cX4_enter 50 = .ok (.ior, 1) := by decide +kernel
theorem dX4_enter_51 : decode cX4_enter 51 = .ok (.iastore, 1) := by decide +kernel
theorem dX4_enter_52 : decode cX4_enter 52 = .ok (.aload_n 0, 1) := by decide +kernel
theorem dX4_enter_53 : decode cX4_enter 53 = .ok (.getfield 9, 3) := by decide +kernel
theorem dX4_enter_56 : decode cX4_enter 56 = .ok (.iconst 2, 1) := by decide +kernel
theorem dX4_enter_57 : decode cX4_enter 57 = .ok (.iaload, 1) := by decide +kernel
theorem dX4_enter_58 : decode cX4_enter 58 = .ok (.invokestatic 64, 3) := by decide +kernel
theorem dX4_enter_61 : decode cX4_enter 61 = .ok (.ireturn, 1) := by decide +kernel
theorem dX4_leave_0 : decode cX4_leave 0 = .ok (.aload_n 0, 1) := by decide +kernel
theorem dX4_leave_1 : decode cX4_leave 1 = .ok (.iconst 1, 1) := by decide +kernel
theorem dX4_leave_2 : decode cX4_leave 2 = .ok (.aload_n 0, 1) := by decide +kernel
theorem dX4_leave_3 : decode cX4_leave 3 = .ok (.iload_n 1, 1) := by decide +kernel
theorem dX4_leave_4 : decode cX4_leave 4 = .ok (.invokevirtual 81, 3) := by decide +kernel
theorem dX4_leave_7 : decode cX4_leave 7 = .ok (.ifCond .ne 7, 3) := by decide +kernel
theorem dX4_leave_10 : decode cX4_leave 10 = .ok (.iconst 1, 1) := by decide +kernel
theorem dX4_leave_11 : decode cX4_leave 11 = .ok (.goto 4, 3) := by decide +kernel
theorem dX4_leave_14 : decode cX4_leave 14 = .ok (.iconst 0, 1) := by decide +kernel
theorem dX4_leave_15 : decode cX4_leave 15 = .ok (.invokevirtual 74, 3) := by decide +kernel
theorem dX4_leave_18 : decode cX4_leave 18 = .ok (.ifCond .ne 24, 3) := by decide +kernel
theorem dX4_leave_21 : decode cX4_leave 21 = .ok (.aload_n 0, 1) := by decide +kernel
theorem dX4_leave_22 : decode cX4_leave 22 = .ok (.iconst 2, 1) := by decide +kernel
theorem dX4_leave_23 : decode cX4_leave 23 = .ok (.aload_n 0, 1) := by decide +kernel
theorem dX4_leave_24 : decode cX4_leave 24 = .ok (.iload_n 1, 1) := by decide +kernel
theorem dX4_leave_25 : decode cX4_leave 25 = .ok (.invokevirtual 84, 3) := by decide +kernel
theorem dX4_leave_28 : decode cX4_leave 28 = .ok (.ifCond .ne 7, 3) := by decide +kernel
theorem dX4_leave_31 : decode cX4_leave 31 = .ok (.iconst 1, 1) := by decide +kernel
theorem dX4_leave_32 : decode cX4_leave 32 = .ok (.goto 4, 3) := by decide +kernel
theorem dX4_leave_35 : decode cX4_leave 35 = .ok (.iconst 0, 1) := by decide +kernel
theorem dX4_leave_36 : decode cX4_leave 36 = .ok (.invokevirtual 74, 3) := by decide +kernel
theorem dX4_leave_39 : decode cX4_leave 39 = .ok (.ifCond .eq 5, 3) := by decide +kernel
theorem dX4_leave_42 : decode cX4_leave 42 = .ok (.iconst 0, 1) := by decide +kernel
theorem dX4_leave_43 : decode cX4_leave 43 = .ok (.ireturn, 1) := by decide +kernel
theorem dX4_leave_44 : decode cX4_leave 44 = .ok (.aload_n 0, 1) := by decide +kernel
theorem dX4_leave_45 : decode cX4_leave 45 = .ok (.invokevirtual 78, 3) := by decide +kernel
theorem dX4_leave_48 : decode cX4_leave 48 = .ok (.aload_n 0, 1) := by decide +kernel
theorem dX4_leave_49 : decode cX4_leave 49 = .ok (.getfield 9, 3) := by decide +kernel
theorem dX4_leave_52 : decode cX4_leave 52 = .ok (.iconst 2, 1) := by decide +kernel
theorem dX4_leave_53 : decode cX4_leave 53 = .ok (.dup2, 1) := by decide +kernel
theorem dX4_leave_54 : decode cX4_leave 54 = .ok (.iaload, 1) := by decide +kernel
theorem dX4_leave_55 : decode cX4_leave 55 = .ok (.iconst 1, 1) := by decide +kernel
theorem dX4_leave_56 : decode cX4_leave 56 = .ok (.iload_n 1, 1) := by decide +kernel
theorem dX4_leave_57 : decode cX4_leave 57 = .ok (.ishl, 1) := by decide +kernel
theorem dX4_leave_58 : decode cX4_leave 58 = .ok (.iconst (-1), 1) := by decide +kernel
theorem dX4_leave_59 : decode cX4_leave 59 = .ok (.ixor, 1) := by decide +kernel
theorem dX4_leave_60 : decode cX4_leave 60 = .ok (.iand, 1) := by decide +kernel
theorem dX4_leave_61 : decode cX4_leave 61 = .ok (.iastore, 1) := by decide +kernel
theorem dX4_leave_62 : decode cX4_leave 62 = .ok (.aload_n 0, 1) := by decide +kernel
theorem dX4_leave_63 : decode cX4_leave 63 = .ok (.getfield 9, 3) := by decide +kernel
theorem dX4_leave_66 : decode cX4_leave 66 = .ok (.iconst 2, 1) := by decide +kernel
theorem dX4_leave_67 : decode cX4_leave 67 = .ok (.iaload, 1) := by decide +kernel
theorem dX4_leave_68 : decode cX4_leave 68 = .ok (.invokestatic 64, 3) := by decide +kernel
theorem dX4_leave_71 : decode cX4_leave 71 = .ok (.ireturn, 1) := by decide +kernel
theorem dX4_setQuorum_0 : decode cX4_setQuorum 0 = .ok (.aload_n 0, 1) := by decide +kernel
theorem dX4_setQuorum_1 : decode cX4_setQuorum 1 = .ok (.iconst 1, 1) := by decide +kernel
theorem dX4_setQuorum_2 : decode cX4_setQuorum 2 = .ok (.iload_n 1, 1) := by decide +kernel
theorem dX4_setQuorum_3 : decode cX4_setQuorum 3 = .ok (.iconst 1, 1) := by decide +kernel
theorem dX4_setQuorum_4 : decode cX4_setQuorum 4 = .ok (.bipush 24, 2) := by decide +kernel
theorem dX4_setQuorum_6 : decode cX4_setQuorum 6 = .ok (.invokestatic 41, 3) := by decide +kernel
theorem dX4_setQuorum_9 : decode cX4_setQuorum 9 = .ok (.ifCond .ne 7, 3) := by decide +kernel
theorem dX4_setQuorum_12 : decode cX4_setQuorum 12 = .ok (.iconst 1, 1) := by decide +kernel
theorem dX4_setQuorum_13 : decode cX4_setQuorum 13 = .ok (.goto 4, 3) := by decide +kernel
theorem dX4_setQuorum_16 : decode cX4_setQuorum 16 = .ok (.iconst 0, 1) := by decide +kernel
theorem dX4_setQuorum_17 : decode cX4_setQuorum 17 = .ok (.invokevirtual 74, 3) := by decide +kernel
theorem dX4_setQuorum_20 : decode cX4_setQuorum 20 = .ok (.ifCond .eq 5, 3) := by decide +kernel
theorem dX4_setQuorum_23 : decode cX4_setQuorum 23 = .ok (.iconst 0, 1) := by decide +kernel
theorem dX4_setQuorum_24 : decode cX4_setQuorum 24 = .ok (.ireturn, 1) := by decide +kernel
theorem dX4_setQuorum_25 : decode cX4_setQuorum 25 = .ok (.aload_n 0, 1) := by decide +kernel
theorem dX4_setQuorum_26 : decode cX4_setQuorum 26 = .ok (.invokevirtual 78, 3) := by decide +kernel
theorem dX4_setQuorum_29 : decode cX4_setQuorum 29 = .ok (.aload_n 0, 1) := by decide +kernel
theorem dX4_setQuorum_30 : decode cX4_setQuorum 30 = .ok (.getfield 9, 3) := by decide +kernel
theorem dX4_setQuorum_33 : decode cX4_setQuorum 33 = .ok (.iconst 3, 1) := by decide +kernel
theorem dX4_setQuorum_34 : decode cX4_setQuorum 34 = .ok (.iaload, 1) := by decide +kernel
theorem dX4_setQuorum_35 : decode cX4_setQuorum 35 = .ok (.istore_n 2, 1) := by decide +kernel
theorem dX4_setQuorum_36 : decode cX4_setQuorum 36 = .ok (.aload_n 0, 1) := by decide +kernel
theorem dX4_setQuorum_37 : decode cX4_setQuorum 37 = .ok (.getfield 9, 3) := by decide +kernel
theorem dX4_setQuorum_40 : decode cX4_setQuorum 40 = .ok (.iconst 3, 1) := by decide +kernel
theorem dX4_setQuorum_41 : decode cX4_setQuorum 41 = .ok (.iload_n 1, 1) := by decide +kernel
theorem dX4_setQuorum_42 : decode cX4_setQuorum 42 = .ok (.iastore, 1) := by decide +kernel
theorem dX4_setQuorum_43 : decode cX4_setQuorum 43 = .ok (.iload_n 2, 1) := by decide +kernel
theorem dX4_setQuorum_44 : decode cX4_setQuorum 44 = .ok (.ireturn, 1) := by decide +kernel
theorem dX4_memberCount_0 : decode cX4_memberCount 0 = .ok (.aload_n 0, 1) := by decide +kernel
theorem dX4_memberCount_1 : decode cX4_memberCount 1 = .ok (.iconst 0, 1) := by decide +kernel
theorem dX4_memberCount_2 : decode cX4_memberCount 2 = .ok (.putfield 38, 3) := by decide +kernel
theorem dX4_memberCount_5 : decode cX4_memberCount 5 = .ok (.aload_n 0, 1) := by decide +kernel
theorem dX4_memberCount_6 : decode cX4_memberCount 6 = .ok (.getfield 9, 3) := by decide +kernel
theorem dX4_memberCount_9 : decode cX4_memberCount 9 = .ok (.iconst 0, 1) := by decide +kernel
theorem dX4_memberCount_10 : decode cX4_memberCount 10 = .ok (.iaload, 1) := by decide +kernel
theorem dX4_memberCount_11 : decode cX4_memberCount 11 = .ok (.ireturn, 1) := by decide +kernel
theorem dX4_wardOf_0 : decode cX4_wardOf 0 = .ok (.aload_n 0, 1) := by decide +kernel
theorem dX4_wardOf_1 : decode cX4_wardOf 1 = .ok (.iconst 1, 1) := by decide +kernel
theorem dX4_wardOf_2 : decode cX4_wardOf 2 = .ok (.aload_n 0, 1) := by decide +kernel
theorem dX4_wardOf_3 : decode cX4_wardOf 3 = .ok (.iload_n 1, 1) := by decide +kernel
theorem dX4_wardOf_4 : decode cX4_wardOf 4 = .ok (.invokevirtual 81, 3) := by decide +kernel
theorem dX4_wardOf_7 : decode cX4_wardOf 7 = .ok (.ifCond .ne 7, 3) := by decide +kernel
theorem dX4_wardOf_10 : decode cX4_wardOf 10 = .ok (.iconst 1, 1) := by decide +kernel
theorem dX4_wardOf_11 : decode cX4_wardOf 11 = .ok (.goto 4, 3) := by decide +kernel
theorem dX4_wardOf_14 : decode cX4_wardOf 14 = .ok (.iconst 0, 1) := by decide +kernel
theorem dX4_wardOf_15 : decode cX4_wardOf 15 = .ok (.invokevirtual 74, 3) := by decide +kernel
theorem dX4_wardOf_18 : decode cX4_wardOf 18 = .ok (.ifCond .eq 7, 3) := by decide +kernel
theorem dX4_wardOf_21 : decode cX4_wardOf 21 = .ok (.iconst 0, 1) := by decide +kernel
theorem dX4_wardOf_22 : decode cX4_wardOf 22 = .ok (.goto 9, 3) := by decide +kernel
theorem dX4_wardOf_25 : decode cX4_wardOf 25 = .ok (.aload_n 0, 1) := by decide +kernel
theorem dX4_wardOf_26 : decode cX4_wardOf 26 = .ok (.iload_n 1, 1) := by decide +kernel
theorem dX4_wardOf_27 : decode cX4_wardOf 27 = .ok (.iconst 0, 1) := by decide +kernel
theorem dX4_wardOf_28 : decode cX4_wardOf 28 = .ok (.invokevirtual 60, 3) := by decide +kernel
theorem dX4_wardOf_31 : decode cX4_wardOf 31 = .ok (.ireturn, 1) := by decide +kernel
theorem dX4_weightOf_0 : decode cX4_weightOf 0 = .ok (.aload_n 0, 1) := by decide +kernel
theorem dX4_weightOf_1 : decode cX4_weightOf 1 = .ok (.iconst 1, 1) := by decide +kernel
theorem dX4_weightOf_2 : decode cX4_weightOf 2 = .ok (.aload_n 0, 1) := by decide +kernel
theorem dX4_weightOf_3 : decode cX4_weightOf 3 = .ok (.iload_n 1, 1) := by decide +kernel
theorem dX4_weightOf_4 : decode cX4_weightOf 4 = .ok (.invokevirtual 81, 3) := by decide +kernel
theorem dX4_weightOf_7 : decode cX4_weightOf 7 = .ok (.ifCond .ne 7, 3) := by decide +kernel
theorem dX4_weightOf_10 : decode cX4_weightOf 10 = .ok (.iconst 1, 1) := by decide +kernel
theorem dX4_weightOf_11 : decode cX4_weightOf 11 = .ok (.goto 4, 3) := by decide +kernel
theorem dX4_weightOf_14 : decode cX4_weightOf 14 = .ok (.iconst 0, 1) := by decide +kernel
theorem dX4_weightOf_15 : decode cX4_weightOf 15 = .ok (.invokevirtual 74, 3) := by decide +kernel
theorem dX4_weightOf_18 : decode cX4_weightOf 18 = .ok (.ifCond .eq 7, 3) := by decide +kernel
theorem dX4_weightOf_21 : decode cX4_weightOf 21 = .ok (.iconst 0, 1) := by decide +kernel
theorem dX4_weightOf_22 : decode cX4_weightOf 22 = .ok (.goto 9, 3) := by decide +kernel
theorem dX4_weightOf_25 : decode cX4_weightOf 25 = .ok (.aload_n 0, 1) := by decide +kernel
theorem dX4_weightOf_26 : decode cX4_weightOf 26 = .ok (.iload_n 1, 1) := by decide +kernel
theorem dX4_weightOf_27 : decode cX4_weightOf 27 = .ok (.iconst 1, 1) := by decide +kernel
theorem dX4_weightOf_28 : decode cX4_weightOf 28 = .ok (.invokevirtual 60, 3) := by decide +kernel
theorem dX4_weightOf_31 : decode cX4_weightOf 31 = .ok (.ireturn, 1) := by decide +kernel
theorem dX4_isPresent_0 : decode cX4_isPresent 0 = .ok (.aload_n 0, 1) := by decide +kernel
theorem dX4_isPresent_1 : decode cX4_isPresent 1 = .ok (.iconst 1, 1) := by decide +kernel
theorem dX4_isPresent_2 : decode cX4_isPresent 2 = .ok (.aload_n 0, 1) := by decide +kernel
theorem dX4_isPresent_3 : decode cX4_isPresent 3 = .ok (.iload_n 1, 1) := by decide +kernel
theorem dX4_isPresent_4 : decode cX4_isPresent 4 = .ok (.invokevirtual 81, 3) := by decide +kernel
theorem dX4_isPresent_7 : decode cX4_isPresent 7 = .ok (.ifCond .ne 7, 3) := by decide +kernel
theorem dX4_isPresent_10 : decode cX4_isPresent 10 = .ok (.iconst 1, 1) := by decide +kernel
theorem dX4_isPresent_11 : decode cX4_isPresent 11 = .ok (.goto 4, 3) := by decide +kernel
theorem dX4_isPresent_14 : decode cX4_isPresent 14 = .ok (.iconst 0, 1) := by decide +kernel
theorem dX4_isPresent_15 : decode cX4_isPresent 15 = .ok (.invokevirtual 74, 3) := by decide +kernel
theorem dX4_isPresent_18 : decode cX4_isPresent 18 = .ok (.ifCond .ne 15, 3) := by decide +kernel
theorem dX4_isPresent_21 : decode cX4_isPresent 21 = .ok (.aload_n 0, 1) := by decide +kernel
theorem dX4_isPresent_22 : decode cX4_isPresent 22 = .ok (.iload_n 1, 1) := by decide +kernel
theorem dX4_isPresent_23 : decode cX4_isPresent 23 = .ok (.invokevirtual 84, 3) := by decide +kernel
theorem dX4_isPresent_26 : decode cX4_isPresent 26 = .ok (.ifCond .eq 7, 3) := by decide +kernel
theorem dX4_isPresent_29 : decode cX4_isPresent 29 = .ok (.iconst 1, 1) := by decide +kernel
theorem dX4_isPresent_30 : decode cX4_isPresent 30 = .ok (.goto 4, 3) := by decide +kernel
theorem dX4_isPresent_33 : decode cX4_isPresent 33 = .ok (.iconst 0, 1) := by decide +kernel
theorem dX4_isPresent_34 : decode cX4_isPresent 34 = .ok (.ireturn, 1) := by decide +kernel
theorem dX4_presentMask_0 : decode cX4_presentMask 0 = .ok (.aload_n 0, 1) := by decide +kernel
theorem dX4_presentMask_1 : decode cX4_presentMask 1 = .ok (.iconst 0, 1) := by decide +kernel
theorem dX4_presentMask_2 : decode cX4_presentMask 2 = .ok (.putfield 38, 3) := by decide +kernel
theorem dX4_presentMask_5 : decode cX4_presentMask 5 = .ok (.aload_n 0, 1) := by decide +kernel
theorem dX4_presentMask_6 : decode cX4_presentMask 6 = .ok (.getfield 9, 3) := by decide +kernel
theorem dX4_presentMask_9 : decode cX4_presentMask 9 = .ok (.iconst 2, 1) := by decide +kernel
theorem dX4_presentMask_10 : decode cX4_presentMask 10 = .ok (.iaload, 1) := by decide +kernel
theorem dX4_presentMask_11 : decode cX4_presentMask 11 = .ok (.ireturn, 1) := by decide +kernel
theorem dX4_quorum_0 : decode cX4_quorum 0 = .ok (.aload_n 0, 1) := by decide +kernel
theorem dX4_quorum_1 : decode cX4_quorum 1 = .ok (.iconst 0, 1) := by decide +kernel
theorem dX4_quorum_2 : decode cX4_quorum 2 = .ok (.putfield 38, 3) := by decide +kernel
theorem dX4_quorum_5 : decode cX4_quorum 5 = .ok (.aload_n 0, 1) := by decide +kernel
theorem dX4_quorum_6 : decode cX4_quorum 6 = .ok (.getfield 9, 3) := by decide +kernel
theorem dX4_quorum_9 : decode cX4_quorum 9 = .ok (.iconst 3, 1) := by decide +kernel
theorem dX4_quorum_10 : decode cX4_quorum 10 = .ok (.iaload, 1) := by decide +kernel
theorem dX4_quorum_11 : decode cX4_quorum 11 = .ok (.ireturn, 1) := by decide +kernel
theorem dX4_isQuorate_0 : decode cX4_isQuorate 0 = .ok (.aload_n 0, 1) := by decide +kernel
theorem dX4_isQuorate_1 : decode cX4_isQuorate 1 = .ok (.iconst 0, 1) := by decide +kernel
theorem dX4_isQuorate_2 : decode cX4_isQuorate 2 = .ok (.putfield 38, 3) := by decide +kernel
theorem dX4_isQuorate_5 : decode cX4_isQuorate 5 = .ok (.aload_n 0, 1) := by decide +kernel
theorem dX4_isQuorate_6 : decode cX4_isQuorate 6 = .ok (.invokevirtual 87, 3) := by decide +kernel
theorem dX4_isQuorate_9 : decode cX4_isQuorate 9 = .ok (.ireturn, 1) := by decide +kernel
theorem dX4_inWard_0 : decode cX4_inWard 0 = .ok (.iconst 0, 1) := by decide +kernel
theorem dX4_inWard_1 : decode cX4_inWard 1 = .ok (.istore_n 2, 1) := by decide +kernel
theorem dX4_inWard_2 : decode cX4_inWard 2 = .ok (.iconst 0, 1) := by decide +kernel
theorem dX4_inWard_3 : decode cX4_inWard 3 = .ok (.istore_n 3, 1) := by decide +kernel
theorem dX4_inWard_4 : decode cX4_inWard 4 = .ok (.iload_n 3, 1) := by decide +kernel
theorem dX4_inWard_5 : decode cX4_inWard 5 = .ok (.aload_n 0, 1) := by decide +kernel
theorem dX4_inWard_6 : decode cX4_inWard 6 = .ok (.getfield 9, 3) := by decide +kernel
theorem dX4_inWard_9 : decode cX4_inWard 9 = .ok (.iconst 0, 1) := by decide +kernel
theorem dX4_inWard_10 : decode cX4_inWard 10 = .ok (.iaload, 1) := by decide +kernel
theorem dX4_inWard_11 : decode cX4_inWard 11 = .ok (.if_icmp .ge 40, 3) := by decide +kernel
theorem dX4_inWard_14 : decode cX4_inWard 14 = .ok (.iload_n 2, 1) := by decide +kernel
theorem dX4_inWard_15 : decode cX4_inWard 15 = .ok (.aload_n 0, 1) := by decide +kernel
theorem dX4_inWard_16 : decode cX4_inWard 16 = .ok (.iload_n 3, 1) := by decide +kernel
theorem dX4_inWard_17 : decode cX4_inWard 17 = .ok (.invokevirtual 84, 3) := by decide +kernel
theorem dX4_inWard_20 : decode cX4_inWard 20 = .ok (.ifCond .eq 22, 3) := by decide +kernel
theorem dX4_inWard_23 : decode cX4_inWard 23 = .ok (.aload_n 0, 1) := by decide +kernel
theorem dX4_inWard_24 : decode cX4_inWard 24 = .ok (.iload_n 3, 1) := by decide +kernel
theorem dX4_inWard_25 : decode cX4_inWard 25 = .ok (.iconst 0, 1) := by decide +kernel
theorem dX4_inWard_26 : decode cX4_inWard 26 = .ok (.invokevirtual 60, 3) := by decide +kernel
theorem dX4_inWard_29 : decode cX4_inWard 29 = .ok (.iload_n 1, 1) := by decide +kernel
theorem dX4_inWard_30 : decode cX4_inWard 30 = .ok (.if_icmp .ne 12, 3) := by decide +kernel
theorem dX4_inWard_33 : decode cX4_inWard 33 = .ok (.aload_n 0, 1) := by decide +kernel
theorem dX4_inWard_34 : decode cX4_inWard 34 = .ok (.iload_n 3, 1) := by decide +kernel
theorem dX4_inWard_35 : decode cX4_inWard 35 = .ok (.iconst 1, 1) := by decide +kernel
theorem dX4_inWard_36 : decode cX4_inWard 36 = .ok (.invokevirtual 60, 3) := by decide +kernel
theorem dX4_inWard_39 : decode cX4_inWard 39 = .ok (.goto 4, 3) := by decide +kernel
theorem dX4_inWard_42 : decode cX4_inWard 42 = .ok (.iconst 0, 1) := by decide +kernel
theorem dX4_inWard_43 : decode cX4_inWard 43 = .ok (.iadd, 1) := by decide +kernel
theorem dX4_inWard_44 : decode cX4_inWard 44 = .ok (.istore_n 2, 1) := by decide +kernel
theorem dX4_inWard_45 : decode cX4_inWard 45 = .ok (.iinc 3 1, 3) := by decide +kernel
theorem dX4_inWard_48 : decode cX4_inWard 48 = .ok (.goto (-44), 3) := by decide +kernel
theorem dX4_inWard_51 : decode cX4_inWard 51 = .ok (.iload_n 2, 1) := by decide +kernel
theorem dX4_inWard_52 : decode cX4_inWard 52 = .ok (.ireturn, 1) := by decide +kernel
theorem dX4_wardWeight_0 : decode cX4_wardWeight 0 = .ok (.aload_n 0, 1) := by decide +kernel
theorem dX4_wardWeight_1 : decode cX4_wardWeight 1 = .ok (.iconst 1, 1) := by decide +kernel
theorem dX4_wardWeight_2 : decode cX4_wardWeight 2 = .ok (.iload_n 1, 1) := by decide +kernel
theorem dX4_wardWeight_3 : decode cX4_wardWeight 3 = .ok (.invokestatic 70, 3) := by decide +kernel
theorem dX4_wardWeight_6 : decode cX4_wardWeight 6 = .ok (.ifCond .ne 7, 3) := by decide +kernel
theorem dX4_wardWeight_9 : decode cX4_wardWeight 9 = .ok (.iconst 1, 1) := by decide +kernel
theorem dX4_wardWeight_10 : decode cX4_wardWeight 10 = .ok (.goto 4, 3) := by decide +kernel
theorem dX4_wardWeight_13 : decode cX4_wardWeight 13 = .ok (.iconst 0, 1) := by decide +kernel
theorem dX4_wardWeight_14 : decode cX4_wardWeight 14 = .ok (.invokevirtual 74, 3) := by decide +kernel
theorem dX4_wardWeight_17 : decode cX4_wardWeight 17 = .ok (.ifCond .eq 7, 3) := by decide +kernel
theorem dX4_wardWeight_20 : decode cX4_wardWeight 20 = .ok (.iconst 0, 1) := by decide +kernel
theorem dX4_wardWeight_21 : decode cX4_wardWeight 21 = .ok (.goto 8, 3) := by decide +kernel
theorem dX4_wardWeight_24 : decode cX4_wardWeight 24 = .ok (.aload_n 0, 1) := by decide +kernel
theorem dX4_wardWeight_25 : decode cX4_wardWeight 25 = .ok (.iload_n 1, 1) := by decide +kernel
theorem dX4_wardWeight_26 : decode cX4_wardWeight 26 = .ok (.invokevirtual 91, 3) := by decide +kernel
theorem dX4_wardWeight_29 : decode cX4_wardWeight 29 = .ok (.ireturn, 1) := by decide +kernel
theorem dX4_strongestWard_0 : decode cX4_strongestWard 0 = .ok (.aload_n 0, 1) := by decide +kernel
theorem dX4_strongestWard_1 : decode cX4_strongestWard 1 = .ok (.iconst 0, 1) := by decide +kernel
theorem dX4_strongestWard_2 : decode cX4_strongestWard 2 = .ok (.putfield 38, 3) := by decide +kernel
theorem dX4_strongestWard_5 : decode cX4_strongestWard 5 = .ok (.iconst 0, 1) := by decide +kernel
theorem dX4_strongestWard_6 : decode cX4_strongestWard 6 = .ok (.istore_n 1, 1) := by decide +kernel
theorem dX4_strongestWard_7 : decode cX4_strongestWard 7 = .ok (.iconst 1, 1) := by decide +kernel
theorem dX4_strongestWard_8 : decode cX4_strongestWard 8 = .ok (.istore_n 2, 1) := by decide +kernel
theorem dX4_strongestWard_9 : decode cX4_strongestWard 9 = .ok (.iload_n 2, 1) := by decide +kernel
theorem dX4_strongestWard_10 : decode cX4_strongestWard 10 = .ok (.iconst 4, 1) := by decide +kernel
theorem dX4_strongestWard_11 : decode cX4_strongestWard 11 = .ok (.if_icmp .ge 28, 3) := by decide +kernel
theorem dX4_strongestWard_14 : decode cX4_strongestWard 14 = .ok (.aload_n 0, 1) := by decide +kernel
theorem dX4_strongestWard_15 : decode cX4_strongestWard 15 = .ok (.iload_n 2, 1) := by decide +kernel
theorem dX4_strongestWard_16 : decode cX4_strongestWard 16 = .ok (.invokevirtual 91, 3) := by decide +kernel
theorem dX4_strongestWard_19 : decode cX4_strongestWard 19 = .ok (.aload_n 0, 1) := by decide +kernel
theorem dX4_strongestWard_20 : decode cX4_strongestWard 20 = .ok (.iload_n 1, 1) := by decide +kernel
theorem dX4_strongestWard_21 : decode cX4_strongestWard 21 = .ok (.invokevirtual 91, 3) := by decide +kernel
theorem dX4_strongestWard_24 : decode cX4_strongestWard 24 = .ok (.if_icmp .le 7, 3) := by decide +kernel
theorem dX4_strongestWard_27 : decode cX4_strongestWard 27 = .ok (.iload_n 2, 1) := by decide +kernel
theorem dX4_strongestWard_28 : decode cX4_strongestWard 28 = .ok (.goto 4, 3) := by decide +kernel
theorem dX4_strongestWard_31 : decode cX4_strongestWard 31 = .ok (.iload_n 1, 1) := by decide +kernel
theorem dX4_strongestWard_32 : decode cX4_strongestWard 32 = .ok (.istore_n 1, 1) := by decide +kernel
theorem dX4_strongestWard_33 : decode cX4_strongestWard 33 = .ok (.iinc 2 1, 3) := by decide +kernel
theorem dX4_strongestWard_36 : decode cX4_strongestWard 36 = .ok (.goto (-27), 3) := by decide +kernel
theorem dX4_strongestWard_39 : decode cX4_strongestWard 39 = .ok (.iload_n 1, 1) := by decide +kernel
theorem dX4_strongestWard_40 : decode cX4_strongestWard 40 = .ok (.ireturn, 1) := by decide +kernel
theorem dX4_isBill_0 : decode cX4_isBill 0 = .ok (.iload_n 1, 1) := by decide +kernel
theorem dX4_isBill_1 : decode cX4_isBill 1 = .ok (.iconst 0, 1) := by decide +kernel
theorem dX4_isBill_2 : decode cX4_isBill 2 = .ok (.aload_n 0, 1) := by decide +kernel
theorem dX4_isBill_3 : decode cX4_isBill 3 = .ok (.getfield 9, 3) := by decide +kernel
theorem dX4_isBill_6 : decode cX4_isBill 6 = .ok (.iconst 1, 1) := by decide +kernel
theorem dX4_isBill_7 : decode cX4_isBill 7 = .ok (.iaload, 1) := by decide +kernel
theorem dX4_isBill_8 : decode cX4_isBill 8 = .ok (.iconst 1, 1) := by decide +kernel
theorem dX4_isBill_9 : decode cX4_isBill 9 = .ok (.isub, 1) := by decide +kernel
theorem dX4_isBill_10 : decode cX4_isBill 10 = .ok (.invokestatic 41, 3) := by decide +kernel
theorem dX4_isBill_13 : decode cX4_isBill 13 = .ok (.ireturn, 1) := by decide +kernel
theorem dX4_of_0 : decode cX4_of 0 = .ok (.aload_n 0, 1) := by decide +kernel
theorem dX4_of_1 : decode cX4_of 1 = .ok (.getfield 9, 3) := by decide +kernel
theorem dX4_of_4 : decode cX4_of 4 = .ok (.bipush 53, 2) := by decide +kernel
theorem dX4_of_6 : decode cX4_of 6 = .ok (.bipush 16, 2) := by decide +kernel
theorem dX4_of_8 : decode cX4_of 8 = .ok (.iload_n 1, 1) := by decide +kernel
theorem dX4_of_9 : decode cX4_of 9 = .ok (.imul, 1) := by decide +kernel
theorem dX4_of_10 : decode cX4_of 10 = .ok (.iadd, 1) := by decide +kernel
theorem dX4_of_11 : decode cX4_of 11 = .ok (.iload_n 2, 1) := by decide +kernel
theorem dX4_of_12 : decode cX4_of 12 = .ok (.iadd, 1) := by decide +kernel
theorem dX4_of_13 : decode cX4_of 13 = .ok (.iaload, 1) := by decide +kernel
theorem dX4_of_14 : decode cX4_of 14 = .ok (.ireturn, 1) := by decide +kernel
theorem dX4_put_0 : decode cX4_put 0 = .ok (.aload_n 0, 1) := by decide +kernel
theorem dX4_put_1 : decode cX4_put 1 = .ok (.getfield 9, 3) := by decide +kernel
theorem dX4_put_4 : decode cX4_put 4 = .ok (.bipush 53, 2) := by decide +kernel
theorem dX4_put_6 : decode cX4_put 6 = .ok (.bipush 16, 2) := by decide +kernel
theorem dX4_put_8 : decode cX4_put 8 = .ok (.iload_n 1, 1) := by decide +kernel
theorem dX4_put_9 : decode cX4_put 9 = .ok (.imul, 1) := by decide +kernel
theorem dX4_put_10 : decode cX4_put 10 = .ok (.iadd, 1) := by decide +kernel
theorem dX4_put_11 : decode cX4_put 11 = .ok (.iload_n 2, 1) := by decide +kernel
theorem dX4_put_12 : decode cX4_put 12 = .ok (.iadd, 1) := by decide +kernel
theorem dX4_put_13 : decode cX4_put 13 = .ok (.iload_n 3, 1) := by decide +kernel
theorem dX4_put_14 : decode cX4_put 14 = .ok (.iastore, 1) := by decide +kernel
theorem dX4_put_15 : decode cX4_put 15 = .ok (.return_, 1) := by decide +kernel
theorem dX4_hasClause_0 : decode cX4_hasClause 0 = .ok (.aload_n 0, 1) := by decide +kernel
theorem dX4_hasClause_1 : decode cX4_hasClause 1 = .ok (.iload_n 1, 1) := by decide +kernel
theorem dX4_hasClause_2 : decode cX4_hasClause 2 = .ok (.iload_n 2, 1) := by decide +kernel
theorem dX4_hasClause_3 : decode cX4_hasClause 3 = .ok (.bipush 32, 2) := by decide +kernel
theorem dX4_hasClause_5 : decode cX4_hasClause 5 = .ok (.if_icmp .ge 7, 3) := by decide +kernel
theorem dX4_hasClause_8 : decode cX4_hasClause 8 = .ok (.iconst 1, 1) := by decide +kernel
theorem dX4_hasClause_9 : decode cX4_hasClause 9 = .ok (.goto 4, 3) := by decide +kernel
theorem dX4_hasClause_12 : decode cX4_hasClause 12 = .ok (.iconst 2, 1) := by decide +kernel
theorem dX4_hasClause_13 : decode cX4_hasClause 13 = .ok (.invokevirtual 94, 3) := by decide +kernel
theorem dX4_hasClause_16 : decode cX4_hasClause 16 = .ok (.iload_n 2, 1) := by decide +kernel
theorem dX4_hasClause_17 : decode cX4_hasClause 17 = .ok (.bipush 32, 2) := by decide +kernel
theorem dX4_hasClause_19 : decode cX4_hasClause 19 = .ok (.irem, 1) := by decide +kernel
theorem dX4_hasClause_20 : decode cX4_hasClause 20 = .ok (.iushr, 1) := by decide +kernel
theorem dX4_hasClause_21 : decode cX4_hasClause 21 = .ok (.iconst 1, 1) := by decide +kernel
theorem dX4_hasClause_22 : decode cX4_hasClause 22 = .ok (.iand, 1) := by decide +kernel
theorem dX4_hasClause_23 : decode cX4_hasClause 23 = .ok (.iconst 1, 1) := by decide +kernel
theorem dX4_hasClause_24 : decode cX4_hasClause 24 = .ok (.if_icmp .ne 7, 3) := by decide +kernel
theorem dX4_hasClause_27 : decode cX4_hasClause 27 = .ok (.iconst 1, 1) := by decide +kernel
theorem dX4_hasClause_28 : decode cX4_hasClause 28 = .ok (.goto 4, 3) := by decide +kernel
theorem dX4_hasClause_31 : decode cX4_hasClause 31 = .ok (.iconst 0, 1) := by decide +kernel
theorem dX4_hasClause_32 : decode cX4_hasClause 32 = .ok (.ireturn, 1) := by decide +kernel
theorem dX4_toggleClause_0 : decode cX4_toggleClause 0 = .ok (.iload_n 2, 1) := by decide +kernel
theorem dX4_toggleClause_1 : decode cX4_toggleClause 1 = .ok (.bipush 32, 2) := by decide +kernel
theorem dX4_toggleClause_3 : decode cX4_toggleClause 3 = .ok (.if_icmp .ge 7, 3) := by decide +kernel
theorem dX4_toggleClause_6 : decode cX4_toggleClause 6 = .ok (.iconst 1, 1) := by decide +kernel
theorem dX4_toggleClause_7 : decode cX4_toggleClause 7 = .ok (.goto 4, 3) := by decide +kernel
theorem dX4_toggleClause_10 : decode cX4_toggleClause 10 = .ok (.iconst 2, 1) := by decide +kernel
theorem dX4_toggleClause_11 : decode cX4_toggleClause 11 = .ok (.istore_n 3, 1) := by decide +kernel
theorem dX4_toggleClause_12 : decode cX4_toggleClause 12 = .ok (.aload_n 0, 1) := by decide +kernel
theorem dX4_toggleClause_13 : decode cX4_toggleClause 13 = .ok (.iload_n 1, 1) := by decide +kernel
theorem dX4_toggleClause_14 : decode cX4_toggleClause 14 = .ok (.iload_n 3, 1) := by decide +kernel
theorem dX4_toggleClause_15 : decode cX4_toggleClause 15 = .ok (.aload_n 0, 1) := by decide +kernel
theorem dX4_toggleClause_16 : decode cX4_toggleClause 16 = .ok (.iload_n 1, 1) := by decide +kernel
theorem dX4_toggleClause_17 : decode cX4_toggleClause 17 = .ok (.iload_n 3, 1) := by decide +kernel
theorem dX4_toggleClause_18 : decode cX4_toggleClause 18 = .ok (.invokevirtual 94, 3) := by decide +kernel
theorem dX4_toggleClause_21 : decode cX4_toggleClause 21 = .ok (.iconst 1, 1) := by decide +kernel
theorem dX4_toggleClause_22 : decode cX4_toggleClause 22 = .ok (.iload_n 2, 1) := by decide +kernel
theorem dX4_toggleClause_23 : decode cX4_toggleClause 23 = .ok (.bipush 32, 2) := by decide +kernel
theorem dX4_toggleClause_25 : decode cX4_toggleClause 25 = .ok (.irem, 1) := by decide +kernel
theorem dX4_toggleClause_26 : decode cX4_toggleClause 26 = .ok (.ishl, 1) := by decide +kernel
theorem dX4_toggleClause_27 : decode cX4_toggleClause 27 = .ok (.ixor, 1) := by decide +kernel
theorem dX4_toggleClause_28 : decode cX4_toggleClause 28 = .ok (.invokevirtual 97, 3) := by decide +kernel
theorem dX4_toggleClause_31 : decode cX4_toggleClause 31 = .ok (.return_, 1) := by decide +kernel
theorem dX4_rusted_0 : decode cX4_rusted 0 = .ok (.aload_n 0, 1) := by decide +kernel
theorem dX4_rusted_1 : decode cX4_rusted 1 = .ok (.iload_n 1, 1) := by decide +kernel
theorem dX4_rusted_2 : decode cX4_rusted 2 = .ok (.iconst 4, 1) := by decide +kernel
theorem dX4_rusted_3 : decode cX4_rusted 3 = .ok (.invokevirtual 94, 3) := by decide +kernel
theorem dX4_rusted_6 : decode cX4_rusted 6 = .ok (.bipush 60, 2) := by decide +kernel
theorem dX4_rusted_8 : decode cX4_rusted 8 = .ok (.idiv, 1) := by decide +kernel
theorem dX4_rusted_9 : decode cX4_rusted 9 = .ok (.ireturn, 1) := by decide +kernel
theorem dX4_finish_0 : decode cX4_finish 0 = .ok (.aload_n 0, 1) := by decide +kernel
theorem dX4_finish_1 : decode cX4_finish 1 = .ok (.iload_n 1, 1) := by decide +kernel
theorem dX4_finish_2 : decode cX4_finish 2 = .ok (.iconst 0, 1) := by decide +kernel
theorem dX4_finish_3 : decode cX4_finish 3 = .ok (.iload_n 2, 1) := by decide +kernel
theorem dX4_finish_4 : decode cX4_finish 4 = .ok (.invokevirtual 97, 3) := by decide +kernel
theorem dX4_finish_7 : decode cX4_finish 7 = .ok (.aload_n 0, 1) := by decide +kernel
theorem dX4_finish_8 : decode cX4_finish 8 = .ok (.iload_n 1, 1) := by decide +kernel
theorem dX4_finish_9 : decode cX4_finish 9 = .ok (.bipush 7, 2) := by decide +kernel
theorem dX4_finish_11 : decode cX4_finish 11 = .ok (.iconst 0, 1) := by decide +kernel
theorem dX4_finish_12 : decode cX4_finish 12 = .ok (.invokevirtual 97, 3) := by decide +kernel
theorem dX4_finish_15 : decode cX4_finish 15 = .ok (.aload_n 0, 1) := by decide +kernel
theorem dX4_finish_16 : decode cX4_finish 16 = .ok (.iload_n 1, 1) := by decide +kernel
theorem dX4_finish_17 : decode cX4_finish 17 = .ok (.iconst 5, 1) := by decide +kernel
theorem dX4_finish_18 : decode cX4_finish 18 = .ok (.iconst 0, 1) := by decide +kernel
theorem dX4_finish_19 : decode cX4_finish 19 = .ok (.invokevirtual 97, 3) := by decide +kernel
theorem dX4_finish_22 : decode cX4_finish 22 = .ok (.aload_n 0, 1) := by decide +kernel
theorem dX4_finish_23 : decode cX4_finish 23 = .ok (.iload_n 1, 1) := by decide +kernel
theorem dX4_finish_24 : decode cX4_finish 24 = .ok (.bipush 6, 2) := by decide +kernel
theorem dX4_finish_26 : decode cX4_finish 26 = .ok (.iconst 0, 1) := by decide +kernel
theorem dX4_finish_27 : decode cX4_finish 27 = .ok (.invokevirtual 97, 3) := by decide +kernel
theorem dX4_finish_30 : decode cX4_finish 30 = .ok (.return_, 1) := by decide +kernel
theorem dX4_introduce_0 : decode cX4_introduce 0 = .ok (.aload_n 0, 1) := by decide +kernel
theorem dX4_introduce_1 : decode cX4_introduce 1 = .ok (.iconst 1, 1) := by decide +kernel
theorem dX4_introduce_2 : decode cX4_introduce 2 = .ok (.aload_n 0, 1) := by decide +kernel
theorem dX4_introduce_3 : decode cX4_introduce 3 = .ok (.iload_n 1, 1) := by decide +kernel
theorem dX4_introduce_4 : decode cX4_introduce 4 = .ok (.invokevirtual 81, 3) := by decide +kernel
theorem dX4_introduce_7 : decode cX4_introduce 7 = .ok (.ifCond .eq 17, 3) := by decide +kernel
theorem dX4_introduce_10 : decode cX4_introduce 10 = .ok (.iload_n 2, 1) := by decide +kernel
theorem dX4_introduce_11 : decode cX4_introduce 11 = .ok (.invokestatic 101, 3) := by decide +kernel
theorem dX4_introduce_14 : decode cX4_introduce 14 = .ok (.ifCond .eq 10, 3) := by decide +kernel
theorem dX4_introduce_17 : decode cX4_introduce 17 = .ok (.iload_n 3, 1) := by decide +kernel
theorem dX4_introduce_18 : decode cX4_introduce 18 = .ok (.invokestatic 101, 3) := by decide +kernel
theorem dX4_introduce_21 : decode cX4_introduce 21 = .ok (.ifCond .ne 7, 3) := by decide +kernel
theorem dX4_introduce_24 : decode cX4_introduce 24 = .ok (.iconst 1, 1) := by decide +kernel
theorem dX4_introduce_25 : decode cX4_introduce 25 = .ok (.goto 4, 3) := by decide +kernel
theorem dX4_introduce_28 : decode cX4_introduce 28 = .ok (.iconst 0, 1) := by decide +kernel
theorem dX4_introduce_29 : decode cX4_introduce 29 = .ok (.invokevirtual 74, 3) := by decide +kernel
theorem dX4_introduce_32 : decode cX4_introduce 32 = .ok (.ifCond .ne 66, 3) := by decide +kernel
theorem dX4_introduce_35 : decode cX4_introduce 35 = .ok (.aload_n 0, 1) := by decide +kernel
theorem dX4_introduce_36 : decode cX4_introduce 36 = .ok (.iconst 2, 1) := by decide +kernel
theorem dX4_introduce_37 : decode cX4_introduce 37 = .ok (.iload_n 2, 1) := by decide +kernel
theorem dX4_introduce_38 : decode cX4_introduce 38 = .ok (.iload_n 3, 1) := by decide +kernel
theorem dX4_introduce_39 : decode cX4_introduce 39 = .ok (.if_icmp .le 7, 3) := by decide +kernel
theorem dX4_introduce_42 : decode cX4_introduce 42 = .ok (.iconst 1, 1) := by decide +kernel
theorem dX4_introduce_43 : decode cX4_introduce 43 = .ok (.goto 4, 3) := by decide +kernel
theorem dX4_introduce_46 : decode cX4_introduce 46 = .ok (.iconst 0, 1) := by decide +kernel
theorem dX4_introduce_47 : decode cX4_introduce 47 = .ok (.invokevirtual 74, 3) := by decide +kernel
theorem dX4_introduce_50 : decode cX4_introduce 50 = .ok (.ifCond .ne 48, 3) := by decide +kernel
theorem dX4_introduce_53 : decode cX4_introduce 53 = .ok (.aload_n 0, 1) := by decide +kernel
theorem dX4_introduce_54 : decode cX4_introduce 54 = .ok (.iconst 3, 1) := by decide +kernel
theorem dX4_introduce_55 : decode cX4_introduce 55 = .ok (.aload_n 0, 1) := by decide +kernel
theorem dX4_introduce_56 : decode cX4_introduce 56 = .ok (.getfield 9, 3) := by decide +kernel
theorem dX4_introduce_59 : decode cX4_introduce 59 = .ok (.iconst 1, 1) := by decide +kernel
theorem dX4_introduce_60 : decode cX4_introduce 60 = .ok (.iaload, 1) := by decide +kernel
theorem dX4_introduce_61 : decode cX4_introduce 61 = .ok (.bipush 8, 2) := by decide +kernel
theorem dX4_introduce_63 : decode cX4_introduce 63 = .ok (.if_icmp .ne 7, 3) := by decide +kernel
theorem dX4_introduce_66 : decode cX4_introduce 66 = .ok (.iconst 1, 1) := by decide +kernel
theorem dX4_introduce_67 : decode cX4_introduce 67 = .ok (.goto 4, 3) := by decide +kernel
theorem dX4_introduce_70 : decode cX4_introduce 70 = .ok (.iconst 0, 1) := by decide +kernel
theorem dX4_introduce_71 : decode cX4_introduce 71 = .ok (.invokevirtual 74, 3) := by decide +kernel
theorem dX4_introduce_74 : decode cX4_introduce 74 = .ok (.ifCond .ne 24, 3) := by decide +kernel
theorem dX4_introduce_77 : decode cX4_introduce 77 = .ok (.aload_n 0, 1) := by decide +kernel
theorem dX4_introduce_78 : decode cX4_introduce 78 = .ok (.iconst 4, 1) := by decide +kernel
theorem dX4_introduce_79 : decode cX4_introduce 79 = .ok (.aload_n 0, 1) := by decide +kernel
theorem dX4_introduce_80 : decode cX4_introduce 80 = .ok (.iload_n 1, 1) := by decide +kernel
theorem dX4_introduce_81 : decode cX4_introduce 81 = .ok (.invokevirtual 84, 3) := by decide +kernel
theorem dX4_introduce_84 : decode cX4_introduce 84 = .ok (.ifCond .ne 7, 3) := by decide +kernel
theorem dX4_introduce_87 : decode cX4_introduce 87 = .ok (.iconst 1, 1) := by decide +kernel
theorem dX4_introduce_88 : decode cX4_introduce 88 = .ok (.goto 4, 3) := by decide +kernel
theorem dX4_introduce_91 : decode cX4_introduce 91 = .ok (.iconst 0, 1) := by decide +kernel
theorem dX4_introduce_92 : decode cX4_introduce 92 = .ok (.invokevirtual 74, 3) := by decide +kernel
theorem dX4_introduce_95 : decode cX4_introduce 95 = .ok (.ifCond .eq 5, 3) := by decide +kernel
theorem dX4_introduce_98 : decode cX4_introduce 98 = .ok (.iconst 0, 1) := by decide +kernel
theorem dX4_introduce_99 : decode cX4_introduce 99 = .ok (.ireturn, 1) := by decide +kernel
theorem dX4_introduce_100 : decode cX4_introduce 100 = .ok (.aload_n 0, 1) := by decide +kernel
theorem dX4_introduce_101 : decode cX4_introduce 101 = .ok (.invokevirtual 78, 3) := by decide +kernel
theorem dX4_introduce_104 : decode cX4_introduce 104 = .ok (.aload_n 0, 1) := by decide +kernel
theorem dX4_introduce_105 : decode cX4_introduce 105 = .ok (.getfield 9, 3) := by decide +kernel
theorem dX4_introduce_108 : decode cX4_introduce 108 = .ok (.iconst 1, 1) := by decide +kernel
theorem dX4_introduce_109 : decode cX4_introduce 109 = .ok (.iaload, 1) := by decide +kernel
theorem dX4_introduce_110 : decode cX4_introduce 110 = .ok (.istore 4, 2) := by decide +kernel
theorem dX4_introduce_112 : decode cX4_introduce 112 = .ok (.aload_n 0, 1) := by decide +kernel
theorem dX4_introduce_113 : decode cX4_introduce 113 = .ok (.getfield 9, 3) := by decide +kernel
theorem dX4_introduce_116 : decode cX4_introduce 116 = .ok (.iconst 1, 1) := by decide +kernel
theorem dX4_introduce_117 : decode cX4_introduce 117 = .ok (.dup2, 1) := by decide +kernel
theorem dX4_introduce_118 : decode cX4_introduce 118 = .ok (.iaload, 1) := by decide +kernel
theorem dX4_introduce_119 : decode cX4_introduce 119 = .ok (.iconst 1, 1) := by decide +kernel
theorem dX4_introduce_120 : decode cX4_introduce 120 = .ok (.iadd, 1) := by decide +kernel
theorem dX4_introduce_121 : decode cX4_introduce 121 = .ok (.iastore, 1) := by decide +kernel
theorem dX4_introduce_122 : decode cX4_introduce 122 = .ok (.iconst 0, 1) := by decide +kernel
theorem dX4_introduce_123 : decode cX4_introduce 123 = .ok (.istore 5, 2) := by decide +kernel
theorem dX4_introduce_125 : decode cX4_introduce 125 = .ok (.iload 5, 2) := by decide +kernel
theorem dX4_introduce_127 : decode cX4_introduce 127 = .ok (.bipush 16, 2) := by decide +kernel
theorem dX4_introduce_129 : decode cX4_introduce 129 = .ok (.if_icmp .ge 18, 3) := by decide +kernel
theorem dX4_introduce_132 : decode cX4_introduce 132 = .ok (.aload_n 0, 1) := by decide +kernel
theorem dX4_introduce_133 : decode cX4_introduce 133 = .ok (.iload 4, 2) := by decide +kernel
theorem dX4_introduce_135 : decode cX4_introduce 135 = .ok (.iload 5, 2) := by decide +kernel
theorem dX4_introduce_137 : decode cX4_introduce 137 = .ok (.iconst 0, 1) := by decide +kernel
theorem dX4_introduce_138 : decode cX4_introduce 138 = .ok (.invokevirtual 97, 3) := by decide +kernel
theorem dX4_introduce_141 : decode cX4_introduce 141 = .ok (.iinc 5 1, 3) := by decide +kernel
theorem dX4_introduce_144 : decode cX4_introduce 144 = .ok (.goto (-19), 3) := by decide +kernel
theorem dX4_introduce_147 : decode cX4_introduce 147 = .ok (.iload_n 2, 1) := by decide +kernel
theorem dX4_introduce_148 : decode cX4_introduce 148 = .ok (.istore 5, 2) := by decide +kernel
theorem dX4_introduce_150 : decode cX4_introduce 150 = .ok (.iload 5, 2) := by decide +kernel
theorem dX4_introduce_152 : decode cX4_introduce 152 = .ok (.iload_n 3, 1) := by decide +kernel
theorem dX4_introduce_153 : decode cX4_introduce 153 = .ok (.if_icmp .gt 17, 3) := by decide +kernel
theorem dX4_introduce_156 : decode cX4_introduce 156 = .ok (.aload_n 0, 1) := by decide +kernel
theorem dX4_introduce_157 : decode cX4_introduce 157 = .ok (.iload 4, 2) := by decide +kernel
theorem dX4_introduce_159 : decode cX4_introduce 159 = .ok (.iload 5, 2) := by decide +kernel
theorem dX4_introduce_161 : decode cX4_introduce 161 = .ok (.invokevirtual 104, 3) := by decide +kernel
theorem dX4_introduce_164 : decode cX4_introduce 164 = .ok (.iinc 5 1, 3) := by decide +kernel
theorem dX4_introduce_167 : decode cX4_introduce 167 = .ok (.goto (-17), 3) := by decide +kernel
theorem dX4_introduce_170 : decode cX4_introduce 170 = .ok (.iload 4, 2) := by decide +kernel
theorem dX4_introduce_172 : decode cX4_introduce 172 = .ok (.ireturn, 1) := by decide +kernel
theorem dX4_billCount_0 : decode cX4_billCount 0 = .ok (.aload_n 0, 1) := by decide +kernel
theorem dX4_billCount_1 : decode cX4_billCount 1 = .ok (.iconst 0, 1) := by decide +kernel
theorem dX4_billCount_2 : decode cX4_billCount 2 = .ok (.putfield 38, 3) := by decide +kernel
theorem dX4_billCount_5 : decode cX4_billCount 5 = .ok (.aload_n 0, 1) := by decide +kernel
theorem dX4_billCount_6 : decode cX4_billCount 6 = .ok (.getfield 9, 3) := by decide +kernel
theorem dX4_billCount_9 : decode cX4_billCount 9 = .ok (.iconst 1, 1) := by decide +kernel
theorem dX4_billCount_10 : decode cX4_billCount 10 = .ok (.iaload, 1) := by decide +kernel
theorem dX4_billCount_11 : decode cX4_billCount 11 = .ok (.ireturn, 1) := by decide +kernel
theorem dX4_isOpen_0 : decode cX4_isOpen 0 = .ok (.aload_n 0, 1) := by decide +kernel
theorem dX4_isOpen_1 : decode cX4_isOpen 1 = .ok (.iconst 1, 1) := by decide +kernel
theorem dX4_isOpen_2 : decode cX4_isOpen 2 = .ok (.aload_n 0, 1) := by decide +kernel
theorem dX4_isOpen_3 : decode cX4_isOpen 3 = .ok (.iload_n 1, 1) := by decide +kernel
theorem dX4_isOpen_4 : decode cX4_isOpen 4 = .ok (.invokevirtual 108, 3) := by decide +kernel
theorem dX4_isOpen_7 : decode cX4_isOpen 7 = .ok (.ifCond .ne 7, 3) := by decide +kernel
theorem dX4_isOpen_10 : decode cX4_isOpen 10 = .ok (.iconst 1, 1) := by decide +kernel
theorem dX4_isOpen_11 : decode cX4_isOpen 11 = .ok (.goto 4, 3) := by decide +kernel
theorem dX4_isOpen_14 : decode cX4_isOpen 14 = .ok (.iconst 0, 1) := by decide +kernel
theorem dX4_isOpen_15 : decode cX4_isOpen 15 = .ok (.invokevirtual 74, 3) := by decide +kernel
theorem dX4_isOpen_18 : decode cX4_isOpen 18 = .ok (.ifCond .ne 16, 3) := by decide +kernel
theorem dX4_isOpen_21 : decode cX4_isOpen 21 = .ok (.aload_n 0, 1) := by decide +kernel
theorem dX4_isOpen_22 : decode cX4_isOpen 22 = .ok (.iload_n 1, 1) := by decide +kernel
theorem dX4_isOpen_23 : decode cX4_isOpen 23 = .ok (.iconst 0, 1) := by decide +kernel
theorem dX4_isOpen_24 : decode cX4_isOpen 24 = .ok (.invokevirtual 94, 3) := by decide +kernel
theorem dX4_isOpen_27 : decode cX4_isOpen 27 = .ok (.ifCond .ne 7, 3) := by decide +kernel
theorem dX4_isOpen_30 : decode cX4_isOpen 30 = .ok (.iconst 1, 1) := by decide +kernel
theorem dX4_isOpen_31 : decode cX4_isOpen 31 = .ok (.goto 4, 3) := by decide +kernel
theorem dX4_isOpen_34 : decode cX4_isOpen 34 = .ok (.iconst 0, 1) := by decide +kernel
theorem dX4_isOpen_35 : decode cX4_isOpen 35 = .ok (.ireturn, 1) := by decide +kernel
theorem dX4_isPassed_0 : decode cX4_isPassed 0 = .ok (.aload_n 0, 1) := by decide +kernel
theorem dX4_isPassed_1 : decode cX4_isPassed 1 = .ok (.iconst 1, 1) := by decide +kernel
theorem dX4_isPassed_2 : decode cX4_isPassed 2 = .ok (.aload_n 0, 1) := by decide +kernel
theorem dX4_isPassed_3 : decode cX4_isPassed 3 = .ok (.iload_n 1, 1) := by decide +kernel
theorem dX4_isPassed_4 : decode cX4_isPassed 4 = .ok (.invokevirtual 108, 3) := by decide +kernel
theorem dX4_isPassed_7 : decode cX4_isPassed 7 = .ok (.ifCond .ne 7, 3) := by decide +kernel
theorem dX4_isPassed_10 : decode cX4_isPassed 10 = .ok (.iconst 1, 1) := by decide +kernel
theorem dX4_isPassed_11 : decode cX4_isPassed 11 = .ok (.goto 4, 3) := by decide +kernel
theorem dX4_isPassed_14 : decode cX4_isPassed 14 = .ok (.iconst 0, 1) := by decide +kernel
theorem dX4_isPassed_15 : decode cX4_isPassed 15 = .ok (.invokevirtual 74, 3) := by decide +kernel
theorem dX4_isPassed_18 : decode cX4_isPassed 18 = .ok (.ifCond .ne 17, 3) := by decide +kernel
theorem dX4_isPassed_21 : decode cX4_isPassed 21 = .ok (.aload_n 0, 1) := by decide +kernel
theorem dX4_isPassed_22 : decode cX4_isPassed 22 = .ok (.iload_n 1, 1) := by decide +kernel
theorem dX4_isPassed_23 : decode cX4_isPassed 23 = .ok (.iconst 0, 1) := by decide +kernel
theorem dX4_isPassed_24 : decode cX4_isPassed 24 = .ok (.invokevirtual 94, 3) := by decide +kernel
theorem dX4_isPassed_27 : decode cX4_isPassed 27 = .ok (.iconst 1, 1) := by decide +kernel
theorem dX4_isPassed_28 : decode cX4_isPassed 28 = .ok (.if_icmp .ne 7, 3) := by decide +kernel
theorem dX4_isPassed_31 : decode cX4_isPassed 31 = .ok (.iconst 1, 1) := by decide +kernel
theorem dX4_isPassed_32 : decode cX4_isPassed 32 = .ok (.goto 4, 3) := by decide +kernel
theorem dX4_isPassed_35 : decode cX4_isPassed 35 = .ok (.iconst 0, 1) := by decide +kernel
theorem dX4_isPassed_36 : decode cX4_isPassed 36 = .ok (.ireturn, 1) := by decide +kernel
theorem dX4_readings_0 : decode cX4_readings 0 = .ok (.aload_n 0, 1) := by decide +kernel
theorem dX4_readings_1 : decode cX4_readings 1 = .ok (.iconst 1, 1) := by decide +kernel
theorem dX4_readings_2 : decode cX4_readings 2 = .ok (.aload_n 0, 1) := by decide +kernel
theorem dX4_readings_3 : decode cX4_readings 3 = .ok (.iload_n 1, 1) := by decide +kernel
theorem dX4_readings_4 : decode cX4_readings 4 = .ok (.invokevirtual 108, 3) := by decide +kernel
theorem dX4_readings_7 : decode cX4_readings 7 = .ok (.ifCond .ne 7, 3) := by decide +kernel
theorem dX4_readings_10 : decode cX4_readings 10 = .ok (.iconst 1, 1) := by decide +kernel
theorem dX4_readings_11 : decode cX4_readings 11 = .ok (.goto 4, 3) := by decide +kernel
theorem dX4_readings_14 : decode cX4_readings 14 = .ok (.iconst 0, 1) := by decide +kernel
theorem dX4_readings_15 : decode cX4_readings 15 = .ok (.invokevirtual 74, 3) := by decide +kernel
theorem dX4_readings_18 : decode cX4_readings 18 = .ok (.ifCond .eq 7, 3) := by decide +kernel
theorem dX4_readings_21 : decode cX4_readings 21 = .ok (.iconst 0, 1) := by decide +kernel
theorem dX4_readings_22 : decode cX4_readings 22 = .ok (.goto 9, 3) := by decide +kernel
theorem dX4_readings_25 : decode cX4_readings 25 = .ok (.aload_n 0, 1) := by decide +kernel
theorem dX4_readings_26 : decode cX4_readings 26 = .ok (.iload_n 1, 1) := by decide +kernel
theorem dX4_readings_27 : decode cX4_readings 27 = .ok (.iconst 3, 1) := by decide +kernel
theorem dX4_readings_28 : decode cX4_readings 28 = .ok (.invokevirtual 94, 3) := by decide +kernel
theorem dX4_readings_31 : decode cX4_readings 31 = .ok (.ireturn, 1) := by decide +kernel
theorem dX4_clauses_0 : decode cX4_clauses 0 = .ok (.aload_n 0, 1) := by decide +kernel
theorem dX4_clauses_1 : decode cX4_clauses 1 = .ok (.iconst 1, 1) := by decide +kernel
theorem dX4_clauses_2 : decode cX4_clauses 2 = .ok (.aload_n 0, 1) := by decide +kernel
theorem dX4_clauses_3 : decode cX4_clauses 3 = .ok (.iload_n 1, 1) := by decide +kernel
theorem dX4_clauses_4 : decode cX4_clauses 4 = .ok (.invokevirtual 108, 3) := by decide +kernel
theorem dX4_clauses_7 : decode cX4_clauses 7 = .ok (.ifCond .ne 7, 3) := by decide +kernel
theorem dX4_clauses_10 : decode cX4_clauses 10 = .ok (.iconst 1, 1) := by decide +kernel
theorem dX4_clauses_11 : decode cX4_clauses 11 = .ok (.goto 4, 3) := by decide +kernel
theorem dX4_clauses_14 : decode cX4_clauses 14 = .ok (.iconst 0, 1) := by decide +kernel
theorem dX4_clauses_15 : decode cX4_clauses 15 = .ok (.invokevirtual 74, 3) := by decide +kernel
theorem dX4_clauses_18 : decode cX4_clauses 18 = .ok (.ifCond .eq 7, 3) := by decide +kernel
theorem dX4_clauses_21 : decode cX4_clauses 21 = .ok (.lconst 0, 1) := by decide +kernel
theorem dX4_clauses_22 : decode cX4_clauses 22 = .ok (.goto 25, 3) := by decide +kernel
theorem dX4_clauses_25 : decode cX4_clauses 25 = .ok (.aload_n 0, 1) := by decide +kernel
theorem dX4_clauses_26 : decode cX4_clauses 26 = .ok (.iload_n 1, 1) := by decide +kernel
theorem dX4_clauses_27 : decode cX4_clauses 27 = .ok (.iconst 2, 1) := by decide +kernel
theorem dX4_clauses_28 : decode cX4_clauses 28 = .ok (.invokevirtual 94, 3) := by decide +kernel
theorem dX4_clauses_31 : decode cX4_clauses 31 = .ok (.i2l, 1) := by decide +kernel
theorem dX4_clauses_32 : decode cX4_clauses 32 = .ok (.bipush 32, 2) := by decide +kernel
theorem dX4_clauses_34 : decode cX4_clauses 34 = .ok (.lshl, 1) := by decide +kernel
theorem dX4_clauses_35 : decode cX4_clauses 35 = .ok (.aload_n 0, 1) := by decide +kernel
theorem dX4_clauses_36 : decode cX4_clauses 36 = .ok (.iload_n 1, 1) := by decide +kernel
theorem dX4_clauses_37 : decode cX4_clauses 37 = .ok (.iconst 1, 1) := by decide +kernel
theorem dX4_clauses_38 : decode cX4_clauses 38 = .ok (.invokevirtual 94, 3) := by decide +kernel
theorem dX4_clauses_41 : decode cX4_clauses 41 = .ok (.i2l, 1) := by decide +kernel
theorem dX4_clauses_42 : decode cX4_clauses 42 = .ok (.ldc2_w 111, 3) := by decide +kernel
theorem dX4_clauses_45 : decode cX4_clauses 45 = .ok (.land, 1) := by decide +kernel
theorem dX4_clauses_46 : decode cX4_clauses 46 = .ok (.lor, 1) := by decide +kernel
theorem dX4_clauses_47 : decode cX4_clauses 47 = .ok (.lreturn, 1) := by decide +kernel
theorem dX4_countClauses_0 : decode cX4_countClauses 0 = .ok (.aload_n 0, 1) := by decide +kernel
theorem dX4_countClauses_1 : decode cX4_countClauses 1 = .ok (.iload_n 1, 1) := by decide +kernel
theorem dX4_countClauses_2 : decode cX4_countClauses 2 = .ok (.iconst 1, 1) := by decide +kernel
theorem dX4_countClauses_3 : decode cX4_countClauses 3 = .ok (.invokevirtual 94, 3) := by decide +kernel
theorem dX4_countClauses_6 : decode cX4_countClauses 6 = .ok (.invokestatic 64, 3) := by decide +kernel
theorem dX4_countClauses_9 : decode cX4_countClauses 9 = .ok (.aload_n 0, 1) := by decide +kernel
theorem dX4_countClauses_10 : decode cX4_countClauses 10 = .ok (.iload_n 1, 1) := by decide +kernel
theorem dX4_countClauses_11 : decode cX4_countClauses 11 = .ok (.iconst 2, 1) := by decide +kernel
theorem dX4_countClauses_12 : decode cX4_countClauses 12 = .ok (.invokevirtual 94, 3) := by decide +kernel
theorem dX4_countClauses_15 : decode cX4_countClauses 15 = .ok (.invokestatic 64, 3) := by decide +kernel
theorem dX4_countClauses_18 : decode cX4_countClauses 18 = .ok (.iadd, 1) := by decide +kernel
theorem dX4_countClauses_19 : decode cX4_countClauses 19 = .ok (.ireturn, 1) := by decide +kernel
theorem dX4_clauseCount_0 : decode cX4_clauseCount 0 = .ok (.aload_n 0, 1) := by decide +kernel
theorem dX4_clauseCount_1 : decode cX4_clauseCount 1 = .ok (.iconst 1, 1) := by decide +kernel
theorem dX4_clauseCount_2 : decode cX4_clauseCount 2 = .ok (.aload_n 0, 1) := by decide +kernel
theorem dX4_clauseCount_3 : decode cX4_clauseCount 3 = .ok (.iload_n 1, 1) := by decide +kernel
theorem dX4_clauseCount_4 : decode cX4_clauseCount 4 = .ok (.invokevirtual 108, 3) := by decide +kernel
theorem dX4_clauseCount_7 : decode cX4_clauseCount 7 = .ok (.ifCond .ne 7, 3) := by decide +kernel
theorem dX4_clauseCount_10 : decode cX4_clauseCount 10 = .ok (.iconst 1, 1) := by decide +kernel
theorem dX4_clauseCount_11 : decode cX4_clauseCount 11 = .ok (.goto 4, 3) := by decide +kernel
theorem dX4_clauseCount_14 : decode cX4_clauseCount 14 = .ok (.iconst 0, 1) := by decide +kernel
theorem dX4_clauseCount_15 : decode cX4_clauseCount 15 = .ok (.invokevirtual 74, 3) := by decide +kernel
theorem dX4_clauseCount_18 : decode cX4_clauseCount 18 = .ok (.ifCond .eq 7, 3) := by decide +kernel
theorem dX4_clauseCount_21 : decode cX4_clauseCount 21 = .ok (.iconst 0, 1) := by decide +kernel
theorem dX4_clauseCount_22 : decode cX4_clauseCount 22 = .ok (.goto 8, 3) := by decide +kernel
theorem dX4_clauseCount_25 : decode cX4_clauseCount 25 = .ok (.aload_n 0, 1) := by decide +kernel
theorem dX4_clauseCount_26 : decode cX4_clauseCount 26 = .ok (.iload_n 1, 1) := by decide +kernel
theorem dX4_clauseCount_27 : decode cX4_clauseCount 27 = .ok (.invokevirtual 113, 3) := by decide +kernel
theorem dX4_clauseCount_30 : decode cX4_clauseCount 30 = .ok (.ireturn, 1) := by decide +kernel
theorem dX4_longestRun_0 : decode cX4_longestRun 0 = .ok (.aload_n 0, 1) := by decide +kernel
theorem dX4_longestRun_1 : decode cX4_longestRun 1 = .ok (.iconst 1, 1) := by decide +kernel
theorem dX4_longestRun_2 : decode cX4_longestRun 2 = .ok (.aload_n 0, 1) := by decide +kernel
theorem dX4_longestRun_3 : decode cX4_longestRun 3 = .ok (.iload_n 1, 1) := by decide +kernel
theorem dX4_longestRun_4 : decode cX4_longestRun 4 = .ok (.invokevirtual 108, 3) := by decide +kernel
theorem dX4_longestRun_7 : decode cX4_longestRun 7 = .ok (.ifCond .ne 7, 3) := by decide +kernel
theorem dX4_longestRun_10 : decode cX4_longestRun 10 = .ok (.iconst 1, 1) := by decide +kernel
theorem dX4_longestRun_11 : decode cX4_longestRun 11 = .ok (.goto 4, 3) := by decide +kernel
theorem dX4_longestRun_14 : decode cX4_longestRun 14 = .ok (.iconst 0, 1) := by decide +kernel
theorem dX4_longestRun_15 : decode cX4_longestRun 15 = .ok (.invokevirtual 74, 3) := by decide +kernel
theorem dX4_longestRun_18 : decode cX4_longestRun 18 = .ok (.ifCond .eq 5, 3) := by decide +kernel
theorem dX4_longestRun_21 : decode cX4_longestRun 21 = .ok (.iconst 0, 1) := by decide +kernel
theorem dX4_longestRun_22 : decode cX4_longestRun 22 = .ok (.ireturn, 1) := by decide +kernel
theorem dX4_longestRun_23 : decode cX4_longestRun 23 = .ok (.iconst 0, 1) := by decide +kernel
theorem dX4_longestRun_24 : decode cX4_longestRun 24 = .ok (.istore_n 2, 1) := by decide +kernel
theorem dX4_longestRun_25 : decode cX4_longestRun 25 = .ok (.iconst 0, 1) := by decide +kernel
theorem dX4_longestRun_26 : decode cX4_longestRun 26 = .ok (.istore_n 3, 1) := by decide +kernel
theorem dX4_longestRun_27 : decode cX4_longestRun 27 = .ok (.iconst 0, 1) := by decide +kernel
theorem dX4_longestRun_28 : decode cX4_longestRun 28 = .ok (.istore 4, 2) := by decide +kernel
theorem dX4_longestRun_30 : decode cX4_longestRun 30 = .ok (.iload 4, 2) := by decide +kernel
theorem dX4_longestRun_32 : decode cX4_longestRun 32 = .ok (.bipush 64, 2) := by decide +kernel
theorem dX4_longestRun_34 : decode cX4_longestRun 34 = .ok (.if_icmp .ge 38, 3) := by decide +kernel
theorem dX4_longestRun_37 : decode cX4_longestRun 37 = .ok (.aload_n 0, 1) := by decide +kernel
theorem dX4_longestRun_38 : decode cX4_longestRun 38 = .ok (.iload_n 1, 1) := by decide +kernel
theorem dX4_longestRun_39 : decode cX4_longestRun 39 = .ok (.iload 4, 2) := by decide +kernel
theorem dX4_longestRun_41 : decode cX4_longestRun 41 = .ok (.invokevirtual 116, 3) := by decide +kernel
theorem dX4_longestRun_44 : decode cX4_longestRun 44 = .ok (.ifCond .eq 9, 3) := by decide +kernel
theorem dX4_longestRun_47 : decode cX4_longestRun 47 = .ok (.iload_n 3, 1) := by decide +kernel
theorem dX4_longestRun_48 : decode cX4_longestRun 48 = .ok (.iconst 1, 1) := by decide +kernel
theorem dX4_longestRun_49 : decode cX4_longestRun 49 = .ok (.iadd, 1) := by decide +kernel
theorem dX4_longestRun_50 : decode cX4_longestRun 50 = .ok (.goto 4, 3) := by decide +kernel
theorem dX4_longestRun_53 : decode cX4_longestRun 53 = .ok (.iconst 0, 1) := by decide +kernel
theorem dX4_longestRun_54 : decode cX4_longestRun 54 = .ok (.istore_n 3, 1) := by decide +kernel
theorem dX4_longestRun_55 : decode cX4_longestRun 55 = .ok (.iload_n 3, 1) := by decide +kernel
theorem dX4_longestRun_56 : decode cX4_longestRun 56 = .ok (.iload_n 2, 1) := by decide +kernel
theorem dX4_longestRun_57 : decode cX4_longestRun 57 = .ok (.if_icmp .le 7, 3) := by decide +kernel
theorem dX4_longestRun_60 : decode cX4_longestRun 60 = .ok (.iload_n 3, 1) := by decide +kernel
theorem dX4_longestRun_61 : decode cX4_longestRun 61 = .ok (.goto 4, 3) := by decide +kernel
theorem dX4_longestRun_64 : decode cX4_longestRun 64 = .ok (.iload_n 2, 1) := by decide +kernel
theorem dX4_longestRun_65 : decode cX4_longestRun 65 = .ok (.istore_n 2, 1) := by decide +kernel
theorem dX4_longestRun_66 : decode cX4_longestRun 66 = .ok (.iinc 4 1, 3) := by decide +kernel
theorem dX4_longestRun_69 : decode cX4_longestRun 69 = .ok (.goto (-39), 3) := by decide +kernel
theorem dX4_longestRun_72 : decode cX4_longestRun 72 = .ok (.iload_n 2, 1) := by decide +kernel
theorem dX4_longestRun_73 : decode cX4_longestRun 73 = .ok (.ireturn, 1) := by decide +kernel
theorem dX4_longestRunByShift_0 : decode cX4_longestRunByShift 0 = .ok (.aload_n 0, 1) := by decide +kernel
theorem dX4_longestRunByShift_1 : decode cX4_longestRunByShift 1 = .ok (.iload_n 1, 1) := by decide +kernel
theorem dX4_longestRunByShift_2 : decode cX4_longestRunByShift 2 = .ok (.invokevirtual 120, 3) := by decide +kernel
theorem dX4_longestRunByShift_5 : decode cX4_longestRunByShift 5 = .ok (.ireturn, 1) := by decide +kernel
theorem dX4_isAhead_0 : decode cX4_isAhead 0 = .ok (.aload_n 0, 1) := by decide +kernel
theorem dX4_isAhead_1 : decode cX4_isAhead 1 = .ok (.iload_n 1, 1) := by decide +kernel
theorem dX4_isAhead_2 : decode cX4_isAhead 2 = .ok (.iconst 3, 1) := by decide +kernel
theorem dX4_isAhead_3 : decode cX4_isAhead 3 = .ok (.invokevirtual 94, 3) := by decide +kernel
theorem dX4_isAhead_6 : decode cX4_isAhead 6 = .ok (.aload_n 0, 1) := by decide +kernel
theorem dX4_isAhead_7 : decode cX4_isAhead 7 = .ok (.iload_n 2, 1) := by decide +kernel
theorem dX4_isAhead_8 : decode cX4_isAhead 8 = .ok (.iconst 3, 1) := by decide +kernel
theorem dX4_isAhead_9 : decode cX4_isAhead 9 = .ok (.invokevirtual 94, 3) := by decide +kernel
theorem dX4_isAhead_12 : decode cX4_isAhead 12 = .ok (.isub, 1) := by decide +kernel
theorem dX4_isAhead_13 : decode cX4_isAhead 13 = .ok (.istore_n 3, 1) := by decide +kernel
theorem dX4_isAhead_14 : decode cX4_isAhead 14 = .ok (.aload_n 0, 1) := by decide +kernel
theorem dX4_isAhead_15 : decode cX4_isAhead 15 = .ok (.iload_n 2, 1) := by decide +kernel
theorem dX4_isAhead_16 : decode cX4_isAhead 16 = .ok (.invokevirtual 123, 3) := by decide +kernel
theorem dX4_isAhead_19 : decode cX4_isAhead 19 = .ok (.aload_n 0, 1) := by decide +kernel
theorem dX4_isAhead_20 : decode cX4_isAhead 20 = .ok (.iload_n 1, 1) := by decide +kernel
theorem dX4_isAhead_21 : decode cX4_isAhead 21 = .ok (.invokevirtual 123, 3) := by decide +kernel
theorem dX4_isAhead_24 : decode cX4_isAhead 24 = .ok (.isub, 1) := by decide +kernel
theorem dX4_isAhead_25 : decode cX4_isAhead 25 = .ok (.istore 4, 2) := by decide +kernel
theorem dX4_isAhead_27 : decode cX4_isAhead 27 = .ok (.iload_n 3, 1) := by decide +kernel
theorem dX4_isAhead_28 : decode cX4_isAhead 28 = .ok (.ifCond .eq 15, 3) := by decide +kernel
theorem dX4_isAhead_31 : decode cX4_isAhead 31 = .ok (.iload_n 3, 1) := by decide +kernel
theorem dX4_isAhead_32 : decode cX4_isAhead 32 = .ok (.ifCond .le 7, 3) := by decide +kernel
theorem dX4_isAhead_35 : decode cX4_isAhead 35 = .ok (.iconst 1, 1) := by decide +kernel
theorem dX4_isAhead_36 : decode cX4_isAhead 36 = .ok (.goto 35, 3) := by decide +kernel
theorem dX4_isAhead_39 : decode cX4_isAhead 39 = .ok (.iconst 0, 1) := by decide +kernel
theorem dX4_isAhead_40 : decode cX4_isAhead 40 = .ok (.goto 31, 3) := by decide +kernel
theorem dX4_isAhead_43 : decode cX4_isAhead 43 = .ok (.iload 4, 2) := by decide +kernel
theorem dX4_isAhead_45 : decode cX4_isAhead 45 = .ok (.ifCond .eq 16, 3) := by decide +kernel
theorem dX4_isAhead_48 : decode cX4_isAhead 48 = .ok (.iload 4, 2) := by decide +kernel
theorem dX4_isAhead_50 : decode cX4_isAhead 50 = .ok (.ifCond .le 7, 3) := by decide +kernel
theorem dX4_isAhead_53 : decode cX4_isAhead 53 = .ok (.iconst 1, 1) := by decide +kernel
theorem dX4_isAhead_54 : decode cX4_isAhead 54 = .ok (.goto 17, 3) := by decide +kernel
theorem dX4_isAhead_57 : decode cX4_isAhead 57 = .ok (.iconst 0, 1) := by decide +kernel
theorem dX4_isAhead_58 : decode cX4_isAhead 58 = .ok (.goto 13, 3) := by decide +kernel
theorem dX4_isAhead_61 : decode cX4_isAhead 61 = .ok (.iload_n 1, 1) := by decide +kernel
theorem dX4_isAhead_62 : decode cX4_isAhead 62 = .ok (.iload_n 2, 1) := by decide +kernel
theorem dX4_isAhead_63 : decode cX4_isAhead 63 = .ok (.if_icmp .ge 7, 3) := by decide +kernel
theorem dX4_isAhead_66 : decode cX4_isAhead 66 = .ok (.iconst 1, 1) := by decide +kernel
theorem dX4_isAhead_67 : decode cX4_isAhead 67 = .ok (.goto 4, 3) := by decide +kernel
theorem dX4_isAhead_70 : decode cX4_isAhead 70 = .ok (.iconst 0, 1) := by decide +kernel
theorem dX4_isAhead_71 : decode cX4_isAhead 71 = .ok (.ireturn, 1) := by decide +kernel
theorem dX4_billAtRank_0 : decode cX4_billAtRank 0 = .ok (.iconst (-1), 1) := by decide +kernel
theorem dX4_billAtRank_1 : decode cX4_billAtRank 1 = .ok (.istore_n 2, 1) := by decide +kernel
theorem dX4_billAtRank_2 : decode cX4_billAtRank 2 = .ok (.iconst 0, 1) := by decide +kernel
theorem dX4_billAtRank_3 : decode cX4_billAtRank 3 = .ok (.istore_n 3, 1) := by decide +kernel
theorem dX4_billAtRank_4 : decode cX4_billAtRank 4 = .ok (.iload_n 3, 1) := by decide +kernel
theorem dX4_billAtRank_5 : decode cX4_billAtRank 5 = .ok (.aload_n 0, 1) := by decide +kernel
theorem dX4_billAtRank_6 : decode cX4_billAtRank 6 = .ok (.getfield 9, 3) := by decide +kernel
theorem dX4_billAtRank_9 : decode cX4_billAtRank 9 = .ok (.iconst 1, 1) := by decide +kernel
theorem dX4_billAtRank_10 : decode cX4_billAtRank 10 = .ok (.iaload, 1) := by decide +kernel
theorem dX4_billAtRank_11 : decode cX4_billAtRank 11 = .ok (.if_icmp .ge 64, 3) := by decide +kernel
theorem dX4_billAtRank_14 : decode cX4_billAtRank 14 = .ok (.iconst 0, 1) := by decide +kernel
theorem dX4_billAtRank_15 : decode cX4_billAtRank 15 = .ok (.istore 4, 2) := by decide +kernel
theorem dX4_billAtRank_17 : decode cX4_billAtRank 17 = .ok (.iconst 0, 1) := by decide +kernel
theorem dX4_billAtRank_18 : decode cX4_billAtRank 18 = .ok (.istore 5, 2) := by decide +kernel
theorem dX4_billAtRank_20 : decode cX4_billAtRank 20 = .ok (.iload 5, 2) := by decide +kernel
theorem dX4_billAtRank_22 : decode cX4_billAtRank 22 = .ok (.aload_n 0, 1) := by decide +kernel
theorem dX4_billAtRank_23 : decode cX4_billAtRank 23 = .ok (.getfield 9, 3) := by decide +kernel
theorem dX4_billAtRank_26 : decode cX4_billAtRank 26 = .ok (.iconst 1, 1) := by decide +kernel
theorem dX4_billAtRank_27 : decode cX4_billAtRank 27 = .ok (.iaload, 1) := by decide +kernel
theorem dX4_billAtRank_28 : decode cX4_billAtRank 28 = .ok (.if_icmp .ge 29, 3) := by decide +kernel
theorem dX4_billAtRank_31 : decode cX4_billAtRank 31 = .ok (.iload 4, 2) := by decide +kernel
theorem dX4_billAtRank_33 : decode cX4_billAtRank 33 = .ok (.aload_n 0, 1) := by decide +kernel
theorem dX4_billAtRank_34 : decode cX4_billAtRank 34 = .ok (.iload 5, 2) := by decide +kernel
theorem dX4_billAtRank_36 : decode cX4_billAtRank 36 = .ok (.iload_n 3, 1) := by decide +kernel
theorem dX4_billAtRank_37 : decode cX4_billAtRank 37 = .ok (.invokevirtual 126, 3) := by decide +kernel
theorem dX4_billAtRank_40 : decode cX4_billAtRank 40 = .ok (.ifCond .eq 7, 3) := by decide +kernel
theorem dX4_billAtRank_43 : decode cX4_billAtRank 43 = .ok (.iconst 1, 1) := by decide +kernel
theorem dX4_billAtRank_44 : decode cX4_billAtRank 44 = .ok (.goto 4, 3) := by decide +kernel
theorem dX4_billAtRank_47 : decode cX4_billAtRank 47 = .ok (.iconst 0, 1) := by decide +kernel
theorem dX4_billAtRank_48 : decode cX4_billAtRank 48 = .ok (.iadd, 1) := by decide +kernel
theorem dX4_billAtRank_49 : decode cX4_billAtRank 49 = .ok (.istore 4, 2) := by decide +kernel
theorem dX4_billAtRank_51 : decode cX4_billAtRank 51 = .ok (.iinc 5 1, 3) := by decide +kernel
theorem dX4_billAtRank_54 : decode cX4_billAtRank 54 = .ok (.goto (-34), 3) := by decide +kernel
theorem dX4_billAtRank_57 : decode cX4_billAtRank 57 = .ok (.iload 4, 2) := by decide +kernel
theorem dX4_billAtRank_59 : decode cX4_billAtRank 59 = .ok (.iload_n 1, 1) := by decide +kernel
theorem dX4_billAtRank_60 : decode cX4_billAtRank 60 = .ok (.if_icmp .ne 7, 3) := by decide +kernel
theorem dX4_billAtRank_63 : decode cX4_billAtRank 63 = .ok (.iload_n 3, 1) := by decide +kernel
theorem dX4_billAtRank_64 : decode cX4_billAtRank 64 = .ok (.goto 4, 3) := by decide +kernel
theorem dX4_billAtRank_67 : decode cX4_billAtRank 67 = .ok (.iload_n 2, 1) := by decide +kernel
theorem dX4_billAtRank_68 : decode cX4_billAtRank 68 = .ok (.istore_n 2, 1) := by decide +kernel
theorem dX4_billAtRank_69 : decode cX4_billAtRank 69 = .ok (.iinc 3 1, 3) := by decide +kernel
theorem dX4_billAtRank_72 : decode cX4_billAtRank 72 = .ok (.goto (-68), 3) := by decide +kernel
theorem dX4_billAtRank_75 : decode cX4_billAtRank 75 = .ok (.aload_n 0, 1) := by decide +kernel
theorem dX4_billAtRank_76 : decode cX4_billAtRank 76 = .ok (.iconst 1, 1) := by decide +kernel
theorem dX4_billAtRank_77 : decode cX4_billAtRank 77 = .ok (.iload_n 2, 1) := by decide +kernel
theorem dX4_billAtRank_78 : decode cX4_billAtRank 78 = .ok (.ifCond .ge 7, 3) := by decide +kernel
theorem dX4_billAtRank_81 : decode cX4_billAtRank 81 = .ok (.iconst 1, 1) := by decide +kernel
theorem dX4_billAtRank_82 : decode cX4_billAtRank 82 = .ok (.goto 4, 3) := by decide +kernel
theorem dX4_billAtRank_85 : decode cX4_billAtRank 85 = .ok (.iconst 0, 1) := by decide +kernel
theorem dX4_billAtRank_86 : decode cX4_billAtRank 86 = .ok (.invokevirtual 74, 3) := by decide +kernel
theorem dX4_billAtRank_89 : decode cX4_billAtRank 89 = .ok (.ifCond .eq 7, 3) := by decide +kernel
theorem dX4_billAtRank_92 : decode cX4_billAtRank 92 = .ok (.iconst 0, 1) := by decide +kernel
theorem dX4_billAtRank_93 : decode cX4_billAtRank 93 = .ok (.goto 4, 3) := by decide +kernel
theorem dX4_billAtRank_96 : decode cX4_billAtRank 96 = .ok (.iload_n 2, 1) := by decide +kernel
theorem dX4_billAtRank_97 : decode cX4_billAtRank 97 = .ok (.ireturn, 1) := by decide +kernel
theorem dX4_vote_0 : decode cX4_vote 0 = .ok (.aload_n 0, 1) := by decide +kernel
theorem dX4_vote_1 : decode cX4_vote 1 = .ok (.iconst 1, 1) := by decide +kernel
theorem dX4_vote_2 : decode cX4_vote 2 = .ok (.aload_n 0, 1) := by decide +kernel
theorem dX4_vote_3 : decode cX4_vote 3 = .ok (.iload_n 1, 1) := by decide +kernel
theorem dX4_vote_4 : decode cX4_vote 4 = .ok (.invokevirtual 108, 3) := by decide +kernel
theorem dX4_vote_7 : decode cX4_vote 7 = .ok (.ifCond .eq 11, 3) := by decide +kernel
theorem dX4_vote_10 : decode cX4_vote 10 = .ok (.aload_n 0, 1) := by decide +kernel
theorem dX4_vote_11 : decode cX4_vote 11 = .ok (.iload_n 2, 1) := by decide +kernel
theorem dX4_vote_12 : decode cX4_vote 12 = .ok (.invokevirtual 81, 3) := by decide +kernel
theorem dX4_vote_15 : decode cX4_vote 15 = .ok (.ifCond .ne 7, 3) := by decide +kernel
theorem dX4_vote_18 : decode cX4_vote 18 = .ok (.iconst 1, 1) := by decide +kernel
theorem dX4_vote_19 : decode cX4_vote 19 = .ok (.goto 4, 3) := by decide +kernel
theorem dX4_vote_22 : decode cX4_vote 22 = .ok (.iconst 0, 1) := by decide +kernel
theorem dX4_vote_23 : decode cX4_vote 23 = .ok (.invokevirtual 74, 3) := by decide +kernel
theorem dX4_vote_26 : decode cX4_vote 26 = .ok (.ifCond .ne 46, 3) := by decide +kernel
theorem dX4_vote_29 : decode cX4_vote 29 = .ok (.aload_n 0, 1) := by decide +kernel
theorem dX4_vote_30 : decode cX4_vote 30 = .ok (.iconst 2, 1) := by decide +kernel
theorem dX4_vote_31 : decode cX4_vote 31 = .ok (.aload_n 0, 1) := by decide +kernel
theorem dX4_vote_32 : decode cX4_vote 32 = .ok (.iload_n 1, 1) := by decide +kernel
theorem dX4_vote_33 : decode cX4_vote 33 = .ok (.iconst 0, 1) := by decide +kernel
theorem dX4_vote_34 : decode cX4_vote 34 = .ok (.invokevirtual 94, 3) := by decide +kernel
theorem dX4_vote_37 : decode cX4_vote 37 = .ok (.ifCond .eq 7, 3) := by decide +kernel
theorem dX4_vote_40 : decode cX4_vote 40 = .ok (.iconst 1, 1) := by decide +kernel
theorem dX4_vote_41 : decode cX4_vote 41 = .ok (.goto 4, 3) := by decide +kernel
theorem dX4_vote_44 : decode cX4_vote 44 = .ok (.iconst 0, 1) := by decide +kernel
theorem dX4_vote_45 : decode cX4_vote 45 = .ok (.invokevirtual 74, 3) := by decide +kernel
theorem dX4_vote_48 : decode cX4_vote 48 = .ok (.ifCond .ne 24, 3) := by decide +kernel
theorem dX4_vote_51 : decode cX4_vote 51 = .ok (.aload_n 0, 1) := by decide +kernel
theorem dX4_vote_52 : decode cX4_vote 52 = .ok (.iconst 3, 1) := by decide +kernel
theorem dX4_vote_53 : decode cX4_vote 53 = .ok (.aload_n 0, 1) := by decide +kernel
theorem dX4_vote_54 : decode cX4_vote 54 = .ok (.iload_n 2, 1) := by decide +kernel
theorem dX4_vote_55 : decode cX4_vote 55 = .ok (.invokevirtual 84, 3) := by decide +kernel
theorem dX4_vote_58 : decode cX4_vote 58 = .ok (.ifCond .ne 7, 3) := by decide +kernel
theorem dX4_vote_61 : decode cX4_vote 61 = .ok (.iconst 1, 1) := by decide +kernel
theorem dX4_vote_62 : decode cX4_vote 62 = .ok (.goto 4, 3) := by decide +kernel
theorem dX4_vote_65 : decode cX4_vote 65 = .ok (.iconst 0, 1) := by decide +kernel
theorem dX4_vote_66 : decode cX4_vote 66 = .ok (.invokevirtual 74, 3) := by decide +kernel
theorem dX4_vote_69 : decode cX4_vote 69 = .ok (.ifCond .eq 5, 3) := by decide +kernel
theorem dX4_vote_72 : decode cX4_vote 72 = .ok (.iconst 0, 1) := by decide +kernel
theorem dX4_vote_73 : decode cX4_vote 73 = .ok (.ireturn, 1) := by decide +kernel
theorem dX4_vote_74 : decode cX4_vote 74 = .ok (.aload_n 0, 1) := by decide +kernel
theorem dX4_vote_75 : decode cX4_vote 75 = .ok (.invokevirtual 78, 3) := by decide +kernel
theorem dX4_vote_78 : decode cX4_vote 78 = .ok (.aload_n 0, 1) := by decide +kernel
theorem dX4_vote_79 : decode cX4_vote 79 = .ok (.iload_n 1, 1) := by decide +kernel
theorem dX4_vote_80 : decode cX4_vote 80 = .ok (.iload_n 3, 1) := by decide +kernel
theorem dX4_vote_81 : decode cX4_vote 81 = .ok (.aload_n 0, 1) := by decide +kernel
theorem dX4_vote_82 : decode cX4_vote 82 = .ok (.iload_n 1, 1) := by decide +kernel
theorem dX4_vote_83 : decode cX4_vote 83 = .ok (.iload_n 3, 1) := by decide +kernel
theorem dX4_vote_84 : decode cX4_vote 84 = .ok (.invokevirtual 94, 3) := by decide +kernel
theorem dX4_vote_87 : decode cX4_vote 87 = .ok (.iconst 1, 1) := by decide +kernel
theorem dX4_vote_88 : decode cX4_vote 88 = .ok (.iload_n 2, 1) := by decide +kernel
theorem dX4_vote_89 : decode cX4_vote 89 = .ok (.ishl, 1) := by decide +kernel
theorem dX4_vote_90 : decode cX4_vote 90 = .ok (.ior, 1) := by decide +kernel
theorem dX4_vote_91 : decode cX4_vote 91 = .ok (.invokevirtual 97, 3) := by decide +kernel
theorem dX4_vote_94 : decode cX4_vote 94 = .ok (.aload_n 0, 1) := by decide +kernel
theorem dX4_vote_95 : decode cX4_vote 95 = .ok (.iload_n 1, 1) := by decide +kernel
theorem dX4_vote_96 : decode cX4_vote 96 = .ok (.iload 4, 2) := by decide +kernel
theorem dX4_vote_98 : decode cX4_vote 98 = .ok (.aload_n 0, 1) := by decide +kernel
theorem dX4_vote_99 : decode cX4_vote 99 = .ok (.iload_n 1, 1) := by decide +kernel
theorem dX4_vote_100 : decode cX4_vote 100 = .ok (.iload 4, 2) := by decide +kernel
theorem dX4_vote_102 : decode cX4_vote 102 = .ok (.invokevirtual 94, 3) := by decide +kernel
theorem dX4_vote_105 : decode cX4_vote 105 = .ok (.iconst 1, 1) := by decide +kernel
theorem dX4_vote_106 : decode cX4_vote 106 = .ok (.iload_n 2, 1) := by decide +kernel
theorem dX4_vote_107 : decode cX4_vote 107 = .ok (.ishl, 1) := by decide +kernel
theorem dX4_vote_108 : decode cX4_vote 108 = .ok (.iconst (-1), 1) := by decide +kernel
theorem dX4_vote_109 : decode cX4_vote 109 = .ok (.ixor, 1) := by decide +kernel
theorem dX4_vote_110 : decode cX4_vote 110 = .ok (.iand, 1) := by decide +kernel
theorem dX4_vote_111 : decode cX4_vote 111 = .ok (.invokevirtual 97, 3) := by decide +kernel
theorem dX4_vote_114 : decode cX4_vote 114 = .ok (.aload_n 0, 1) := by decide +kernel
theorem dX4_vote_115 : decode cX4_vote 115 = .ok (.aload_n 0, 1) := by decide +kernel
theorem dX4_vote_116 : decode cX4_vote 116 = .ok (.iload_n 1, 1) := by decide +kernel
theorem dX4_vote_117 : decode cX4_vote 117 = .ok (.iload_n 3, 1) := by decide +kernel
theorem dX4_vote_118 : decode cX4_vote 118 = .ok (.invokevirtual 94, 3) := by decide +kernel
theorem dX4_vote_121 : decode cX4_vote 121 = .ok (.invokevirtual 129, 3) := by decide +kernel
theorem dX4_vote_124 : decode cX4_vote 124 = .ok (.ireturn, 1) := by decide +kernel
theorem dX4_voteFor_0 : decode cX4_voteFor 0 = .ok (.aload_n 0, 1) := by decide +kernel
theorem dX4_voteFor_1 : decode cX4_voteFor 1 = .ok (.iload_n 1, 1) := by decide +kernel
theorem dX4_voteFor_2 : decode cX4_voteFor 2 = .ok (.iload_n 2, 1) := by decide +kernel
theorem dX4_voteFor_3 : decode cX4_voteFor 3 = .ok (.iconst 5, 1) := by decide +kernel
theorem dX4_voteFor_4 : decode cX4_voteFor 4 = .ok (.bipush 6, 2) := by decide +kernel
theorem dX4_voteFor_6 : decode cX4_voteFor 6 = .ok (.invokevirtual 132, 3) := by decide +kernel
theorem dX4_voteFor_9 : decode cX4_voteFor 9 = .ok (.ireturn, 1) := by decide +kernel
theorem dX4_voteAgainst_0 : decode cX4_voteAgainst 0 = .ok (.aload_n 0, 1) := by decide +kernel
theorem dX4_voteAgainst_1 : decode cX4_voteAgainst 1 = .ok (.iload_n 1, 1) := by decide +kernel
theorem dX4_voteAgainst_2 : decode cX4_voteAgainst 2 = .ok (.iload_n 2, 1) := by decide +kernel
theorem dX4_voteAgainst_3 : decode cX4_voteAgainst 3 = .ok (.bipush 6, 2) := by decide +kernel
theorem dX4_voteAgainst_5 : decode cX4_voteAgainst 5 = .ok (.iconst 5, 1) := by decide +kernel
theorem dX4_voteAgainst_6 : decode cX4_voteAgainst 6 = .ok (.invokevirtual 132, 3) := by decide +kernel
theorem dX4_voteAgainst_9 : decode cX4_voteAgainst 9 = .ok (.ireturn, 1) := by decide +kernel
theorem dX4_weightFor_0 : decode cX4_weightFor 0 = .ok (.aload_n 0, 1) := by decide +kernel
theorem dX4_weightFor_1 : decode cX4_weightFor 1 = .ok (.iconst 1, 1) := by decide +kernel
theorem dX4_weightFor_2 : decode cX4_weightFor 2 = .ok (.aload_n 0, 1) := by decide +kernel
theorem dX4_weightFor_3 : decode cX4_weightFor 3 = .ok (.iload_n 1, 1) := by decide +kernel
theorem dX4_weightFor_4 : decode cX4_weightFor 4 = .ok (.invokevirtual 108, 3) := by decide +kernel
theorem dX4_weightFor_7 : decode cX4_weightFor 7 = .ok (.ifCond .ne 7, 3) := by decide +kernel
theorem dX4_weightFor_10 : decode cX4_weightFor 10 = .ok (.iconst 1, 1) := by decide +kernel
theorem dX4_weightFor_11 : decode cX4_weightFor 11 = .ok (.goto 4, 3) := by decide +kernel
theorem dX4_weightFor_14 : decode cX4_weightFor 14 = .ok (.iconst 0, 1) := by decide +kernel
theorem dX4_weightFor_15 : decode cX4_weightFor 15 = .ok (.invokevirtual 74, 3) := by decide +kernel
theorem dX4_weightFor_18 : decode cX4_weightFor 18 = .ok (.ifCond .eq 7, 3) := by decide +kernel
theorem dX4_weightFor_21 : decode cX4_weightFor 21 = .ok (.iconst 0, 1) := by decide +kernel
theorem dX4_weightFor_22 : decode cX4_weightFor 22 = .ok (.goto 13, 3) := by decide +kernel
theorem dX4_weightFor_25 : decode cX4_weightFor 25 = .ok (.aload_n 0, 1) := by decide +kernel
theorem dX4_weightFor_26 : decode cX4_weightFor 26 = .ok (.aload_n 0, 1) := by decide +kernel
theorem dX4_weightFor_27 : decode cX4_weightFor 27 = .ok (.iload_n 1, 1) := by decide +kernel
theorem dX4_weightFor_28 : decode cX4_weightFor 28 = .ok (.iconst 5, 1) := by decide +kernel
theorem dX4_weightFor_29 : decode cX4_weightFor 29 = .ok (.invokevirtual 94, 3) := by decide +kernel
theorem dX4_weightFor_32 : decode cX4_weightFor 32 = .ok (.invokevirtual 129, 3) := by decide +kernel
theorem dX4_weightFor_35 : decode cX4_weightFor 35 = .ok (.ireturn, 1) := by decide +kernel
theorem dX4_weightForByDigits_0 : decode cX4_weightForByDigits 0 = .ok (.aload_n 0, 1) := by decide +kernel
theorem dX4_weightForByDigits_1 : decode cX4_weightForByDigits 1 = .ok (.iload_n 1, 1) := by decide +kernel
theorem dX4_weightForByDigits_2 : decode cX4_weightForByDigits 2 = .ok (.invokevirtual 136, 3) := by decide +kernel
theorem dX4_weightForByDigits_5 : decode cX4_weightForByDigits 5 = .ok (.ireturn, 1) := by decide +kernel
theorem dX4_weightAgainst_0 : decode cX4_weightAgainst 0 = .ok (.aload_n 0, 1) := by decide +kernel
theorem dX4_weightAgainst_1 : decode cX4_weightAgainst 1 = .ok (.iconst 1, 1) := by decide +kernel
theorem dX4_weightAgainst_2 : decode cX4_weightAgainst 2 = .ok (.aload_n 0, 1) := by decide +kernel
theorem dX4_weightAgainst_3 : decode cX4_weightAgainst 3 = .ok (.iload_n 1, 1) := by decide +kernel
theorem dX4_weightAgainst_4 : decode cX4_weightAgainst 4 = .ok (.invokevirtual 108, 3) := by decide +kernel
theorem dX4_weightAgainst_7 : decode cX4_weightAgainst 7 = .ok (.ifCond .ne 7, 3) := by decide +kernel
theorem dX4_weightAgainst_10 : decode cX4_weightAgainst 10 = .ok (.iconst 1, 1) := by decide +kernel
theorem dX4_weightAgainst_11 : decode cX4_weightAgainst 11 = .ok (.goto 4, 3) := by decide +kernel
theorem dX4_weightAgainst_14 : decode cX4_weightAgainst 14 = .ok (.iconst 0, 1) := by decide +kernel
theorem dX4_weightAgainst_15 : decode cX4_weightAgainst 15 = .ok (.invokevirtual 74, 3) := by decide +kernel
theorem dX4_weightAgainst_18 : decode cX4_weightAgainst 18 = .ok (.ifCond .eq 7, 3) := by decide +kernel
theorem dX4_weightAgainst_21 : decode cX4_weightAgainst 21 = .ok (.iconst 0, 1) := by decide +kernel
theorem dX4_weightAgainst_22 : decode cX4_weightAgainst 22 = .ok (.goto 14, 3) := by decide +kernel
theorem dX4_weightAgainst_25 : decode cX4_weightAgainst 25 = .ok (.aload_n 0, 1) := by decide +kernel
theorem dX4_weightAgainst_26 : decode cX4_weightAgainst 26 = .ok (.aload_n 0, 1) := by decide +kernel
theorem dX4_weightAgainst_27 : decode cX4_weightAgainst 27 = .ok (.iload_n 1, 1) := by decide +kernel
theorem dX4_weightAgainst_28 : decode cX4_weightAgainst 28 = .ok (.bipush 6, 2) := by decide +kernel
theorem dX4_weightAgainst_30 : decode cX4_weightAgainst 30 = .ok (.invokevirtual 94, 3) := by decide +kernel
theorem dX4_weightAgainst_33 : decode cX4_weightAgainst 33 = .ok (.invokevirtual 129, 3) := by decide +kernel
theorem dX4_weightAgainst_36 : decode cX4_weightAgainst 36 = .ok (.ireturn, 1) := by decide +kernel
theorem dX4_closeReading_0 : decode cX4_closeReading 0 = .ok (.aload_n 0, 1) := by decide +kernel
theorem dX4_closeReading_1 : decode cX4_closeReading 1 = .ok (.iconst 1, 1) := by decide +kernel
theorem dX4_closeReading_2 : decode cX4_closeReading 2 = .ok (.aload_n 0, 1) := by decide +kernel
theorem dX4_closeReading_3 : decode cX4_closeReading 3 = .ok (.iload_n 1, 1) := by decide +kernel
theorem dX4_closeReading_4 : decode cX4_closeReading 4 = .ok (.invokevirtual 108, 3) := by decide +kernel
theorem dX4_closeReading_7 : decode cX4_closeReading 7 = .ok (.ifCond .ne 7, 3) := by decide +kernel
theorem dX4_closeReading_10 : decode cX4_closeReading 10 = .ok (.iconst 1, 1) := by decide +kernel
theorem dX4_closeReading_11 : decode cX4_closeReading 11 = .ok (.goto 4, 3) := by decide +kernel
theorem dX4_closeReading_14 : decode cX4_closeReading 14 = .ok (.iconst 0, 1) := by decide +kernel
theorem dX4_closeReading_15 : decode cX4_closeReading 15 = .ok (.invokevirtual 74, 3) := by decide +kernel
theorem dX4_closeReading_18 : decode cX4_closeReading 18 = .ok (.ifCond .ne 55, 3) := by decide +kernel
theorem dX4_closeReading_21 : decode cX4_closeReading 21 = .ok (.aload_n 0, 1) := by decide +kernel
theorem dX4_closeReading_22 : decode cX4_closeReading 22 = .ok (.iconst 2, 1) := by decide +kernel
theorem dX4_closeReading_23 : decode cX4_closeReading 23 = .ok (.aload_n 0, 1) := by decide +kernel
theorem dX4_closeReading_24 : decode cX4_closeReading 24 = .ok (.iload_n 1, 1) := by decide +kernel
theorem dX4_closeReading_25 : decode cX4_closeReading 25 = .ok (.iconst 0, 1) := by decide +kernel
theorem dX4_closeReading_26 : decode cX4_closeReading 26 = .ok (.invokevirtual 94, 3) := by decide +kernel
theorem dX4_closeReading_29 : decode cX4_closeReading 29 = .ok (.ifCond .eq 7, 3) := by decide +kernel
theorem dX4_closeReading_32 : decode cX4_closeReading 32 = .ok (.iconst 1, 1) := by decide +kernel
theorem dX4_closeReading_33 : decode cX4_closeReading 33 = .ok (.goto 4, 3) := by decide +kernel
theorem dX4_closeReading_36 : decode cX4_closeReading 36 = .ok (.iconst 0, 1) := by decide +kernel
theorem dX4_closeReading_37 : decode cX4_closeReading 37 = .ok (.invokevirtual 74, 3) := by decide +kernel
theorem dX4_closeReading_40 : decode cX4_closeReading 40 = .ok (.ifCond .ne 33, 3) := by decide +kernel
theorem dX4_closeReading_43 : decode cX4_closeReading 43 = .ok (.aload_n 0, 1) := by decide +kernel
theorem dX4_closeReading_44 : decode cX4_closeReading 44 = .ok (.iconst 3, 1) := by decide +kernel
theorem dX4_closeReading_45 : decode cX4_closeReading 45 = .ok (.aload_n 0, 1) := by decide +kernel
theorem dX4_closeReading_46 : decode cX4_closeReading 46 = .ok (.invokevirtual 87, 3) := by decide +kernel
theorem dX4_closeReading_49 : decode cX4_closeReading 49 = .ok (.ifCond .eq 13, 3) := by decide +kernel
theorem dX4_closeReading_52 : decode cX4_closeReading 52 = .ok (.aload_n 0, 1) := by decide +kernel
theorem dX4_closeReading_53 : decode cX4_closeReading 53 = .ok (.iload_n 1, 1) := by decide +kernel
theorem dX4_closeReading_54 : decode cX4_closeReading 54 = .ok (.bipush 7, 2) := by decide +kernel
theorem dX4_closeReading_56 : decode cX4_closeReading 56 = .ok (.invokevirtual 94, 3) := by decide +kernel
theorem dX4_closeReading_59 : decode cX4_closeReading 59 = .ok (.ifCond .le 7, 3) := by decide +kernel
theorem dX4_closeReading_62 : decode cX4_closeReading 62 = .ok (.iconst 1, 1) := by decide +kernel
theorem dX4_closeReading_63 : decode cX4_closeReading 63 = .ok (.goto 4, 3) := by decide +kernel
theorem dX4_closeReading_66 : decode cX4_closeReading 66 = .ok (.iconst 0, 1) := by decide +kernel
theorem dX4_closeReading_67 : decode cX4_closeReading 67 = .ok (.invokevirtual 74, 3) := by decide +kernel
theorem dX4_closeReading_70 : decode cX4_closeReading 70 = .ok (.ifCond .eq 5, 3) := by decide +kernel
theorem dX4_closeReading_73 : decode cX4_closeReading 73 = .ok (.iconst 0, 1) := by decide +kernel
theorem dX4_closeReading_74 : decode cX4_closeReading 74 = .ok (.ireturn, 1) := by decide +kernel
theorem dX4_closeReading_75 : decode cX4_closeReading 75 = .ok (.aload_n 0, 1) := by decide +kernel
theorem dX4_closeReading_76 : decode cX4_closeReading 76 = .ok (.invokevirtual 78, 3) := by decide +kernel
theorem dX4_closeReading_79 : decode cX4_closeReading 79 = .ok (.aload_n 0, 1) := by decide +kernel
theorem dX4_closeReading_80 : decode cX4_closeReading 80 = .ok (.aload_n 0, 1) := by decide +kernel
theorem dX4_closeReading_81 : decode cX4_closeReading 81 = .ok (.iload_n 1, 1) := by decide +kernel
theorem dX4_closeReading_82 : decode cX4_closeReading 82 = .ok (.iconst 5, 1) := by decide +kernel
theorem dX4_closeReading_83 : decode cX4_closeReading 83 = .ok (.invokevirtual 94, 3) := by decide +kernel
theorem dX4_closeReading_86 : decode cX4_closeReading 86 = .ok (.invokevirtual 129, 3) := by decide +kernel
theorem dX4_closeReading_89 : decode cX4_closeReading 89 = .ok (.aload_n 0, 1) := by decide +kernel
theorem dX4_closeReading_90 : decode cX4_closeReading 90 = .ok (.aload_n 0, 1) := by decide +kernel
theorem dX4_closeReading_91 : decode cX4_closeReading 91 = .ok (.iload_n 1, 1) := by decide +kernel
theorem dX4_closeReading_92 : decode cX4_closeReading 92 = .ok (.bipush 6, 2) := by decide +kernel
theorem dX4_closeReading_94 : decode cX4_closeReading 94 = .ok (.invokevirtual 94, 3) := by decide +kernel
theorem dX4_closeReading_97 : decode cX4_closeReading 97 = .ok (.invokevirtual 129, 3) := by decide +kernel
theorem dX4_closeReading_100 : decode cX4_closeReading 100 = .ok (.if_icmp .le 7, 3) := by decide +kernel
theorem dX4_closeReading_103 : decode cX4_closeReading 103 = .ok (.iconst 1, 1) := by decide +kernel
theorem dX4_closeReading_104 : decode cX4_closeReading 104 = .ok (.goto 4, 3) := by decide +kernel
theorem dX4_closeReading_107 : decode cX4_closeReading 107 = .ok (.iconst 0, 1) := by decide +kernel
theorem dX4_closeReading_108 : decode cX4_closeReading 108 = .ok (.istore_n 2, 1) := by decide +kernel
theorem dX4_closeReading_109 : decode cX4_closeReading 109 = .ok (.aload_n 0, 1) := by decide +kernel
theorem dX4_closeReading_110 : decode cX4_closeReading 110 = .ok (.iload_n 1, 1) := by decide +kernel
theorem dX4_closeReading_111 : decode cX4_closeReading 111 = .ok (.iconst 3, 1) := by decide +kernel
theorem dX4_closeReading_112 : decode cX4_closeReading 112 = .ok (.aload_n 0, 1) := by decide +kernel
theorem dX4_closeReading_113 : decode cX4_closeReading 113 = .ok (.iload_n 1, 1) := by decide +kernel
theorem dX4_closeReading_114 : decode cX4_closeReading 114 = .ok (.iconst 3, 1) := by decide +kernel
theorem dX4_closeReading_115 : decode cX4_closeReading 115 = .ok (.invokevirtual 94, 3) := by decide +kernel
theorem dX4_closeReading_118 : decode cX4_closeReading 118 = .ok (.iload_n 2, 1) := by decide +kernel
theorem dX4_closeReading_119 : decode cX4_closeReading 119 = .ok (.ifCond .eq 7, 3) := by decide +kernel
theorem dX4_closeReading_122 : decode cX4_closeReading 122 = .ok (.iconst 1, 1) := by decide +kernel
theorem dX4_closeReading_123 : decode cX4_closeReading 123 = .ok (.goto 4, 3) := by decide +kernel
theorem dX4_closeReading_126 : decode cX4_closeReading 126 = .ok (.iconst 0, 1) := by decide +kernel
theorem dX4_closeReading_127 : decode cX4_closeReading 127 = .ok (.iadd, 1) := by decide +kernel
theorem dX4_closeReading_128 : decode cX4_closeReading 128 = .ok (.invokevirtual 97, 3) := by decide +kernel
theorem dX4_closeReading_131 : decode cX4_closeReading 131 = .ok (.aload_n 0, 1) := by decide +kernel
theorem dX4_closeReading_132 : decode cX4_closeReading 132 = .ok (.iload_n 1, 1) := by decide +kernel
theorem dX4_closeReading_133 : decode cX4_closeReading 133 = .ok (.iload_n 2, 1) := by decide +kernel
theorem dX4_closeReading_134 : decode cX4_closeReading 134 = .ok (.ifCond .ne 7, 3) := by decide +kernel
theorem dX4_closeReading_137 : decode cX4_closeReading 137 = .ok (.iconst 2, 1) := by decide +kernel
theorem dX4_closeReading_138 : decode cX4_closeReading 138 = .ok (.goto 18, 3) := by decide +kernel
theorem dX4_closeReading_141 : decode cX4_closeReading 141 = .ok (.aload_n 0, 1) := by decide +kernel
theorem dX4_closeReading_142 : decode cX4_closeReading 142 = .ok (.iload_n 1, 1) := by decide +kernel
theorem dX4_closeReading_143 : decode cX4_closeReading 143 = .ok (.iconst 3, 1) := by decide +kernel
theorem dX4_closeReading_144 : decode cX4_closeReading 144 = .ok (.invokevirtual 94, 3) := by decide +kernel
theorem dX4_closeReading_147 : decode cX4_closeReading 147 = .ok (.iconst 3, 1) := by decide +kernel
theorem dX4_closeReading_148 : decode cX4_closeReading 148 = .ok (.if_icmp .ne 7, 3) := by decide +kernel
theorem dX4_closeReading_151 : decode cX4_closeReading 151 = .ok (.iconst 1, 1) := by decide +kernel
theorem dX4_closeReading_152 : decode cX4_closeReading 152 = .ok (.goto 4, 3) := by decide +kernel
theorem dX4_closeReading_155 : decode cX4_closeReading 155 = .ok (.iconst 0, 1) := by decide +kernel
theorem dX4_closeReading_156 : decode cX4_closeReading 156 = .ok (.invokevirtual 139, 3) := by decide +kernel
theorem dX4_closeReading_159 : decode cX4_closeReading 159 = .ok (.iload_n 2, 1) := by decide +kernel
theorem dX4_closeReading_160 : decode cX4_closeReading 160 = .ok (.ireturn, 1) := by decide +kernel
theorem dX4_meanWeight_0 : decode cX4_meanWeight 0 = .ok (.aload_n 0, 1) := by decide +kernel
theorem dX4_meanWeight_1 : decode cX4_meanWeight 1 = .ok (.iconst 1, 1) := by decide +kernel
theorem dX4_meanWeight_2 : decode cX4_meanWeight 2 = .ok (.aload_n 0, 1) := by decide +kernel
theorem dX4_meanWeight_3 : decode cX4_meanWeight 3 = .ok (.getfield 9, 3) := by decide +kernel
theorem dX4_meanWeight_6 : decode cX4_meanWeight 6 = .ok (.iconst 0, 1) := by decide +kernel
theorem dX4_meanWeight_7 : decode cX4_meanWeight 7 = .ok (.iaload, 1) := by decide +kernel
theorem dX4_meanWeight_8 : decode cX4_meanWeight 8 = .ok (.ifCond .ne 7, 3) := by decide +kernel
theorem dX4_meanWeight_11 : decode cX4_meanWeight 11 = .ok (.iconst 1, 1) := by decide +kernel
theorem dX4_meanWeight_12 : decode cX4_meanWeight 12 = .ok (.goto 4, 3) := by decide +kernel
theorem dX4_meanWeight_15 : decode cX4_meanWeight 15 = .ok (.iconst 0, 1) := by decide +kernel
theorem dX4_meanWeight_16 : decode cX4_meanWeight 16 = .ok (.invokevirtual 74, 3) := by decide +kernel
theorem dX4_meanWeight_19 : decode cX4_meanWeight 19 = .ok (.ifCond .eq 7, 3) := by decide +kernel
theorem dX4_meanWeight_22 : decode cX4_meanWeight 22 = .ok (.dconst 0, 1) := by decide +kernel
theorem dX4_meanWeight_23 : decode cX4_meanWeight 23 = .ok (.goto 17, 3) := by decide +kernel
theorem dX4_meanWeight_26 : decode cX4_meanWeight 26 = .ok (.aload_n 0, 1) := by decide +kernel
theorem dX4_meanWeight_27 : decode cX4_meanWeight 27 = .ok (.iconst (-1), 1) := by decide +kernel
theorem dX4_meanWeight_28 : decode cX4_meanWeight 28 = .ok (.invokevirtual 129, 3) := by decide +kernel
theorem dX4_meanWeight_31 : decode cX4_meanWeight 31 = .ok (.i2d, 1) := by decide +kernel
theorem dX4_meanWeight_32 : decode cX4_meanWeight 32 = .ok (.aload_n 0, 1) := by decide +kernel
theorem dX4_meanWeight_33 : decode cX4_meanWeight 33 = .ok (.getfield 9, 3) := by decide +kernel
theorem dX4_meanWeight_36 : decode cX4_meanWeight 36 = .ok (.iconst 0, 1) := by decide +kernel
theorem dX4_meanWeight_37 : decode cX4_meanWeight 37 = .ok (.iaload, 1) := by decide +kernel
theorem dX4_meanWeight_38 : decode cX4_meanWeight 38 = .ok (.i2d, 1) := by decide +kernel
theorem dX4_meanWeight_39 : decode cX4_meanWeight 39 = .ok (.ddiv, 1) := by decide +kernel
theorem dX4_meanWeight_40 : decode cX4_meanWeight 40 = .ok (.dreturn, 1) := by decide +kernel
theorem dX4_shareBits_0 : decode cX4_shareBits 0 = .ok (.aload_n 0, 1) := by decide +kernel
theorem dX4_shareBits_1 : decode cX4_shareBits 1 = .ok (.iconst 1, 1) := by decide +kernel
theorem dX4_shareBits_2 : decode cX4_shareBits 2 = .ok (.aload_n 0, 1) := by decide +kernel
theorem dX4_shareBits_3 : decode cX4_shareBits 3 = .ok (.iload_n 1, 1) := by decide +kernel
theorem dX4_shareBits_4 : decode cX4_shareBits 4 = .ok (.invokevirtual 108, 3) := by decide +kernel
theorem dX4_shareBits_7 : decode cX4_shareBits 7 = .ok (.ifCond .ne 7, 3) := by decide +kernel
theorem dX4_shareBits_10 : decode cX4_shareBits 10 = .ok (.iconst 1, 1) := by decide +kernel
theorem dX4_shareBits_11 : decode cX4_shareBits 11 = .ok (.goto 4, 3) := by decide +kernel
theorem dX4_shareBits_14 : decode cX4_shareBits 14 = .ok (.iconst 0, 1) := by decide +kernel
theorem dX4_shareBits_15 : decode cX4_shareBits 15 = .ok (.invokevirtual 74, 3) := by decide +kernel
theorem dX4_shareBits_18 : decode cX4_shareBits 18 = .ok (.ifCond .eq 5, 3) := by decide +kernel
theorem dX4_shareBits_21 : decode cX4_shareBits 21 = .ok (.iconst 0, 1) := by decide +kernel
theorem dX4_shareBits_22 : decode cX4_shareBits 22 = .ok (.ireturn, 1) := by decide +kernel
theorem dX4_shareBits_23 : decode cX4_shareBits 23 = .ok (.aload_n 0, 1) := by decide +kernel
theorem dX4_shareBits_24 : decode cX4_shareBits 24 = .ok (.aload_n 0, 1) := by decide +kernel
theorem dX4_shareBits_25 : decode cX4_shareBits 25 = .ok (.iload_n 1, 1) := by decide +kernel
theorem dX4_shareBits_26 : decode cX4_shareBits 26 = .ok (.iconst 5, 1) := by decide +kernel
theorem dX4_shareBits_27 : decode cX4_shareBits 27 = .ok (.invokevirtual 94, 3) := by decide +kernel
theorem dX4_shareBits_30 : decode cX4_shareBits 30 = .ok (.aload_n 0, 1) := by decide +kernel
theorem dX4_shareBits_31 : decode cX4_shareBits 31 = .ok (.iload_n 1, 1) := by decide +kernel
theorem dX4_shareBits_32 : decode cX4_shareBits 32 = .ok (.bipush 6, 2) := by decide +kernel
theorem dX4_shareBits_34 : decode cX4_shareBits 34 = .ok (.invokevirtual 94, 3) := by decide +kernel
theorem dX4_shareBits_37 : decode cX4_shareBits 37 = .ok (.ior, 1) := by decide +kernel
theorem dX4_shareBits_38 : decode cX4_shareBits 38 = .ok (.invokevirtual 129, 3) := by decide +kernel
theorem dX4_shareBits_41 : decode cX4_shareBits 41 = .ok (.istore_n 2, 1) := by decide +kernel
theorem dX4_shareBits_42 : decode cX4_shareBits 42 = .ok (.aload_n 0, 1) := by decide +kernel
theorem dX4_shareBits_43 : decode cX4_shareBits 43 = .ok (.iconst 2, 1) := by decide +kernel
theorem dX4_shareBits_44 : decode cX4_shareBits 44 = .ok (.iload_n 2, 1) := by decide +kernel
theorem dX4_shareBits_45 : decode cX4_shareBits 45 = .ok (.ifCond .ne 7, 3) := by decide +kernel
theorem dX4_shareBits_48 : decode cX4_shareBits 48 = .ok (.iconst 1, 1) := by decide +kernel
theorem dX4_shareBits_49 : decode cX4_shareBits 49 = .ok (.goto 4, 3) := by decide +kernel
theorem dX4_shareBits_52 : decode cX4_shareBits 52 = .ok (.iconst 0, 1) := by decide +kernel
theorem dX4_shareBits_53 : decode cX4_shareBits 53 = .ok (.invokevirtual 74, 3) := by decide +kernel
theorem dX4_shareBits_56 : decode cX4_shareBits 56 = .ok (.ifCond .eq 7, 3) := by decide +kernel
theorem dX4_shareBits_59 : decode cX4_shareBits 59 = .ok (.iconst 0, 1) := by decide +kernel
theorem dX4_shareBits_60 : decode cX4_shareBits 60 = .ok (.goto 20, 3) := by decide +kernel
theorem dX4_shareBits_63 : decode cX4_shareBits 63 = .ok (.aload_n 0, 1) := by decide +kernel
theorem dX4_shareBits_64 : decode cX4_shareBits 64 = .ok (.aload_n 0, 1) := by decide +kernel
theorem dX4_shareBits_65 : decode cX4_shareBits 65 = .ok (.iload_n 1, 1) := by decide +kernel
theorem dX4_shareBits_66 : decode cX4_shareBits 66 = .ok (.iconst 5, 1) := by decide +kernel
theorem dX4_shareBits_67 : decode cX4_shareBits 67 = .ok (.invokevirtual 94, 3) := by decide +kernel
theorem dX4_shareBits_70 : decode cX4_shareBits 70 = .ok (.invokevirtual 129, 3) := by decide +kernel
theorem dX4_shareBits_73 : decode cX4_shareBits 73 = .ok (.i2f, 1) := by decide +kernel
theorem dX4_shareBits_74 : decode cX4_shareBits 74 = .ok (.iload_n 2, 1) := by decide +kernel
theorem dX4_shareBits_75 : decode cX4_shareBits 75 = .ok (.i2f, 1) := by decide +kernel
theorem dX4_shareBits_76 : decode cX4_shareBits 76 = .ok (.fdiv, 1) := by decide +kernel
theorem dX4_shareBits_77 : decode cX4_shareBits 77 = .ok (.invokestatic 142, 3) := by decide +kernel
theorem dX4_shareBits_80 : decode cX4_shareBits 80 = .ok (.ireturn, 1) := by decide +kernel
theorem dX4_clauseOf_0 : decode cX4_clauseOf 0 = .ok (.aload_n 0, 1) := by decide +kernel
theorem dX4_clauseOf_1 : decode cX4_clauseOf 1 = .ok (.iload_n 1, 1) := by decide +kernel
theorem dX4_clauseOf_2 : decode cX4_clauseOf 2 = .ok (.bipush 8, 2) := by decide +kernel
theorem dX4_clauseOf_4 : decode cX4_clauseOf 4 = .ok (.iconst 2, 1) := by decide +kernel
theorem dX4_clauseOf_5 : decode cX4_clauseOf 5 = .ok (.iload_n 2, 1) := by decide +kernel
theorem dX4_clauseOf_6 : decode cX4_clauseOf 6 = .ok (.imul, 1) := by decide +kernel
theorem dX4_clauseOf_7 : decode cX4_clauseOf 7 = .ok (.iadd, 1) := by decide +kernel
theorem dX4_clauseOf_8 : decode cX4_clauseOf 8 = .ok (.invokevirtual 94, 3) := by decide +kernel
theorem dX4_clauseOf_11 : decode cX4_clauseOf 11 = .ok (.ireturn, 1) := by decide +kernel
theorem dX4_supporters_0 : decode cX4_supporters 0 = .ok (.aload_n 0, 1) := by decide +kernel
theorem dX4_supporters_1 : decode cX4_supporters 1 = .ok (.iload_n 1, 1) := by decide +kernel
theorem dX4_supporters_2 : decode cX4_supporters 2 = .ok (.bipush 8, 2) := by decide +kernel
theorem dX4_supporters_4 : decode cX4_supporters 4 = .ok (.iconst 2, 1) := by decide +kernel
theorem dX4_supporters_5 : decode cX4_supporters 5 = .ok (.iload_n 2, 1) := by decide +kernel
theorem dX4_supporters_6 : decode cX4_supporters 6 = .ok (.imul, 1) := by decide +kernel
theorem dX4_supporters_7 : decode cX4_supporters 7 = .ok (.iadd, 1) := by decide +kernel
theorem dX4_supporters_8 : decode cX4_supporters 8 = .ok (.iconst 1, 1) := by decide +kernel
theorem dX4_supporters_9 : decode cX4_supporters 9 = .ok (.iadd, 1) := by decide +kernel
theorem dX4_supporters_10 : decode cX4_supporters 10 = .ok (.invokevirtual 94, 3) := by decide +kernel
theorem dX4_supporters_13 : decode cX4_supporters 13 = .ok (.ireturn, 1) := by decide +kernel
theorem dX4_isPending_0 : decode cX4_isPending 0 = .ok (.iload_n 2, 1) := by decide +kernel
theorem dX4_isPending_1 : decode cX4_isPending 1 = .ok (.iconst 0, 1) := by decide +kernel
theorem dX4_isPending_2 : decode cX4_isPending 2 = .ok (.aload_n 0, 1) := by decide +kernel
theorem dX4_isPending_3 : decode cX4_isPending 3 = .ok (.iload_n 1, 1) := by decide +kernel
theorem dX4_isPending_4 : decode cX4_isPending 4 = .ok (.bipush 7, 2) := by decide +kernel
theorem dX4_isPending_6 : decode cX4_isPending 6 = .ok (.invokevirtual 94, 3) := by decide +kernel
theorem dX4_isPending_9 : decode cX4_isPending 9 = .ok (.iconst 1, 1) := by decide +kernel
theorem dX4_isPending_10 : decode cX4_isPending 10 = .ok (.isub, 1) := by decide +kernel
theorem dX4_isPending_11 : decode cX4_isPending 11 = .ok (.invokestatic 41, 3) := by decide +kernel
theorem dX4_isPending_14 : decode cX4_isPending 14 = .ok (.ireturn, 1) := by decide +kernel
theorem dX4_propose_0 : decode cX4_propose 0 = .ok (.aload_n 0, 1) := by decide +kernel
theorem dX4_propose_1 : decode cX4_propose 1 = .ok (.iconst 1, 1) := by decide +kernel
theorem dX4_propose_2 : decode cX4_propose 2 = .ok (.aload_n 0, 1) := by decide +kernel
theorem dX4_propose_3 : decode cX4_propose 3 = .ok (.iload_n 1, 1) := by decide +kernel
theorem dX4_propose_4 : decode cX4_propose 4 = .ok (.invokevirtual 108, 3) := by decide +kernel
theorem dX4_propose_7 : decode cX4_propose 7 = .ok (.ifCond .eq 18, 3) := by decide +kernel
theorem dX4_propose_10 : decode cX4_propose 10 = .ok (.aload_n 0, 1) := by decide +kernel
theorem dX4_propose_11 : decode cX4_propose 11 = .ok (.iload_n 2, 1) := by decide +kernel
theorem dX4_propose_12 : decode cX4_propose 12 = .ok (.invokevirtual 81, 3) := by decide +kernel
theorem dX4_propose_15 : decode cX4_propose 15 = .ok (.ifCond .eq 10, 3) := by decide +kernel
theorem dX4_propose_18 : decode cX4_propose 18 = .ok (.iload_n 3, 1) := by decide +kernel
theorem dX4_propose_19 : decode cX4_propose 19 = .ok (.invokestatic 101, 3) := by decide +kernel
theorem dX4_propose_22 : decode cX4_propose 22 = .ok (.ifCond .ne 7, 3) := by decide +kernel
theorem dX4_propose_25 : decode cX4_propose 25 = .ok (.iconst 1, 1) := by decide +kernel
theorem dX4_propose_26 : decode cX4_propose 26 = .ok (.goto 4, 3) := by decide +kernel
theorem dX4_propose_29 : decode cX4_propose 29 = .ok (.iconst 0, 1) := by decide +kernel
theorem dX4_propose_30 : decode cX4_propose 30 = .ok (.invokevirtual 74, 3) := by decide +kernel
theorem dX4_propose_33 : decode cX4_propose 33 = .ok (.ifCond .ne 57, 3) := by decide +kernel
theorem dX4_propose_36 : decode cX4_propose 36 = .ok (.aload_n 0, 1) := by decide +kernel
theorem dX4_propose_37 : decode cX4_propose 37 = .ok (.iconst 2, 1) := by decide +kernel
theorem dX4_propose_38 : decode cX4_propose 38 = .ok (.aload_n 0, 1) := by decide +kernel
theorem dX4_propose_39 : decode cX4_propose 39 = .ok (.iload_n 1, 1) := by decide +kernel
theorem dX4_propose_40 : decode cX4_propose 40 = .ok (.iconst 0, 1) := by decide +kernel
theorem dX4_propose_41 : decode cX4_propose 41 = .ok (.invokevirtual 94, 3) := by decide +kernel
theorem dX4_propose_44 : decode cX4_propose 44 = .ok (.ifCond .ne 14, 3) := by decide +kernel
theorem dX4_propose_47 : decode cX4_propose 47 = .ok (.aload_n 0, 1) := by decide +kernel
theorem dX4_propose_48 : decode cX4_propose 48 = .ok (.iload_n 1, 1) := by decide +kernel
theorem dX4_propose_49 : decode cX4_propose 49 = .ok (.bipush 7, 2) := by decide +kernel
theorem dX4_propose_51 : decode cX4_propose 51 = .ok (.invokevirtual 94, 3) := by decide +kernel
theorem dX4_propose_54 : decode cX4_propose 54 = .ok (.iconst 4, 1) := by decide +kernel
theorem dX4_propose_55 : decode cX4_propose 55 = .ok (.if_icmp .ne 7, 3) := by decide +kernel
theorem dX4_propose_58 : decode cX4_propose 58 = .ok (.iconst 1, 1) := by decide +kernel
theorem dX4_propose_59 : decode cX4_propose 59 = .ok (.goto 4, 3) := by decide +kernel
theorem dX4_propose_62 : decode cX4_propose 62 = .ok (.iconst 0, 1) := by decide +kernel
theorem dX4_propose_63 : decode cX4_propose 63 = .ok (.invokevirtual 74, 3) := by decide +kernel
theorem dX4_propose_66 : decode cX4_propose 66 = .ok (.ifCond .ne 24, 3) := by decide +kernel
theorem dX4_propose_69 : decode cX4_propose 69 = .ok (.aload_n 0, 1) := by decide +kernel
theorem dX4_propose_70 : decode cX4_propose 70 = .ok (.iconst 3, 1) := by decide +kernel
theorem dX4_propose_71 : decode cX4_propose 71 = .ok (.aload_n 0, 1) := by decide +kernel
theorem dX4_propose_72 : decode cX4_propose 72 = .ok (.iload_n 2, 1) := by decide +kernel
theorem dX4_propose_73 : decode cX4_propose 73 = .ok (.invokevirtual 84, 3) := by decide +kernel
theorem dX4_propose_76 : decode cX4_propose 76 = .ok (.ifCond .ne 7, 3) := by decide +kernel
theorem dX4_propose_79 : decode cX4_propose 79 = .ok (.iconst 1, 1) := by decide +kernel
theorem dX4_propose_80 : decode cX4_propose 80 = .ok (.goto 4, 3) := by decide +kernel
theorem dX4_propose_83 : decode cX4_propose 83 = .ok (.iconst 0, 1) := by decide +kernel
theorem dX4_propose_84 : decode cX4_propose 84 = .ok (.invokevirtual 74, 3) := by decide +kernel
theorem dX4_propose_87 : decode cX4_propose 87 = .ok (.ifCond .eq 5, 3) := by decide +kernel
theorem dX4_propose_90 : decode cX4_propose 90 = .ok (.iconst 0, 1) := by decide +kernel
theorem dX4_propose_91 : decode cX4_propose 91 = .ok (.ireturn, 1) := by decide +kernel
theorem dX4_propose_92 : decode cX4_propose 92 = .ok (.aload_n 0, 1) := by decide +kernel
theorem dX4_propose_93 : decode cX4_propose 93 = .ok (.invokevirtual 78, 3) := by decide +kernel
theorem dX4_propose_96 : decode cX4_propose 96 = .ok (.aload_n 0, 1) := by decide +kernel
theorem dX4_propose_97 : decode cX4_propose 97 = .ok (.iload_n 1, 1) := by decide +kernel
theorem dX4_propose_98 : decode cX4_propose 98 = .ok (.bipush 7, 2) := by decide +kernel
theorem dX4_propose_100 : decode cX4_propose 100 = .ok (.invokevirtual 94, 3) := by decide +kernel
theorem dX4_propose_103 : decode cX4_propose 103 = .ok (.istore 4, 2) := by decide +kernel
theorem dX4_propose_105 : decode cX4_propose 105 = .ok (.aload_n 0, 1) := by decide +kernel
theorem dX4_propose_106 : decode cX4_propose 106 = .ok (.iload_n 1, 1) := by decide +kernel
theorem dX4_propose_107 : decode cX4_propose 107 = .ok (.bipush 7, 2) := by decide +kernel
theorem dX4_propose_109 : decode cX4_propose 109 = .ok (.iload 4, 2) := by decide +kernel
theorem dX4_propose_111 : decode cX4_propose 111 = .ok (.iconst 1, 1) := by decide +kernel
theorem dX4_propose_112 : decode cX4_propose 112 = .ok (.iadd, 1) := by decide +kernel
theorem dX4_propose_113 : decode cX4_propose 113 = .ok (.invokevirtual 97, 3) := by decide +kernel
theorem dX4_propose_116 : decode cX4_propose 116 = .ok (.aload_n 0, 1) := by decide +kernel
theorem dX4_propose_117 : decode cX4_propose 117 = .ok (.iload_n 1, 1) := by decide +kernel
theorem dX4_propose_118 : decode cX4_propose 118 = .ok (.bipush 8, 2) := by decide +kernel
theorem dX4_propose_120 : decode cX4_propose 120 = .ok (.iconst 2, 1) := by decide +kernel
theorem dX4_propose_121 : decode cX4_propose 121 = .ok (.iload 4, 2) := by decide +kernel
theorem dX4_propose_123 : decode cX4_propose 123 = .ok (.imul, 1) := by decide +kernel
theorem dX4_propose_124 : decode cX4_propose 124 = .ok (.iadd, 1) := by decide +kernel
theorem dX4_propose_125 : decode cX4_propose 125 = .ok (.iload_n 3, 1) := by decide +kernel
theorem dX4_propose_126 : decode cX4_propose 126 = .ok (.invokevirtual 97, 3) := by decide +kernel
theorem dX4_propose_129 : decode cX4_propose 129 = .ok (.aload_n 0, 1) := by decide +kernel
theorem dX4_propose_130 : decode cX4_propose 130 = .ok (.iload_n 1, 1) := by decide +kernel
theorem dX4_propose_131 : decode cX4_propose 131 = .ok (.bipush 8, 2) := by decide +kernel
theorem dX4_propose_133 : decode cX4_propose 133 = .ok (.iconst 2, 1) := by decide +kernel
theorem dX4_propose_134 : decode cX4_propose 134 = .ok (.iload 4, 2) := by decide +kernel
theorem dX4_propose_136 : decode cX4_propose 136 = .ok (.imul, 1) := by decide +kernel
theorem dX4_propose_137 : decode cX4_propose 137 = .ok (.iadd, 1) := by decide +kernel
theorem dX4_propose_138 : decode cX4_propose 138 = .ok (.iconst 1, 1) := by decide +kernel
theorem dX4_propose_139 : decode cX4_propose 139 = .ok (.iadd, 1) := by decide +kernel
theorem dX4_propose_140 : decode cX4_propose 140 = .ok (.iconst 1, 1) := by decide +kernel
theorem dX4_propose_141 : decode cX4_propose 141 = .ok (.iload_n 2, 1) := by decide +kernel
theorem dX4_propose_142 : decode cX4_propose 142 = .ok (.ishl, 1) := by decide +kernel
theorem dX4_propose_143 : decode cX4_propose 143 = .ok (.invokevirtual 97, 3) := by decide +kernel
theorem dX4_propose_146 : decode cX4_propose 146 = .ok (.iload 4, 2) := by decide +kernel
theorem dX4_propose_148 : decode cX4_propose 148 = .ok (.ireturn, 1) := by decide +kernel
theorem dX4_support_0 : decode cX4_support 0 = .ok (.aload_n 0, 1) := by decide +kernel
theorem dX4_support_1 : decode cX4_support 1 = .ok (.iconst 1, 1) := by decide +kernel
theorem dX4_support_2 : decode cX4_support 2 = .ok (.aload_n 0, 1) := by decide +kernel
theorem dX4_support_3 : decode cX4_support 3 = .ok (.iload_n 1, 1) := by decide +kernel
theorem dX4_support_4 : decode cX4_support 4 = .ok (.invokevirtual 108, 3) := by decide +kernel
theorem dX4_support_7 : decode cX4_support 7 = .ok (.ifCond .eq 11, 3) := by decide +kernel
theorem dX4_support_10 : decode cX4_support 10 = .ok (.aload_n 0, 1) := by decide +kernel
theorem dX4_support_11 : decode cX4_support 11 = .ok (.iload_n 3, 1) := by decide +kernel
theorem dX4_support_12 : decode cX4_support 12 = .ok (.invokevirtual 81, 3) := by decide +kernel
theorem dX4_support_15 : decode cX4_support 15 = .ok (.ifCond .ne 7, 3) := by decide +kernel
theorem dX4_support_18 : decode cX4_support 18 = .ok (.iconst 1, 1) := by decide +kernel
theorem dX4_support_19 : decode cX4_support 19 = .ok (.goto 4, 3) := by decide +kernel
theorem dX4_support_22 : decode cX4_support 22 = .ok (.iconst 0, 1) := by decide +kernel
theorem dX4_support_23 : decode cX4_support 23 = .ok (.invokevirtual 74, 3) := by decide +kernel
theorem dX4_support_26 : decode cX4_support 26 = .ok (.ifCond .ne 68, 3) := by decide +kernel
theorem dX4_support_29 : decode cX4_support 29 = .ok (.aload_n 0, 1) := by decide +kernel
theorem dX4_support_30 : decode cX4_support 30 = .ok (.iconst 2, 1) := by decide +kernel
theorem dX4_support_31 : decode cX4_support 31 = .ok (.aload_n 0, 1) := by decide +kernel
theorem dX4_support_32 : decode cX4_support 32 = .ok (.iload_n 1, 1) := by decide +kernel
theorem dX4_support_33 : decode cX4_support 33 = .ok (.iconst 0, 1) := by decide +kernel
theorem dX4_support_34 : decode cX4_support 34 = .ok (.invokevirtual 94, 3) := by decide +kernel
theorem dX4_support_37 : decode cX4_support 37 = .ok (.ifCond .eq 7, 3) := by decide +kernel
theorem dX4_support_40 : decode cX4_support 40 = .ok (.iconst 1, 1) := by decide +kernel
theorem dX4_support_41 : decode cX4_support 41 = .ok (.goto 4, 3) := by decide +kernel
theorem dX4_support_44 : decode cX4_support 44 = .ok (.iconst 0, 1) := by decide +kernel
theorem dX4_support_45 : decode cX4_support 45 = .ok (.invokevirtual 74, 3) := by decide +kernel
theorem dX4_support_48 : decode cX4_support 48 = .ok (.ifCond .ne 46, 3) := by decide +kernel
theorem dX4_support_51 : decode cX4_support 51 = .ok (.aload_n 0, 1) := by decide +kernel
theorem dX4_support_52 : decode cX4_support 52 = .ok (.iconst 3, 1) := by decide +kernel
theorem dX4_support_53 : decode cX4_support 53 = .ok (.aload_n 0, 1) := by decide +kernel
theorem dX4_support_54 : decode cX4_support 54 = .ok (.iload_n 1, 1) := by decide +kernel
theorem dX4_support_55 : decode cX4_support 55 = .ok (.iload_n 2, 1) := by decide +kernel
theorem dX4_support_56 : decode cX4_support 56 = .ok (.invokevirtual 148, 3) := by decide +kernel
theorem dX4_support_59 : decode cX4_support 59 = .ok (.ifCond .ne 7, 3) := by decide +kernel
theorem dX4_support_62 : decode cX4_support 62 = .ok (.iconst 1, 1) := by decide +kernel
theorem dX4_support_63 : decode cX4_support 63 = .ok (.goto 4, 3) := by decide +kernel
theorem dX4_support_66 : decode cX4_support 66 = .ok (.iconst 0, 1) := by decide +kernel
theorem dX4_support_67 : decode cX4_support 67 = .ok (.invokevirtual 74, 3) := by decide +kernel
theorem dX4_support_70 : decode cX4_support 70 = .ok (.ifCond .ne 24, 3) := by decide +kernel
theorem dX4_support_73 : decode cX4_support 73 = .ok (.aload_n 0, 1) := by decide +kernel
theorem dX4_support_74 : decode cX4_support 74 = .ok (.iconst 4, 1) := by decide +kernel
theorem dX4_support_75 : decode cX4_support 75 = .ok (.aload_n 0, 1) := by decide +kernel
theorem dX4_support_76 : decode cX4_support 76 = .ok (.iload_n 3, 1) := by decide +kernel
theorem dX4_support_77 : decode cX4_support 77 = .ok (.invokevirtual 84, 3) := by decide +kernel
theorem dX4_support_80 : decode cX4_support 80 = .ok (.ifCond .ne 7, 3) := by decide +kernel
theorem dX4_support_83 : decode cX4_support 83 = .ok (.iconst 1, 1) := by decide +kernel
theorem dX4_support_84 : decode cX4_support 84 = .ok (.goto 4, 3) := by decide +kernel
theorem dX4_support_87 : decode cX4_support 87 = .ok (.iconst 0, 1) := by decide +kernel
theorem dX4_support_88 : decode cX4_support 88 = .ok (.invokevirtual 74, 3) := by decide +kernel
theorem dX4_support_91 : decode cX4_support 91 = .ok (.ifCond .eq 5, 3) := by decide +kernel
theorem dX4_support_94 : decode cX4_support 94 = .ok (.iconst 0, 1) := by decide +kernel
theorem dX4_support_95 : decode cX4_support 95 = .ok (.ireturn, 1) := by decide +kernel
theorem dX4_support_96 : decode cX4_support 96 = .ok (.aload_n 0, 1) := by decide +kernel
theorem dX4_support_97 : decode cX4_support 97 = .ok (.invokevirtual 78, 3) := by decide +kernel
theorem dX4_support_100 : decode cX4_support 100 = .ok (.aload_n 0, 1) := by decide +kernel
theorem dX4_support_101 : decode cX4_support 101 = .ok (.iload_n 1, 1) := by decide +kernel
theorem dX4_support_102 : decode cX4_support 102 = .ok (.bipush 8, 2) := by decide +kernel
theorem dX4_support_104 : decode cX4_support 104 = .ok (.iconst 2, 1) := by decide +kernel
theorem dX4_support_105 : decode cX4_support 105 = .ok (.iload_n 2, 1) := by decide +kernel
theorem dX4_support_106 : decode cX4_support 106 = .ok (.imul, 1) := by decide +kernel
theorem dX4_support_107 : decode cX4_support 107 = .ok (.iadd, 1) := by decide +kernel
theorem dX4_support_108 : decode cX4_support 108 = .ok (.iconst 1, 1) := by decide +kernel
theorem dX4_support_109 : decode cX4_support 109 = .ok (.iadd, 1) := by decide +kernel
theorem dX4_support_110 : decode cX4_support 110 = .ok (.aload_n 0, 1) := by decide +kernel
theorem dX4_support_111 : decode cX4_support 111 = .ok (.iload_n 1, 1) := by decide +kernel
theorem dX4_support_112 : decode cX4_support 112 = .ok (.iload_n 2, 1) := by decide +kernel
theorem dX4_support_113 : decode cX4_support 113 = .ok (.invokevirtual 151, 3) := by decide +kernel
theorem dX4_support_116 : decode cX4_support 116 = .ok (.iconst 1, 1) := by decide +kernel
theorem dX4_support_117 : decode cX4_support 117 = .ok (.iload_n 3, 1) := by decide +kernel
theorem dX4_support_118 : decode cX4_support 118 = .ok (.ishl, 1) := by decide +kernel
theorem dX4_support_119 : decode cX4_support 119 = .ok (.ior, 1) := by decide +kernel
theorem dX4_support_120 : decode cX4_support 120 = .ok (.invokevirtual 97, 3) := by decide +kernel
theorem dX4_support_123 : decode cX4_support 123 = .ok (.aload_n 0, 1) := by decide +kernel
theorem dX4_support_124 : decode cX4_support 124 = .ok (.aload_n 0, 1) := by decide +kernel
theorem dX4_support_125 : decode cX4_support 125 = .ok (.iload_n 1, 1) := by decide +kernel
theorem dX4_support_126 : decode cX4_support 126 = .ok (.iload_n 2, 1) := by decide +kernel
theorem dX4_support_127 : decode cX4_support 127 = .ok (.invokevirtual 151, 3) := by decide +kernel
theorem dX4_support_130 : decode cX4_support 130 = .ok (.invokevirtual 129, 3) := by decide +kernel
theorem dX4_support_133 : decode cX4_support 133 = .ok (.ireturn, 1) := by decide +kernel
theorem dX4_decide_0 : decode cX4_decide 0 = .ok (.aload_n 0, 1) := by decide +kernel
theorem dX4_decide_1 : decode cX4_decide 1 = .ok (.iconst 1, 1) := by decide +kernel
theorem dX4_decide_2 : decode cX4_decide 2 = .ok (.aload_n 0, 1) := by decide +kernel
theorem dX4_decide_3 : decode cX4_decide 3 = .ok (.iload_n 1, 1) := by decide +kernel
theorem dX4_decide_4 : decode cX4_decide 4 = .ok (.invokevirtual 108, 3) := by decide +kernel
theorem dX4_decide_7 : decode cX4_decide 7 = .ok (.ifCond .ne 7, 3) := by decide +kernel
theorem dX4_decide_10 : decode cX4_decide 10 = .ok (.iconst 1, 1) := by decide +kernel
theorem dX4_decide_11 : decode cX4_decide 11 = .ok (.goto 4, 3) := by decide +kernel
theorem dX4_decide_14 : decode cX4_decide 14 = .ok (.iconst 0, 1) := by decide +kernel
theorem dX4_decide_15 : decode cX4_decide 15 = .ok (.invokevirtual 74, 3) := by decide +kernel
theorem dX4_decide_18 : decode cX4_decide 18 = .ok (.ifCond .ne 68, 3) := by decide +kernel
theorem dX4_decide_21 : decode cX4_decide 21 = .ok (.aload_n 0, 1) := by decide +kernel
theorem dX4_decide_22 : decode cX4_decide 22 = .ok (.iconst 2, 1) := by decide +kernel
theorem dX4_decide_23 : decode cX4_decide 23 = .ok (.aload_n 0, 1) := by decide +kernel
theorem dX4_decide_24 : decode cX4_decide 24 = .ok (.iload_n 1, 1) := by decide +kernel
theorem dX4_decide_25 : decode cX4_decide 25 = .ok (.iconst 0, 1) := by decide +kernel
theorem dX4_decide_26 : decode cX4_decide 26 = .ok (.invokevirtual 94, 3) := by decide +kernel
theorem dX4_decide_29 : decode cX4_decide 29 = .ok (.ifCond .eq 7, 3) := by decide +kernel
theorem dX4_decide_32 : decode cX4_decide 32 = .ok (.iconst 1, 1) := by decide +kernel
theorem dX4_decide_33 : decode cX4_decide 33 = .ok (.goto 4, 3) := by decide +kernel
theorem dX4_decide_36 : decode cX4_decide 36 = .ok (.iconst 0, 1) := by decide +kernel
theorem dX4_decide_37 : decode cX4_decide 37 = .ok (.invokevirtual 74, 3) := by decide +kernel
theorem dX4_decide_40 : decode cX4_decide 40 = .ok (.ifCond .ne 46, 3) := by decide +kernel
theorem dX4_decide_43 : decode cX4_decide 43 = .ok (.aload_n 0, 1) := by decide +kernel
theorem dX4_decide_44 : decode cX4_decide 44 = .ok (.iconst 3, 1) := by decide +kernel
theorem dX4_decide_45 : decode cX4_decide 45 = .ok (.aload_n 0, 1) := by decide +kernel
theorem dX4_decide_46 : decode cX4_decide 46 = .ok (.iload_n 1, 1) := by decide +kernel
theorem dX4_decide_47 : decode cX4_decide 47 = .ok (.bipush 7, 2) := by decide +kernel
theorem dX4_decide_49 : decode cX4_decide 49 = .ok (.invokevirtual 94, 3) := by decide +kernel
theorem dX4_decide_52 : decode cX4_decide 52 = .ok (.ifCond .ne 7, 3) := by decide +kernel
theorem dX4_decide_55 : decode cX4_decide 55 = .ok (.iconst 1, 1) := by decide +kernel
theorem dX4_decide_56 : decode cX4_decide 56 = .ok (.goto 4, 3) := by decide +kernel
theorem dX4_decide_59 : decode cX4_decide 59 = .ok (.iconst 0, 1) := by decide +kernel
theorem dX4_decide_60 : decode cX4_decide 60 = .ok (.invokevirtual 74, 3) := by decide +kernel
theorem dX4_decide_63 : decode cX4_decide 63 = .ok (.ifCond .ne 23, 3) := by decide +kernel
theorem dX4_decide_66 : decode cX4_decide 66 = .ok (.aload_n 0, 1) := by decide +kernel
theorem dX4_decide_67 : decode cX4_decide 67 = .ok (.iconst 4, 1) := by decide +kernel
theorem dX4_decide_68 : decode cX4_decide 68 = .ok (.aload_n 0, 1) := by decide +kernel
theorem dX4_decide_69 : decode cX4_decide 69 = .ok (.invokevirtual 87, 3) := by decide +kernel
theorem dX4_decide_72 : decode cX4_decide 72 = .ok (.ifCond .ne 7, 3) := by decide +kernel
theorem dX4_decide_75 : decode cX4_decide 75 = .ok (.iconst 1, 1) := by decide +kernel
theorem dX4_decide_76 : decode cX4_decide 76 = .ok (.goto 4, 3) := by decide +kernel
theorem dX4_decide_79 : decode cX4_decide 79 = .ok (.iconst 0, 1) := by decide +kernel
theorem dX4_decide_80 : decode cX4_decide 80 = .ok (.invokevirtual 74, 3) := by decide +kernel
theorem dX4_decide_83 : decode cX4_decide 83 = .ok (.ifCond .eq 5, 3) := by decide +kernel
theorem dX4_decide_86 : decode cX4_decide 86 = .ok (.iconst 0, 1) := by decide +kernel
theorem dX4_decide_87 : decode cX4_decide 87 = .ok (.ireturn, 1) := by decide +kernel
theorem dX4_decide_88 : decode cX4_decide 88 = .ok (.aload_n 0, 1) := by decide +kernel
theorem dX4_decide_89 : decode cX4_decide 89 = .ok (.invokevirtual 78, 3) := by decide +kernel
theorem dX4_decide_92 : decode cX4_decide 92 = .ok (.iconst 2, 1) := by decide +kernel
theorem dX4_decide_93 : decode cX4_decide 93 = .ok (.aload_n 0, 1) := by decide +kernel
theorem dX4_decide_94 : decode cX4_decide 94 = .ok (.aload_n 0, 1) := by decide +kernel
theorem dX4_decide_95 : decode cX4_decide 95 = .ok (.iload_n 1, 1) := by decide +kernel
theorem dX4_decide_96 : decode cX4_decide 96 = .ok (.iconst 0, 1) := by decide +kernel
theorem dX4_decide_97 : decode cX4_decide 97 = .ok (.invokevirtual 151, 3) := by decide +kernel
theorem dX4_decide_100 : decode cX4_decide 100 = .ok (.invokevirtual 129, 3) := by decide +kernel
theorem dX4_decide_103 : decode cX4_decide 103 = .ok (.imul, 1) := by decide +kernel
theorem dX4_decide_104 : decode cX4_decide 104 = .ok (.aload_n 0, 1) := by decide +kernel
theorem dX4_decide_105 : decode cX4_decide 105 = .ok (.aload_n 0, 1) := by decide +kernel
theorem dX4_decide_106 : decode cX4_decide 106 = .ok (.getfield 9, 3) := by decide +kernel
theorem dX4_decide_109 : decode cX4_decide 109 = .ok (.iconst 2, 1) := by decide +kernel
theorem dX4_decide_110 : decode cX4_decide 110 = .ok (.iaload, 1) := by decide +kernel
theorem dX4_decide_111 : decode cX4_decide 111 = .ok (.invokevirtual 129, 3) := by decide +kernel
theorem dX4_decide_114 : decode cX4_decide 114 = .ok (.if_icmp .le 7, 3) := by decide +kernel
theorem dX4_decide_117 : decode cX4_decide 117 = .ok (.iconst 1, 1) := by decide +kernel
theorem dX4_decide_118 : decode cX4_decide 118 = .ok (.goto 4, 3) := by decide +kernel
theorem dX4_decide_121 : decode cX4_decide 121 = .ok (.iconst 0, 1) := by decide +kernel
theorem dX4_decide_122 : decode cX4_decide 122 = .ok (.istore_n 2, 1) := by decide +kernel
theorem dX4_decide_123 : decode cX4_decide 123 = .ok (.iload_n 2, 1) := by decide +kernel
theorem dX4_decide_124 : decode cX4_decide 124 = .ok (.ifCond .eq 24, 3) := by decide +kernel
theorem dX4_decide_127 : decode cX4_decide 127 = .ok (.aload_n 0, 1) := by decide +kernel
theorem dX4_decide_128 : decode cX4_decide 128 = .ok (.iload_n 1, 1) := by decide +kernel
theorem dX4_decide_129 : decode cX4_decide 129 = .ok (.aload_n 0, 1) := by decide +kernel
theorem dX4_decide_130 : decode cX4_decide 130 = .ok (.iload_n 1, 1) := by decide +kernel
theorem dX4_decide_131 : decode cX4_decide 131 = .ok (.iconst 0, 1) := by decide +kernel
theorem dX4_decide_132 : decode cX4_decide 132 = .ok (.invokevirtual 154, 3) := by decide +kernel
theorem dX4_decide_135 : decode cX4_decide 135 = .ok (.invokevirtual 104, 3) := by decide +kernel
theorem dX4_decide_138 : decode cX4_decide 138 = .ok (.aload_n 0, 1) := by decide +kernel
theorem dX4_decide_139 : decode cX4_decide 139 = .ok (.getfield 9, 3) := by decide +kernel
theorem dX4_decide_142 : decode cX4_decide 142 = .ok (.iconst 4, 1) := by decide +kernel
theorem dX4_decide_143 : decode cX4_decide 143 = .ok (.dup2, 1) := by decide +kernel
theorem dX4_decide_144 : decode cX4_decide 144 = .ok (.iaload, 1) := by decide +kernel
theorem dX4_decide_145 : decode cX4_decide 145 = .ok (.iconst 1, 1) := by decide +kernel
theorem dX4_decide_146 : decode cX4_decide 146 = .ok (.iadd, 1) := by decide +kernel
theorem dX4_decide_147 : decode cX4_decide 147 = .ok (.iastore, 1) := by decide +kernel
theorem dX4_decide_148 : decode cX4_decide 148 = .ok (.aload_n 0, 1) := by decide +kernel
theorem dX4_decide_149 : decode cX4_decide 149 = .ok (.iload_n 1, 1) := by decide +kernel
theorem dX4_decide_150 : decode cX4_decide 150 = .ok (.bipush 7, 2) := by decide +kernel
theorem dX4_decide_152 : decode cX4_decide 152 = .ok (.aload_n 0, 1) := by decide +kernel
theorem dX4_decide_153 : decode cX4_decide 153 = .ok (.iload_n 1, 1) := by decide +kernel
theorem dX4_decide_154 : decode cX4_decide 154 = .ok (.bipush 7, 2) := by decide +kernel
theorem dX4_decide_156 : decode cX4_decide 156 = .ok (.invokevirtual 94, 3) := by decide +kernel
theorem dX4_decide_159 : decode cX4_decide 159 = .ok (.iconst 1, 1) := by decide +kernel
theorem dX4_decide_160 : decode cX4_decide 160 = .ok (.isub, 1) := by decide +kernel
theorem dX4_decide_161 : decode cX4_decide 161 = .ok (.invokevirtual 97, 3) := by decide +kernel
theorem dX4_decide_164 : decode cX4_decide 164 = .ok (.bipush 8, 2) := by decide +kernel
theorem dX4_decide_166 : decode cX4_decide 166 = .ok (.istore_n 3, 1) := by decide +kernel
theorem dX4_decide_167 : decode cX4_decide 167 = .ok (.iload_n 3, 1) := by decide +kernel
theorem dX4_decide_168 : decode cX4_decide 168 = .ok (.bipush 8, 2) := by decide +kernel
theorem dX4_decide_170 : decode cX4_decide 170 = .ok (.iconst 2, 1) := by decide +kernel
theorem dX4_decide_171 : decode cX4_decide 171 = .ok (.aload_n 0, 1) := by decide +kernel
theorem dX4_decide_172 : decode cX4_decide 172 = .ok (.iload_n 1, 1) := by decide +kernel
theorem dX4_decide_173 : decode cX4_decide 173 = .ok (.bipush 7, 2) := by decide +kernel
theorem dX4_decide_175 : decode cX4_decide 175 = .ok (.invokevirtual 94, 3) := by decide +kernel
theorem dX4_decide_178 : decode cX4_decide 178 = .ok (.imul, 1) := by decide +kernel
theorem dX4_decide_179 : decode cX4_decide 179 = .ok (.iadd, 1) := by decide +kernel
theorem dX4_decide_180 : decode cX4_decide 180 = .ok (.if_icmp .ge 23, 3) := by decide +kernel
theorem dX4_decide_183 : decode cX4_decide 183 = .ok (.aload_n 0, 1) := by decide +kernel
theorem dX4_decide_184 : decode cX4_decide 184 = .ok (.iload_n 1, 1) := by decide +kernel
theorem dX4_decide_185 : decode cX4_decide 185 = .ok (.iload_n 3, 1) := by decide +kernel
theorem dX4_decide_186 : decode cX4_decide 186 = .ok (.aload_n 0, 1) := by decide +kernel
theorem dX4_decide_187 : decode cX4_decide 187 = .ok (.iload_n 1, 1) := by decide +kernel
theorem dX4_decide_188 : decode cX4_decide 188 = .ok (.iload_n 3, 1) := by decide +kernel
theorem dX4_decide_189 : decode cX4_decide 189 = .ok (.iconst 2, 1) := by decide +kernel
theorem dX4_decide_190 : decode cX4_decide 190 = .ok (.iadd, 1) := by decide +kernel
theorem dX4_decide_191 : decode cX4_decide 191 = .ok (.invokevirtual 94, 3) := by decide +kernel
theorem dX4_decide_194 : decode cX4_decide 194 = .ok (.invokevirtual 97, 3) := by decide +kernel
theorem dX4_decide_197 : decode cX4_decide 197 = .ok (.iinc 3 1, 3) := by decide +kernel
theorem dX4_decide_200 : decode cX4_decide 200 = .ok (.goto (-33), 3) := by decide +kernel
theorem dX4_decide_203 : decode cX4_decide 203 = .ok (.iload_n 2, 1) := by decide +kernel
theorem dX4_decide_204 : decode cX4_decide 204 = .ok (.ireturn, 1) := by decide +kernel
theorem dX4_pendingCount_0 : decode cX4_pendingCount 0 = .ok (.aload_n 0, 1) := by decide +kernel
theorem dX4_pendingCount_1 : decode cX4_pendingCount 1 = .ok (.iconst 1, 1) := by decide +kernel
theorem dX4_pendingCount_2 : decode cX4_pendingCount 2 = .ok (.aload_n 0, 1) := by decide +kernel
theorem dX4_pendingCount_3 : decode cX4_pendingCount 3 = .ok (.iload_n 1, 1) := by decide +kernel
theorem dX4_pendingCount_4 : decode cX4_pendingCount 4 = .ok (.invokevirtual 108, 3) := by decide +kernel
theorem dX4_pendingCount_7 : decode cX4_pendingCount 7 = .ok (.ifCond .ne 7, 3) := by decide +kernel
theorem dX4_pendingCount_10 : decode cX4_pendingCount 10 = .ok (.iconst 1, 1) := by decide +kernel
theorem dX4_pendingCount_11 : decode cX4_pendingCount 11 = .ok (.goto 4, 3) := by decide +kernel
theorem dX4_pendingCount_14 : decode cX4_pendingCount 14 = .ok (.iconst 0, 1) := by decide +kernel
theorem dX4_pendingCount_15 : decode cX4_pendingCount 15 = .ok (.invokevirtual 74, 3) := by decide +kernel
theorem dX4_pendingCount_18 : decode cX4_pendingCount 18 = .ok (.ifCond .eq 7, 3) := by decide +kernel
theorem dX4_pendingCount_21 : decode cX4_pendingCount 21 = .ok (.iconst 0, 1) := by decide +kernel
theorem dX4_pendingCount_22 : decode cX4_pendingCount 22 = .ok (.goto 10, 3) := by decide +kernel
theorem dX4_pendingCount_25 : decode cX4_pendingCount 25 = .ok (.aload_n 0, 1) := by decide +kernel
theorem dX4_pendingCount_26 : decode cX4_pendingCount 26 = .ok (.iload_n 1, 1) := by decide +kernel
theorem dX4_pendingCount_27 : decode cX4_pendingCount 27 = .ok (.bipush 7, 2) := by decide +kernel
theorem dX4_pendingCount_29 : decode cX4_pendingCount 29 = .ok (.invokevirtual 94, 3) := by decide +kernel
theorem dX4_pendingCount_32 : decode cX4_pendingCount 32 = .ok (.ireturn, 1) := by decide +kernel
theorem dX4_amendedClause_0 : decode cX4_amendedClause 0 = .ok (.aload_n 0, 1) := by decide +kernel
theorem dX4_amendedClause_1 : decode cX4_amendedClause 1 = .ok (.iconst 1, 1) := by decide +kernel
theorem dX4_amendedClause_2 : decode cX4_amendedClause 2 = .ok (.aload_n 0, 1) := by decide +kernel
theorem dX4_amendedClause_3 : decode cX4_amendedClause 3 = .ok (.iload_n 1, 1) := by decide +kernel
theorem dX4_amendedClause_4 : decode cX4_amendedClause 4 = .ok (.invokevirtual 108, 3) := by decide +kernel
theorem dX4_amendedClause_7 : decode cX4_amendedClause 7 = .ok (.ifCond .ne 7, 3) := by decide +kernel
theorem dX4_amendedClause_10 : decode cX4_amendedClause 10 = .ok (.iconst 1, 1) := by decide +kernel
theorem dX4_amendedClause_11 : decode cX4_amendedClause 11 = .ok (.goto 4, 3) := by decide +kernel
theorem dX4_amendedClause_14 : decode cX4_amendedClause 14 = .ok (.iconst 0, 1) := by decide +kernel
theorem dX4_amendedClause_15 : decode cX4_amendedClause 15 = .ok (.invokevirtual 74, 3) := by decide +kernel
theorem dX4_amendedClause_18 : decode cX4_amendedClause 18 = .ok (.ifCond .ne 25, 3) := by decide +kernel
theorem dX4_amendedClause_21 : decode cX4_amendedClause 21 = .ok (.aload_n 0, 1) := by decide +kernel
theorem dX4_amendedClause_22 : decode cX4_amendedClause 22 = .ok (.iconst 2, 1) := by decide +kernel
theorem dX4_amendedClause_23 : decode cX4_amendedClause 23 = .ok (.aload_n 0, 1) := by decide +kernel
theorem dX4_amendedClause_24 : decode cX4_amendedClause 24 = .ok (.iload_n 1, 1) := by decide +kernel
theorem dX4_amendedClause_25 : decode cX4_amendedClause 25 = .ok (.iload_n 2, 1) := by decide +kernel
theorem dX4_amendedClause_26 : decode cX4_amendedClause 26 = .ok (.invokevirtual 148, 3) := by decide +kernel
theorem dX4_amendedClause_29 : decode cX4_amendedClause 29 = .ok (.ifCond .ne 7, 3) := by decide +kernel
theorem dX4_amendedClause_32 : decode cX4_amendedClause 32 = .ok (.iconst 1, 1) := by decide +kernel
theorem dX4_amendedClause_33 : decode cX4_amendedClause 33 = .ok (.goto 4, 3) := by decide +kernel
theorem dX4_amendedClause_36 : decode cX4_amendedClause 36 = .ok (.iconst 0, 1) := by decide +kernel
theorem dX4_amendedClause_37 : decode cX4_amendedClause 37 = .ok (.invokevirtual 74, 3) := by decide +kernel
theorem dX4_amendedClause_40 : decode cX4_amendedClause 40 = .ok (.ifCond .eq 7, 3) := by decide +kernel
theorem dX4_amendedClause_43 : decode cX4_amendedClause 43 = .ok (.iconst 0, 1) := by decide +kernel
theorem dX4_amendedClause_44 : decode cX4_amendedClause 44 = .ok (.goto 9, 3) := by decide +kernel
theorem dX4_amendedClause_47 : decode cX4_amendedClause 47 = .ok (.aload_n 0, 1) := by decide +kernel
theorem dX4_amendedClause_48 : decode cX4_amendedClause 48 = .ok (.iload_n 1, 1) := by decide +kernel
theorem dX4_amendedClause_49 : decode cX4_amendedClause 49 = .ok (.iload_n 2, 1) := by decide +kernel
theorem dX4_amendedClause_50 : decode cX4_amendedClause 50 = .ok (.invokevirtual 154, 3) := by decide +kernel
theorem dX4_amendedClause_53 : decode cX4_amendedClause 53 = .ok (.ireturn, 1) := by decide +kernel
theorem dX4_supportWeight_0 : decode cX4_supportWeight 0 = .ok (.aload_n 0, 1) := by decide +kernel
theorem dX4_supportWeight_1 : decode cX4_supportWeight 1 = .ok (.iconst 1, 1) := by decide +kernel
theorem dX4_supportWeight_2 : decode cX4_supportWeight 2 = .ok (.aload_n 0, 1) := by decide +kernel
theorem dX4_supportWeight_3 : decode cX4_supportWeight 3 = .ok (.iload_n 1, 1) := by decide +kernel
theorem dX4_supportWeight_4 : decode cX4_supportWeight 4 = .ok (.invokevirtual 108, 3) := by decide +kernel
theorem dX4_supportWeight_7 : decode cX4_supportWeight 7 = .ok (.ifCond .ne 7, 3) := by decide +kernel
theorem dX4_supportWeight_10 : decode cX4_supportWeight 10 = .ok (.iconst 1, 1) := by decide +kernel
theorem dX4_supportWeight_11 : decode cX4_supportWeight 11 = .ok (.goto 4, 3) := by decide +kernel
theorem dX4_supportWeight_14 : decode cX4_supportWeight 14 = .ok (.iconst 0, 1) := by decide +kernel
theorem dX4_supportWeight_15 : decode cX4_supportWeight 15 = .ok (.invokevirtual 74, 3) := by decide +kernel
theorem dX4_supportWeight_18 : decode cX4_supportWeight 18 = .ok (.ifCond .ne 25, 3) := by decide +kernel
theorem dX4_supportWeight_21 : decode cX4_supportWeight 21 = .ok (.aload_n 0, 1) := by decide +kernel
theorem dX4_supportWeight_22 : decode cX4_supportWeight 22 = .ok (.iconst 2, 1) := by decide +kernel
theorem dX4_supportWeight_23 : decode cX4_supportWeight 23 = .ok (.aload_n 0, 1) := by decide +kernel
theorem dX4_supportWeight_24 : decode cX4_supportWeight 24 = .ok (.iload_n 1, 1) := by decide +kernel
theorem dX4_supportWeight_25 : decode cX4_supportWeight 25 = .ok (.iload_n 2, 1) := by decide +kernel
theorem dX4_supportWeight_26 : decode cX4_supportWeight 26 = .ok (.invokevirtual 148, 3) := by decide +kernel
theorem dX4_supportWeight_29 : decode cX4_supportWeight 29 = .ok (.ifCond .ne 7, 3) := by decide +kernel
theorem dX4_supportWeight_32 : decode cX4_supportWeight 32 = .ok (.iconst 1, 1) := by decide +kernel
theorem dX4_supportWeight_33 : decode cX4_supportWeight 33 = .ok (.goto 4, 3) := by decide +kernel
theorem dX4_supportWeight_36 : decode cX4_supportWeight 36 = .ok (.iconst 0, 1) := by decide +kernel
theorem dX4_supportWeight_37 : decode cX4_supportWeight 37 = .ok (.invokevirtual 74, 3) := by decide +kernel
theorem dX4_supportWeight_40 : decode cX4_supportWeight 40 = .ok (.ifCond .eq 7, 3) := by decide +kernel
theorem dX4_supportWeight_43 : decode cX4_supportWeight 43 = .ok (.iconst 0, 1) := by decide +kernel
theorem dX4_supportWeight_44 : decode cX4_supportWeight 44 = .ok (.goto 13, 3) := by decide +kernel
theorem dX4_supportWeight_47 : decode cX4_supportWeight 47 = .ok (.aload_n 0, 1) := by decide +kernel
theorem dX4_supportWeight_48 : decode cX4_supportWeight 48 = .ok (.aload_n 0, 1) := by decide +kernel
theorem dX4_supportWeight_49 : decode cX4_supportWeight 49 = .ok (.iload_n 1, 1) := by decide +kernel
theorem dX4_supportWeight_50 : decode cX4_supportWeight 50 = .ok (.iload_n 2, 1) := by decide +kernel
theorem dX4_supportWeight_51 : decode cX4_supportWeight 51 = .ok (.invokevirtual 151, 3) := by decide +kernel
theorem dX4_supportWeight_54 : decode cX4_supportWeight 54 = .ok (.invokevirtual 129, 3) := by decide +kernel
theorem dX4_supportWeight_57 : decode cX4_supportWeight 57 = .ok (.ireturn, 1) := by decide +kernel
theorem dX4_ride_0 : decode cX4_ride 0 = .ok (.aload_n 0, 1) := by decide +kernel
theorem dX4_ride_1 : decode cX4_ride 1 = .ok (.iconst 1, 1) := by decide +kernel
theorem dX4_ride_2 : decode cX4_ride 2 = .ok (.aload_n 0, 1) := by decide +kernel
theorem dX4_ride_3 : decode cX4_ride 3 = .ok (.iload_n 2, 1) := by decide +kernel
theorem dX4_ride_4 : decode cX4_ride 4 = .ok (.invokevirtual 108, 3) := by decide +kernel
theorem dX4_ride_7 : decode cX4_ride 7 = .ok (.ifCond .eq 11, 3) := by decide +kernel
theorem dX4_ride_10 : decode cX4_ride 10 = .ok (.aload_n 0, 1) := by decide +kernel
theorem dX4_ride_11 : decode cX4_ride 11 = .ok (.iload_n 1, 1) := by decide +kernel
theorem dX4_ride_12 : decode cX4_ride 12 = .ok (.invokevirtual 81, 3) := by decide +kernel
theorem dX4_ride_15 : decode cX4_ride 15 = .ok (.ifCond .ne 7, 3) := by decide +kernel
theorem dX4_ride_18 : decode cX4_ride 18 = .ok (.iconst 1, 1) := by decide +kernel
theorem dX4_ride_19 : decode cX4_ride 19 = .ok (.goto 4, 3) := by decide +kernel
theorem dX4_ride_22 : decode cX4_ride 22 = .ok (.iconst 0, 1) := by decide +kernel
theorem dX4_ride_23 : decode cX4_ride 23 = .ok (.invokevirtual 74, 3) := by decide +kernel
theorem dX4_ride_26 : decode cX4_ride 26 = .ok (.ifCond .ne 69, 3) := by decide +kernel
theorem dX4_ride_29 : decode cX4_ride 29 = .ok (.aload_n 0, 1) := by decide +kernel
theorem dX4_ride_30 : decode cX4_ride 30 = .ok (.iconst 2, 1) := by decide +kernel
theorem dX4_ride_31 : decode cX4_ride 31 = .ok (.iload_n 3, 1) := by decide +kernel
theorem dX4_ride_32 : decode cX4_ride 32 = .ok (.iconst 1, 1) := by decide +kernel
theorem dX4_ride_33 : decode cX4_ride 33 = .ok (.bipush 30, 2) := by decide +kernel
theorem dX4_ride_35 : decode cX4_ride 35 = .ok (.invokestatic 41, 3) := by decide +kernel
theorem dX4_ride_38 : decode cX4_ride 38 = .ok (.ifCond .ne 7, 3) := by decide +kernel
theorem dX4_ride_41 : decode cX4_ride 41 = .ok (.iconst 1, 1) := by decide +kernel
theorem dX4_ride_42 : decode cX4_ride 42 = .ok (.goto 4, 3) := by decide +kernel
theorem dX4_ride_45 : decode cX4_ride 45 = .ok (.iconst 0, 1) := by decide +kernel
theorem dX4_ride_46 : decode cX4_ride 46 = .ok (.invokevirtual 74, 3) := by decide +kernel
theorem dX4_ride_49 : decode cX4_ride 49 = .ok (.ifCond .ne 46, 3) := by decide +kernel
theorem dX4_ride_52 : decode cX4_ride 52 = .ok (.aload_n 0, 1) := by decide +kernel
theorem dX4_ride_53 : decode cX4_ride 53 = .ok (.iconst 3, 1) := by decide +kernel
theorem dX4_ride_54 : decode cX4_ride 54 = .ok (.aload_n 0, 1) := by decide +kernel
theorem dX4_ride_55 : decode cX4_ride 55 = .ok (.iload_n 2, 1) := by decide +kernel
theorem dX4_ride_56 : decode cX4_ride 56 = .ok (.iconst 0, 1) := by decide +kernel
theorem dX4_ride_57 : decode cX4_ride 57 = .ok (.invokevirtual 94, 3) := by decide +kernel
theorem dX4_ride_60 : decode cX4_ride 60 = .ok (.ifCond .eq 7, 3) := by decide +kernel
theorem dX4_ride_63 : decode cX4_ride 63 = .ok (.iconst 1, 1) := by decide +kernel
theorem dX4_ride_64 : decode cX4_ride 64 = .ok (.goto 4, 3) := by decide +kernel
theorem dX4_ride_67 : decode cX4_ride 67 = .ok (.iconst 0, 1) := by decide +kernel
theorem dX4_ride_68 : decode cX4_ride 68 = .ok (.invokevirtual 74, 3) := by decide +kernel
theorem dX4_ride_71 : decode cX4_ride 71 = .ok (.ifCond .ne 24, 3) := by decide +kernel
theorem dX4_ride_74 : decode cX4_ride 74 = .ok (.aload_n 0, 1) := by decide +kernel
theorem dX4_ride_75 : decode cX4_ride 75 = .ok (.iconst 4, 1) := by decide +kernel
theorem dX4_ride_76 : decode cX4_ride 76 = .ok (.aload_n 0, 1) := by decide +kernel
theorem dX4_ride_77 : decode cX4_ride 77 = .ok (.iload_n 1, 1) := by decide +kernel
theorem dX4_ride_78 : decode cX4_ride 78 = .ok (.invokevirtual 84, 3) := by decide +kernel
theorem dX4_ride_81 : decode cX4_ride 81 = .ok (.ifCond .ne 7, 3) := by decide +kernel
theorem dX4_ride_84 : decode cX4_ride 84 = .ok (.iconst 1, 1) := by decide +kernel
theorem dX4_ride_85 : decode cX4_ride 85 = .ok (.goto 4, 3) := by decide +kernel
theorem dX4_ride_88 : decode cX4_ride 88 = .ok (.iconst 0, 1) := by decide +kernel
theorem dX4_ride_89 : decode cX4_ride 89 = .ok (.invokevirtual 74, 3) := by decide +kernel
theorem dX4_ride_92 : decode cX4_ride 92 = .ok (.ifCond .eq 5, 3) := by decide +kernel
theorem dX4_ride_95 : decode cX4_ride 95 = .ok (.iconst 0, 1) := by decide +kernel
theorem dX4_ride_96 : decode cX4_ride 96 = .ok (.ireturn, 1) := by decide +kernel
theorem dX4_ride_97 : decode cX4_ride 97 = .ok (.aload_n 0, 1) := by decide +kernel
theorem dX4_ride_98 : decode cX4_ride 98 = .ok (.invokevirtual 78, 3) := by decide +kernel
theorem dX4_ride_101 : decode cX4_ride 101 = .ok (.aload_n 0, 1) := by decide +kernel
theorem dX4_ride_102 : decode cX4_ride 102 = .ok (.iload_n 2, 1) := by decide +kernel
theorem dX4_ride_103 : decode cX4_ride 103 = .ok (.iconst 4, 1) := by decide +kernel
theorem dX4_ride_104 : decode cX4_ride 104 = .ok (.aload_n 0, 1) := by decide +kernel
theorem dX4_ride_105 : decode cX4_ride 105 = .ok (.iload_n 2, 1) := by decide +kernel
theorem dX4_ride_106 : decode cX4_ride 106 = .ok (.iconst 4, 1) := by decide +kernel
theorem dX4_ride_107 : decode cX4_ride 107 = .ok (.invokevirtual 94, 3) := by decide +kernel
theorem dX4_ride_110 : decode cX4_ride 110 = .ok (.iload_n 3, 1) := by decide +kernel
theorem dX4_ride_111 : decode cX4_ride 111 = .ok (.iadd, 1) := by decide +kernel
theorem dX4_ride_112 : decode cX4_ride 112 = .ok (.invokevirtual 97, 3) := by decide +kernel
theorem dX4_ride_115 : decode cX4_ride 115 = .ok (.aload_n 0, 1) := by decide +kernel
theorem dX4_ride_116 : decode cX4_ride 116 = .ok (.iload_n 2, 1) := by decide +kernel
theorem dX4_ride_117 : decode cX4_ride 117 = .ok (.invokevirtual 123, 3) := by decide +kernel
theorem dX4_ride_120 : decode cX4_ride 120 = .ok (.iconst 3, 1) := by decide +kernel
theorem dX4_ride_121 : decode cX4_ride 121 = .ok (.if_icmp .lt 9, 3) := by decide +kernel
theorem dX4_ride_124 : decode cX4_ride 124 = .ok (.aload_n 0, 1) := by decide +kernel
theorem dX4_ride_125 : decode cX4_ride 125 = .ok (.iload_n 2, 1) := by decide +kernel
theorem dX4_ride_126 : decode cX4_ride 126 = .ok (.iconst 2, 1) := by decide +kernel
theorem dX4_ride_127 : decode cX4_ride 127 = .ok (.invokevirtual 139, 3) := by decide +kernel
theorem dX4_ride_130 : decode cX4_ride 130 = .ok (.aload_n 0, 1) := by decide +kernel
theorem dX4_ride_131 : decode cX4_ride 131 = .ok (.iload_n 2, 1) := by decide +kernel
theorem dX4_ride_132 : decode cX4_ride 132 = .ok (.invokevirtual 123, 3) := by decide +kernel
theorem dX4_ride_135 : decode cX4_ride 135 = .ok (.ireturn, 1) := by decide +kernel
theorem dX4_delay_0 : decode cX4_delay 0 = .ok (.aload_n 0, 1) := by decide +kernel
theorem dX4_delay_1 : decode cX4_delay 1 = .ok (.iconst 1, 1) := by decide +kernel
theorem dX4_delay_2 : decode cX4_delay 2 = .ok (.aload_n 0, 1) := by decide +kernel
theorem dX4_delay_3 : decode cX4_delay 3 = .ok (.iload_n 1, 1) := by decide +kernel
theorem dX4_delay_4 : decode cX4_delay 4 = .ok (.invokevirtual 108, 3) := by decide +kernel
theorem dX4_delay_7 : decode cX4_delay 7 = .ok (.ifCond .ne 7, 3) := by decide +kernel
theorem dX4_delay_10 : decode cX4_delay 10 = .ok (.iconst 1, 1) := by decide +kernel
theorem dX4_delay_11 : decode cX4_delay 11 = .ok (.goto 4, 3) := by decide +kernel
theorem dX4_delay_14 : decode cX4_delay 14 = .ok (.iconst 0, 1) := by decide +kernel
theorem dX4_delay_15 : decode cX4_delay 15 = .ok (.invokevirtual 74, 3) := by decide +kernel
theorem dX4_delay_18 : decode cX4_delay 18 = .ok (.ifCond .eq 7, 3) := by decide +kernel
theorem dX4_delay_21 : decode cX4_delay 21 = .ok (.iconst 0, 1) := by decide +kernel
theorem dX4_delay_22 : decode cX4_delay 22 = .ok (.goto 9, 3) := by decide +kernel
theorem dX4_delay_25 : decode cX4_delay 25 = .ok (.aload_n 0, 1) := by decide +kernel
theorem dX4_delay_26 : decode cX4_delay 26 = .ok (.iload_n 1, 1) := by decide +kernel
theorem dX4_delay_27 : decode cX4_delay 27 = .ok (.iconst 4, 1) := by decide +kernel
theorem dX4_delay_28 : decode cX4_delay 28 = .ok (.invokevirtual 94, 3) := by decide +kernel
theorem dX4_delay_31 : decode cX4_delay 31 = .ok (.ireturn, 1) := by decide +kernel
theorem dX4_rust_0 : decode cX4_rust 0 = .ok (.aload_n 0, 1) := by decide +kernel
theorem dX4_rust_1 : decode cX4_rust 1 = .ok (.iconst 1, 1) := by decide +kernel
theorem dX4_rust_2 : decode cX4_rust 2 = .ok (.aload_n 0, 1) := by decide +kernel
theorem dX4_rust_3 : decode cX4_rust 3 = .ok (.iload_n 1, 1) := by decide +kernel
theorem dX4_rust_4 : decode cX4_rust 4 = .ok (.invokevirtual 108, 3) := by decide +kernel
theorem dX4_rust_7 : decode cX4_rust 7 = .ok (.ifCond .ne 7, 3) := by decide +kernel
theorem dX4_rust_10 : decode cX4_rust 10 = .ok (.iconst 1, 1) := by decide +kernel
theorem dX4_rust_11 : decode cX4_rust 11 = .ok (.goto 4, 3) := by decide +kernel
theorem dX4_rust_14 : decode cX4_rust 14 = .ok (.iconst 0, 1) := by decide +kernel
theorem dX4_rust_15 : decode cX4_rust 15 = .ok (.invokevirtual 74, 3) := by decide +kernel
theorem dX4_rust_18 : decode cX4_rust 18 = .ok (.ifCond .eq 7, 3) := by decide +kernel
theorem dX4_rust_21 : decode cX4_rust 21 = .ok (.iconst 0, 1) := by decide +kernel
theorem dX4_rust_22 : decode cX4_rust 22 = .ok (.goto 8, 3) := by decide +kernel
theorem dX4_rust_25 : decode cX4_rust 25 = .ok (.aload_n 0, 1) := by decide +kernel
theorem dX4_rust_26 : decode cX4_rust 26 = .ok (.iload_n 1, 1) := by decide +kernel
theorem dX4_rust_27 : decode cX4_rust 27 = .ok (.invokevirtual 123, 3) := by decide +kernel
theorem dX4_rust_30 : decode cX4_rust 30 = .ok (.ireturn, 1) := by decide +kernel
theorem dX4_ridesUntilFall_0 : decode cX4_ridesUntilFall 0 = .ok (.aload_n 0, 1) := by decide +kernel
theorem dX4_ridesUntilFall_1 : decode cX4_ridesUntilFall 1 = .ok (.iconst 1, 1) := by decide +kernel
theorem dX4_ridesUntilFall_2 : decode cX4_ridesUntilFall 2 = .ok (.aload_n 0, 1) := by decide +kernel
theorem dX4_ridesUntilFall_3 : decode cX4_ridesUntilFall 3 = .ok (.iload_n 1, 1) := by decide +kernel
theorem dX4_ridesUntilFall_4 : decode cX4_ridesUntilFall 4 = .ok (.invokevirtual 108, 3) := by decide +kernel
theorem dX4_ridesUntilFall_7 : decode cX4_ridesUntilFall 7 = .ok (.ifCond .ne 7, 3) := by decide +kernel
theorem dX4_ridesUntilFall_10 : decode cX4_ridesUntilFall 10 = .ok (.iconst 1, 1) := by decide +kernel
theorem dX4_ridesUntilFall_11 : decode cX4_ridesUntilFall 11 = .ok (.goto 4, 3) := by decide +kernel
theorem dX4_ridesUntilFall_14 : decode cX4_ridesUntilFall 14 = .ok (.iconst 0, 1) := by decide +kernel
theorem dX4_ridesUntilFall_15 : decode cX4_ridesUntilFall 15 = .ok (.invokevirtual 74, 3) := by decide +kernel
theorem dX4_ridesUntilFall_18 : decode cX4_ridesUntilFall 18 = .ok (.ifCond .ne 48, 3) := by decide +kernel
theorem dX4_ridesUntilFall_21 : decode cX4_ridesUntilFall 21 = .ok (.aload_n 0, 1) := by decide +kernel
theorem dX4_ridesUntilFall_22 : decode cX4_ridesUntilFall 22 = .ok (.iconst 2, 1) := by decide +kernel
theorem dX4_ridesUntilFall_23 : decode cX4_ridesUntilFall 23 = .ok (.iload_n 2, 1) := by decide +kernel
theorem dX4_ridesUntilFall_24 : decode cX4_ridesUntilFall 24 = .ok (.iconst 1, 1) := by decide +kernel
theorem dX4_ridesUntilFall_25 : decode cX4_ridesUntilFall 25 = .ok (.bipush 30, 2) := by decide +kernel
theorem dX4_ridesUntilFall_27 : decode cX4_ridesUntilFall 27 = .ok (.invokestatic 41, 3) := by decide +kernel
theorem dX4_ridesUntilFall_30 : decode cX4_ridesUntilFall 30 = .ok (.ifCond .ne 7, 3) := by decide +kernel
theorem dX4_ridesUntilFall_33 : decode cX4_ridesUntilFall 33 = .ok (.iconst 1, 1) := by decide +kernel
theorem dX4_ridesUntilFall_34 : decode cX4_ridesUntilFall 34 = .ok (.goto 4, 3) := by decide +kernel
theorem dX4_ridesUntilFall_37 : decode cX4_ridesUntilFall 37 = .ok (.iconst 0, 1) := by decide +kernel
theorem dX4_ridesUntilFall_38 : decode cX4_ridesUntilFall 38 = .ok (.invokevirtual 74, 3) := by decide +kernel
theorem dX4_ridesUntilFall_41 : decode cX4_ridesUntilFall 41 = .ok (.ifCond .ne 25, 3) := by decide +kernel
theorem dX4_ridesUntilFall_44 : decode cX4_ridesUntilFall 44 = .ok (.aload_n 0, 1) := by decide +kernel
theorem dX4_ridesUntilFall_45 : decode cX4_ridesUntilFall 45 = .ok (.iconst 3, 1) := by decide +kernel
theorem dX4_ridesUntilFall_46 : decode cX4_ridesUntilFall 46 = .ok (.aload_n 0, 1) := by decide +kernel
theorem dX4_ridesUntilFall_47 : decode cX4_ridesUntilFall 47 = .ok (.iload_n 1, 1) := by decide +kernel
theorem dX4_ridesUntilFall_48 : decode cX4_ridesUntilFall 48 = .ok (.iconst 0, 1) := by decide +kernel
theorem dX4_ridesUntilFall_49 : decode cX4_ridesUntilFall 49 = .ok (.invokevirtual 94, 3) := by decide +kernel
theorem dX4_ridesUntilFall_52 : decode cX4_ridesUntilFall 52 = .ok (.ifCond .eq 7, 3) := by decide +kernel
theorem dX4_ridesUntilFall_55 : decode cX4_ridesUntilFall 55 = .ok (.iconst 1, 1) := by decide +kernel
theorem dX4_ridesUntilFall_56 : decode cX4_ridesUntilFall 56 = .ok (.goto 4, 3) := by decide +kernel
theorem dX4_ridesUntilFall_59 : decode cX4_ridesUntilFall 59 = .ok (.iconst 0, 1) := by decide +kernel
theorem dX4_ridesUntilFall_60 : decode cX4_ridesUntilFall 60 = .ok (.invokevirtual 74, 3) := by decide +kernel
theorem dX4_ridesUntilFall_63 : decode cX4_ridesUntilFall 63 = .ok (.ifCond .eq 5, 3) := by decide +kernel
theorem dX4_ridesUntilFall_66 : decode cX4_ridesUntilFall 66 = .ok (.iconst 0, 1) := by decide +kernel
theorem dX4_ridesUntilFall_67 : decode cX4_ridesUntilFall 67 = .ok (.ireturn, 1) := by decide +kernel
theorem dX4_ridesUntilFall_68 : decode cX4_ridesUntilFall 68 = .ok (.sipush 180, 3) := by decide +kernel
theorem dX4_ridesUntilFall_71 : decode cX4_ridesUntilFall 71 = .ok (.aload_n 0, 1) := by decide +kernel
theorem dX4_ridesUntilFall_72 : decode cX4_ridesUntilFall 72 = .ok (.iload_n 1, 1) := by decide +kernel
theorem dX4_ridesUntilFall_73 : decode cX4_ridesUntilFall 73 = .ok (.iconst 4, 1) := by decide +kernel
theorem dX4_ridesUntilFall_74 : decode cX4_ridesUntilFall 74 = .ok (.invokevirtual 94, 3) := by decide +kernel
theorem dX4_ridesUntilFall_77 : decode cX4_ridesUntilFall 77 = .ok (.isub, 1) := by decide +kernel
theorem dX4_ridesUntilFall_78 : decode cX4_ridesUntilFall 78 = .ok (.iload_n 2, 1) := by decide +kernel
theorem dX4_ridesUntilFall_79 : decode cX4_ridesUntilFall 79 = .ok (.iadd, 1) := by decide +kernel
theorem dX4_ridesUntilFall_80 : decode cX4_ridesUntilFall 80 = .ok (.iconst 1, 1) := by decide +kernel
theorem dX4_ridesUntilFall_81 : decode cX4_ridesUntilFall 81 = .ok (.isub, 1) := by decide +kernel
theorem dX4_ridesUntilFall_82 : decode cX4_ridesUntilFall 82 = .ok (.iload_n 2, 1) := by decide +kernel
theorem dX4_ridesUntilFall_83 : decode cX4_ridesUntilFall 83 = .ok (.idiv, 1) := by decide +kernel
theorem dX4_ridesUntilFall_84 : decode cX4_ridesUntilFall 84 = .ok (.ireturn, 1) := by decide +kernel
theorem dX4_countState_0 : decode cX4_countState 0 = .ok (.iconst 0, 1) := by decide +kernel
theorem dX4_countState_1 : decode cX4_countState 1 = .ok (.istore_n 2, 1) := by decide +kernel
theorem dX4_countState_2 : decode cX4_countState 2 = .ok (.iconst 0, 1) := by decide +kernel
theorem dX4_countState_3 : decode cX4_countState 3 = .ok (.istore_n 3, 1) := by decide +kernel
theorem dX4_countState_4 : decode cX4_countState 4 = .ok (.iload_n 3, 1) := by decide +kernel
theorem dX4_countState_5 : decode cX4_countState 5 = .ok (.aload_n 0, 1) := by decide +kernel
theorem dX4_countState_6 : decode cX4_countState 6 = .ok (.getfield 9, 3) := by decide +kernel
theorem dX4_countState_9 : decode cX4_countState 9 = .ok (.iconst 1, 1) := by decide +kernel
theorem dX4_countState_10 : decode cX4_countState 10 = .ok (.iaload, 1) := by decide +kernel
theorem dX4_countState_11 : decode cX4_countState 11 = .ok (.if_icmp .ge 27, 3) := by decide +kernel
theorem dX4_countState_14 : decode cX4_countState 14 = .ok (.iload_n 2, 1) := by decide +kernel
theorem dX4_countState_15 : decode cX4_countState 15 = .ok (.aload_n 0, 1) := by decide +kernel
theorem dX4_countState_16 : decode cX4_countState 16 = .ok (.iload_n 3, 1) := by decide +kernel
theorem dX4_countState_17 : decode cX4_countState 17 = .ok (.iconst 0, 1) := by decide +kernel
theorem dX4_countState_18 : decode cX4_countState 18 = .ok (.invokevirtual 94, 3) := by decide +kernel
theorem dX4_countState_21 : decode cX4_countState 21 = .ok (.iload_n 1, 1) := by decide +kernel
theorem dX4_countState_22 : decode cX4_countState 22 = .ok (.if_icmp .ne 7, 3) := by decide +kernel
theorem dX4_countState_25 : decode cX4_countState 25 = .ok (.iconst 1, 1) := by decide +kernel
theorem dX4_countState_26 : decode cX4_countState 26 = .ok (.goto 4, 3) := by decide +kernel
theorem dX4_countState_29 : decode cX4_countState 29 = .ok (.iconst 0, 1) := by decide +kernel
theorem dX4_countState_30 : decode cX4_countState 30 = .ok (.iadd, 1) := by decide +kernel
theorem dX4_countState_31 : decode cX4_countState 31 = .ok (.istore_n 2, 1) := by decide +kernel
theorem dX4_countState_32 : decode cX4_countState 32 = .ok (.iinc 3 1, 3) := by decide +kernel
theorem dX4_countState_35 : decode cX4_countState 35 = .ok (.goto (-31), 3) := by decide +kernel
theorem dX4_countState_38 : decode cX4_countState 38 = .ok (.iload_n 2, 1) := by decide +kernel
theorem dX4_countState_39 : decode cX4_countState 39 = .ok (.ireturn, 1) := by decide +kernel
theorem dX4_passedCount_0 : decode cX4_passedCount 0 = .ok (.aload_n 0, 1) := by decide +kernel
theorem dX4_passedCount_1 : decode cX4_passedCount 1 = .ok (.iconst 0, 1) := by decide +kernel
theorem dX4_passedCount_2 : decode cX4_passedCount 2 = .ok (.putfield 38, 3) := by decide +kernel
theorem dX4_passedCount_5 : decode cX4_passedCount 5 = .ok (.aload_n 0, 1) := by decide +kernel
theorem dX4_passedCount_6 : decode cX4_passedCount 6 = .ok (.iconst 1, 1) := by decide +kernel
theorem dX4_passedCount_7 : decode cX4_passedCount 7 = .ok (.invokevirtual 157, 3) := by decide +kernel
theorem dX4_passedCount_10 : decode cX4_passedCount 10 = .ok (.ireturn, 1) := by decide +kernel
theorem dX4_fallenCount_0 : decode cX4_fallenCount 0 = .ok (.aload_n 0, 1) := by decide +kernel
theorem dX4_fallenCount_1 : decode cX4_fallenCount 1 = .ok (.iconst 0, 1) := by decide +kernel
theorem dX4_fallenCount_2 : decode cX4_fallenCount 2 = .ok (.putfield 38, 3) := by decide +kernel
theorem dX4_fallenCount_5 : decode cX4_fallenCount 5 = .ok (.aload_n 0, 1) := by decide +kernel
theorem dX4_fallenCount_6 : decode cX4_fallenCount 6 = .ok (.iconst 2, 1) := by decide +kernel
theorem dX4_fallenCount_7 : decode cX4_fallenCount 7 = .ok (.invokevirtual 157, 3) := by decide +kernel
theorem dX4_fallenCount_10 : decode cX4_fallenCount 10 = .ok (.ireturn, 1) := by decide +kernel
theorem dX4_acceptedCount_0 : decode cX4_acceptedCount 0 = .ok (.aload_n 0, 1) := by decide +kernel
theorem dX4_acceptedCount_1 : decode cX4_acceptedCount 1 = .ok (.iconst 0, 1) := by decide +kernel
theorem dX4_acceptedCount_2 : decode cX4_acceptedCount 2 = .ok (.putfield 38, 3) := by decide +kernel
theorem dX4_acceptedCount_5 : decode cX4_acceptedCount 5 = .ok (.aload_n 0, 1) := by decide +kernel
theorem dX4_acceptedCount_6 : decode cX4_acceptedCount 6 = .ok (.getfield 9, 3) := by decide +kernel
theorem dX4_acceptedCount_9 : decode cX4_acceptedCount 9 = .ok (.iconst 4, 1) := by decide +kernel
theorem dX4_acceptedCount_10 : decode cX4_acceptedCount 10 = .ok (.iaload, 1) := by decide +kernel
theorem dX4_acceptedCount_11 : decode cX4_acceptedCount 11 = .ok (.ireturn, 1) := by decide +kernel
theorem dX4_isConsistent_0 : decode cX4_isConsistent 0 = .ok (.aload_n 0, 1) := by decide +kernel
theorem dX4_isConsistent_1 : decode cX4_isConsistent 1 = .ok (.iconst 0, 1) := by decide +kernel
theorem dX4_isConsistent_2 : decode cX4_isConsistent 2 = .ok (.putfield 38, 3) := by decide +kernel
theorem dX4_isConsistent_5 : decode cX4_isConsistent 5 = .ok (.iconst 1, 1) := by decide +kernel
theorem dX4_isConsistent_6 : decode cX4_isConsistent 6 = .ok (.ireturn, 1) := by decide +kernel
theorem dX4_write_0 : decode cX4_write 0 = .ok (.aload_n 0, 1) := by decide +kernel
theorem dX4_write_1 : decode cX4_write 1 = .ok (.getfield 24, 3) := by decide +kernel
theorem dX4_write_4 : decode cX4_write 4 = .ok (.aload_n 0, 1) := by decide +kernel
theorem dX4_write_5 : decode cX4_write 5 = .ok (.getfield 160, 3) := by decide +kernel
theorem dX4_write_8 : decode cX4_write 8 = .ok (.iload_n 1, 1) := by decide +kernel
theorem dX4_write_9 : decode cX4_write 9 = .ok (.castore, 1) := by decide +kernel
theorem dX4_write_10 : decode cX4_write 10 = .ok (.aload_n 0, 1) := by decide +kernel
theorem dX4_write_11 : decode cX4_write 11 = .ok (.dup, 1) := by decide +kernel
theorem dX4_write_12 : decode cX4_write 12 = .ok (.getfield 160, 3) := by decide +kernel
theorem dX4_write_15 : decode cX4_write 15 = .ok (.iconst 1, 1) := by decide +kernel
theorem dX4_write_16 : decode cX4_write 16 = .ok (.iadd, 1) := by decide +kernel
theorem dX4_write_17 : decode cX4_write 17 = .ok (.putfield 160, 3) := by decide +kernel
theorem dX4_write_20 : decode cX4_write 20 = .ok (.return_, 1) := by decide +kernel
theorem dX4_writeNumber_0 : decode cX4_writeNumber 0 = .ok (.iload_n 1, 1) := by decide +kernel
theorem dX4_writeNumber_1 : decode cX4_writeNumber 1 = .ok (.bipush 9, 2) := by decide +kernel
theorem dX4_writeNumber_3 : decode cX4_writeNumber 3 = .ok (.if_icmp .le 11, 3) := by decide +kernel
theorem dX4_writeNumber_6 : decode cX4_writeNumber 6 = .ok (.aload_n 0, 1) := by decide +kernel
theorem dX4_writeNumber_7 : decode cX4_writeNumber 7 = .ok (.iload_n 1, 1) := by decide +kernel
theorem dX4_writeNumber_8 : decode cX4_writeNumber 8 = .ok (.bipush 10, 2) := by decide +kernel
theorem dX4_writeNumber_10 : decode cX4_writeNumber 10 = .ok (.idiv, 1) := by decide +kernel
theorem dX4_writeNumber_11 : decode cX4_writeNumber 11 = .ok (.invokevirtual 163, 3) := by decide +kernel
theorem dX4_writeNumber_14 : decode cX4_writeNumber 14 = .ok (.aload_n 0, 1) := by decide +kernel
theorem dX4_writeNumber_15 : decode cX4_writeNumber 15 = .ok (.bipush 48, 2) := by decide +kernel
theorem dX4_writeNumber_17 : decode cX4_writeNumber 17 = .ok (.iload_n 1, 1) := by decide +kernel
theorem dX4_writeNumber_18 : decode cX4_writeNumber 18 = .ok (.bipush 10, 2) := by decide +kernel
theorem dX4_writeNumber_20 : decode cX4_writeNumber 20 = .ok (.irem, 1) := by decide +kernel
theorem dX4_writeNumber_21 : decode cX4_writeNumber 21 = .ok (.iadd, 1) := by decide +kernel
theorem dX4_writeNumber_22 : decode cX4_writeNumber 22 = .ok (.i2c, 1) := by decide +kernel
theorem dX4_writeNumber_23 : decode cX4_writeNumber 23 = .ok (.invokevirtual 167, 3) := by decide +kernel
theorem dX4_writeNumber_26 : decode cX4_writeNumber 26 = .ok (.return_, 1) := by decide +kernel
theorem dX4_writeBehind_0 : decode cX4_writeBehind 0 = .ok (.aload_n 0, 1) := by decide +kernel
theorem dX4_writeBehind_1 : decode cX4_writeBehind 1 = .ok (.iload_n 1, 1) := by decide +kernel
theorem dX4_writeBehind_2 : decode cX4_writeBehind 2 = .ok (.invokevirtual 167, 3) := by decide +kernel
theorem dX4_writeBehind_5 : decode cX4_writeBehind 5 = .ok (.aload_n 0, 1) := by decide +kernel
theorem dX4_writeBehind_6 : decode cX4_writeBehind 6 = .ok (.iload_n 2, 1) := by decide +kernel
theorem dX4_writeBehind_7 : decode cX4_writeBehind 7 = .ok (.invokevirtual 163, 3) := by decide +kernel
theorem dX4_writeBehind_10 : decode cX4_writeBehind 10 = .ok (.return_, 1) := by decide +kernel
theorem dX4_describeBill_0 : decode cX4_describeBill 0 = .ok (.aload_n 0, 1) := by decide +kernel
theorem dX4_describeBill_1 : decode cX4_describeBill 1 = .ok (.iconst 1, 1) := by decide +kernel
theorem dX4_describeBill_2 : decode cX4_describeBill 2 = .ok (.aload_n 0, 1) := by decide +kernel
theorem dX4_describeBill_3 : decode cX4_describeBill 3 = .ok (.iload_n 1, 1) := by decide +kernel
theorem dX4_describeBill_4 : decode cX4_describeBill 4 = .ok (.invokevirtual 108, 3) := by decide +kernel
theorem dX4_describeBill_7 : decode cX4_describeBill 7 = .ok (.ifCond .ne 7, 3) := by decide +kernel
theorem dX4_describeBill_10 : decode cX4_describeBill 10 = .ok (.iconst 1, 1) := by decide +kernel
theorem dX4_describeBill_11 : decode cX4_describeBill 11 = .ok (.goto 4, 3) := by decide +kernel
theorem dX4_describeBill_14 : decode cX4_describeBill 14 = .ok (.iconst 0, 1) := by decide +kernel
theorem dX4_describeBill_15 : decode cX4_describeBill 15 = .ok (.invokevirtual 74, 3) := by decide +kernel
theorem dX4_describeBill_18 : decode cX4_describeBill 18 = .ok (.ifCond .eq 5, 3) := by decide +kernel
theorem dX4_describeBill_21 : decode cX4_describeBill 21 = .ok (.iconst 0, 1) := by decide +kernel
theorem dX4_describeBill_22 : decode cX4_describeBill 22 = .ok (.ireturn, 1) := by decide +kernel
theorem dX4_describeBill_23 : decode cX4_describeBill 23 = .ok (.aload_n 0, 1) := by decide +kernel
theorem dX4_describeBill_24 : decode cX4_describeBill 24 = .ok (.iload_n 1, 1) := by decide +kernel
theorem dX4_describeBill_25 : decode cX4_describeBill 25 = .ok (.iconst 0, 1) := by decide +kernel
theorem dX4_describeBill_26 : decode cX4_describeBill 26 = .ok (.invokevirtual 94, 3) := by decide +kernel
theorem dX4_describeBill_29 : decode cX4_describeBill 29 = .ok (.istore_n 2, 1) := by decide +kernel
theorem dX4_describeBill_30 : decode cX4_describeBill 30 = .ok (.aload_n 0, 1) := by decide +kernel
theorem dX4_describeBill_31 : decode cX4_describeBill 31 = .ok (.iconst 0, 1) := by decide +kernel
theorem dX4_describeBill_32 : decode cX4_describeBill 32 = .ok (.putfield 160, 3) := by decide +kernel
theorem dX4_describeBill_35 : decode cX4_describeBill 35 = .ok (.aload_n 0, 1) := by decide +kernel
theorem dX4_describeBill_36 : decode cX4_describeBill 36 = .ok (.iload_n 1, 1) := by decide +kernel
theorem dX4_describeBill_37 : decode cX4_describeBill 37 = .ok (.invokevirtual 163, 3) := by decide +kernel
theorem dX4_describeBill_40 : decode cX4_describeBill 40 = .ok (.aload_n 0, 1) := by decide +kernel
theorem dX4_describeBill_41 : decode cX4_describeBill 41 = .ok (.iload_n 2, 1) := by decide +kernel
theorem dX4_describeBill_42 : decode cX4_describeBill 42 = .ok (.ifCond .ne 8, 3) := by decide +kernel
theorem dX4_describeBill_45 : decode cX4_describeBill 45 = .ok (.bipush 111, 2) := by decide +kernel
theorem dX4_describeBill_47 : decode cX4_describeBill 47 = .ok (.goto 15, 3) := by decide +kernel
theorem dX4_describeBill_50 : decode cX4_describeBill 50 = .ok (.iload_n 2, 1) := by decide +kernel
theorem dX4_describeBill_51 : decode cX4_describeBill 51 = .ok (.iconst 1, 1) := by decide +kernel
theorem dX4_describeBill_52 : decode cX4_describeBill 52 = .ok (.if_icmp .ne 8, 3) := by decide +kernel
theorem dX4_describeBill_55 : decode cX4_describeBill 55 = .ok (.bipush 112, 2) := by decide +kernel
theorem dX4_describeBill_57 : decode cX4_describeBill 57 = .ok (.goto 5, 3) := by decide +kernel
theorem dX4_describeBill_60 : decode cX4_describeBill 60 = .ok (.bipush 102, 2) := by decide +kernel
theorem dX4_describeBill_62 : decode cX4_describeBill 62 = .ok (.aload_n 0, 1) := by decide +kernel
theorem dX4_describeBill_63 : decode cX4_describeBill 63 = .ok (.iload_n 1, 1) := by decide +kernel
theorem dX4_describeBill_64 : decode cX4_describeBill 64 = .ok (.iconst 3, 1) := by decide +kernel
theorem dX4_describeBill_65 : decode cX4_describeBill 65 = .ok (.invokevirtual 94, 3) := by decide +kernel
theorem dX4_describeBill_68 : decode cX4_describeBill 68 = .ok (.invokevirtual 171, 3) := by decide +kernel
theorem dX4_describeBill_71 : decode cX4_describeBill 71 = .ok (.iconst 0, 1) := by decide +kernel
theorem dX4_describeBill_72 : decode cX4_describeBill 72 = .ok (.istore_n 3, 1) := by decide +kernel
theorem dX4_describeBill_73 : decode cX4_describeBill 73 = .ok (.iload_n 3, 1) := by decide +kernel
theorem dX4_describeBill_74 : decode cX4_describeBill 74 = .ok (.aload_n 0, 1) := by decide +kernel
theorem dX4_describeBill_75 : decode cX4_describeBill 75 = .ok (.iload_n 1, 1) := by decide +kernel
theorem dX4_describeBill_76 : decode cX4_describeBill 76 = .ok (.invokevirtual 123, 3) := by decide +kernel
theorem dX4_describeBill_79 : decode cX4_describeBill 79 = .ok (.if_icmp .ge 15, 3) := by decide +kernel
theorem dX4_describeBill_82 : decode cX4_describeBill 82 = .ok (.aload_n 0, 1) := by decide +kernel
theorem dX4_describeBill_83 : decode cX4_describeBill 83 = .ok (.bipush 42, 2) := by decide +kernel
theorem dX4_describeBill_85 : decode cX4_describeBill 85 = .ok (.invokevirtual 167, 3) := by decide +kernel
theorem dX4_describeBill_88 : decode cX4_describeBill 88 = .ok (.iinc 3 1, 3) := by decide +kernel
theorem dX4_describeBill_91 : decode cX4_describeBill 91 = .ok (.goto (-18), 3) := by decide +kernel
theorem dX4_describeBill_94 : decode cX4_describeBill 94 = .ok (.aload_n 0, 1) := by decide +kernel
theorem dX4_describeBill_95 : decode cX4_describeBill 95 = .ok (.bipush 58, 2) := by decide +kernel
theorem dX4_describeBill_97 : decode cX4_describeBill 97 = .ok (.aload_n 0, 1) := by decide +kernel
theorem dX4_describeBill_98 : decode cX4_describeBill 98 = .ok (.iload_n 1, 1) := by decide +kernel
theorem dX4_describeBill_99 : decode cX4_describeBill 99 = .ok (.invokevirtual 113, 3) := by decide +kernel
theorem dX4_describeBill_102 : decode cX4_describeBill 102 = .ok (.invokevirtual 171, 3) := by decide +kernel
theorem dX4_describeBill_105 : decode cX4_describeBill 105 = .ok (.iload_n 2, 1) := by decide +kernel
theorem dX4_describeBill_106 : decode cX4_describeBill 106 = .ok (.ifCond .ne 36, 3) := by decide +kernel
theorem dX4_describeBill_109 : decode cX4_describeBill 109 = .ok (.aload_n 0, 1) := by decide +kernel
theorem dX4_describeBill_110 : decode cX4_describeBill 110 = .ok (.bipush 43, 2) := by decide +kernel
theorem dX4_describeBill_112 : decode cX4_describeBill 112 = .ok (.aload_n 0, 1) := by decide +kernel
theorem dX4_describeBill_113 : decode cX4_describeBill 113 = .ok (.aload_n 0, 1) := by decide +kernel
theorem dX4_describeBill_114 : decode cX4_describeBill 114 = .ok (.iload_n 1, 1) := by decide +kernel
theorem dX4_describeBill_115 : decode cX4_describeBill 115 = .ok (.iconst 5, 1) := by decide +kernel
theorem dX4_describeBill_116 : decode cX4_describeBill 116 = .ok (.invokevirtual 94, 3) := by decide +kernel
theorem dX4_describeBill_119 : decode cX4_describeBill 119 = .ok (.invokevirtual 129, 3) := by decide +kernel
theorem dX4_describeBill_122 : decode cX4_describeBill 122 = .ok (.invokevirtual 171, 3) := by decide +kernel
theorem dX4_describeBill_125 : decode cX4_describeBill 125 = .ok (.aload_n 0, 1) := by decide +kernel
theorem dX4_describeBill_126 : decode cX4_describeBill 126 = .ok (.bipush 45, 2) := by decide +kernel
theorem dX4_describeBill_128 : decode cX4_describeBill 128 = .ok (.aload_n 0, 1) := by decide +kernel
theorem dX4_describeBill_129 : decode cX4_describeBill 129 = .ok (.aload_n 0, 1) := by decide +kernel
theorem dX4_describeBill_130 : decode cX4_describeBill 130 = .ok (.iload_n 1, 1) := by decide +kernel
theorem dX4_describeBill_131 : decode cX4_describeBill 131 = .ok (.bipush 6, 2) := by decide +kernel
theorem dX4_describeBill_133 : decode cX4_describeBill 133 = .ok (.invokevirtual 94, 3) := by decide +kernel
theorem dX4_describeBill_136 : decode cX4_describeBill 136 = .ok (.invokevirtual 129, 3) := by decide +kernel
theorem dX4_describeBill_139 : decode cX4_describeBill 139 = .ok (.invokevirtual 171, 3) := by decide +kernel
theorem dX4_describeBill_142 : decode cX4_describeBill 142 = .ok (.aload_n 0, 1) := by decide +kernel
theorem dX4_describeBill_143 : decode cX4_describeBill 143 = .ok (.getfield 160, 3) := by decide +kernel
theorem dX4_describeBill_146 : decode cX4_describeBill 146 = .ok (.ireturn, 1) := by decide +kernel
theorem dX4_lineAt_0 : decode cX4_lineAt 0 = .ok (.aload_n 0, 1) := by decide +kernel
theorem dX4_lineAt_1 : decode cX4_lineAt 1 = .ok (.iconst 1, 1) := by decide +kernel
theorem dX4_lineAt_2 : decode cX4_lineAt 2 = .ok (.iload_n 1, 1) := by decide +kernel
theorem dX4_lineAt_3 : decode cX4_lineAt 3 = .ok (.iconst 0, 1) := by decide +kernel
theorem dX4_lineAt_4 : decode cX4_lineAt 4 = .ok (.aload_n 0, 1) := by decide +kernel
theorem dX4_lineAt_5 : decode cX4_lineAt 5 = .ok (.getfield 160, 3) := by decide +kernel
theorem dX4_lineAt_8 : decode cX4_lineAt 8 = .ok (.iconst 1, 1) := by decide +kernel
theorem dX4_lineAt_9 : decode cX4_lineAt 9 = .ok (.isub, 1) := by decide +kernel
theorem dX4_lineAt_10 : decode cX4_lineAt 10 = .ok (.invokestatic 41, 3) := by decide +kernel
theorem dX4_lineAt_13 : decode cX4_lineAt 13 = .ok (.ifCond .ne 7, 3) := by decide +kernel
theorem dX4_lineAt_16 : decode cX4_lineAt 16 = .ok (.iconst 1, 1) := by decide +kernel
theorem dX4_lineAt_17 : decode cX4_lineAt 17 = .ok (.goto 4, 3) := by decide +kernel
theorem dX4_lineAt_20 : decode cX4_lineAt 20 = .ok (.iconst 0, 1) := by decide +kernel
theorem dX4_lineAt_21 : decode cX4_lineAt 21 = .ok (.invokevirtual 74, 3) := by decide +kernel
theorem dX4_lineAt_24 : decode cX4_lineAt 24 = .ok (.ifCond .eq 8, 3) := by decide +kernel
theorem dX4_lineAt_27 : decode cX4_lineAt 27 = .ok (.bipush 32, 2) := by decide +kernel
theorem dX4_lineAt_29 : decode cX4_lineAt 29 = .ok (.goto 9, 3) := by decide +kernel
theorem dX4_lineAt_32 : decode cX4_lineAt 32 = .ok (.aload_n 0, 1) := by decide +kernel
theorem dX4_lineAt_33 : decode cX4_lineAt 33 = .ok (.getfield 24, 3) := by decide +kernel
theorem dX4_lineAt_36 : decode cX4_lineAt 36 = .ok (.iload_n 1, 1) := by decide +kernel
theorem dX4_lineAt_37 : decode cX4_lineAt 37 = .ok (.caload, 1) := by decide +kernel
theorem dX4_lineAt_38 : decode cX4_lineAt 38 = .ok (.ireturn, 1) := by decide +kernel
theorem dX4_append_0 : decode cX4_append 0 = .ok (.aload_n 0, 1) := by decide +kernel
theorem dX4_append_1 : decode cX4_append 1 = .ok (.iconst 1, 1) := by decide +kernel
theorem dX4_append_2 : decode cX4_append 2 = .ok (.iload_n 1, 1) := by decide +kernel
theorem dX4_append_3 : decode cX4_append 3 = .ok (.bipush 32, 2) := by decide +kernel
theorem dX4_append_5 : decode cX4_append 5 = .ok (.bipush 126, 2) := by decide +kernel
theorem dX4_append_7 : decode cX4_append 7 = .ok (.invokestatic 41, 3) := by decide +kernel
theorem dX4_append_10 : decode cX4_append 10 = .ok (.ifCond .ne 7, 3) := by decide +kernel
theorem dX4_append_13 : decode cX4_append 13 = .ok (.iconst 1, 1) := by decide +kernel
theorem dX4_append_14 : decode cX4_append 14 = .ok (.goto 4, 3) := by decide +kernel
theorem dX4_append_17 : decode cX4_append 17 = .ok (.iconst 0, 1) := by decide +kernel
theorem dX4_append_18 : decode cX4_append 18 = .ok (.invokevirtual 74, 3) := by decide +kernel
theorem dX4_append_21 : decode cX4_append 21 = .ok (.ifCond .ne 25, 3) := by decide +kernel
theorem dX4_append_24 : decode cX4_append 24 = .ok (.aload_n 0, 1) := by decide +kernel
theorem dX4_append_25 : decode cX4_append 25 = .ok (.iconst 2, 1) := by decide +kernel
theorem dX4_append_26 : decode cX4_append 26 = .ok (.aload_n 0, 1) := by decide +kernel
theorem dX4_append_27 : decode cX4_append 27 = .ok (.getfield 175, 3) := by decide +kernel
theorem dX4_append_30 : decode cX4_append 30 = .ok (.bipush 60, 2) := by decide +kernel
theorem dX4_append_32 : decode cX4_append 32 = .ok (.if_icmp .ne 7, 3) := by decide +kernel
theorem dX4_append_35 : decode cX4_append 35 = .ok (.iconst 1, 1) := by decide +kernel
theorem dX4_append_36 : decode cX4_append 36 = .ok (.goto 4, 3) := by decide +kernel
theorem dX4_append_39 : decode cX4_append 39 = .ok (.iconst 0, 1) := by decide +kernel
theorem dX4_append_40 : decode cX4_append 40 = .ok (.invokevirtual 74, 3) := by decide +kernel
theorem dX4_append_43 : decode cX4_append 43 = .ok (.ifCond .eq 5, 3) := by decide +kernel
theorem dX4_append_46 : decode cX4_append 46 = .ok (.iconst 0, 1) := by decide +kernel
theorem dX4_append_47 : decode cX4_append 47 = .ok (.ireturn, 1) := by decide +kernel
theorem dX4_append_48 : decode cX4_append 48 = .ok (.aload_n 0, 1) := by decide +kernel
theorem dX4_append_49 : decode cX4_append 49 = .ok (.getfield 28, 3) := by decide +kernel
theorem dX4_append_52 : decode cX4_append 52 = .ok (.aload_n 0, 1) := by decide +kernel
theorem dX4_append_53 : decode cX4_append 53 = .ok (.getfield 175, 3) := by decide +kernel
theorem dX4_append_56 : decode cX4_append 56 = .ok (.iload_n 1, 1) := by decide +kernel
theorem dX4_append_57 : decode cX4_append 57 = .ok (.castore, 1) := by decide +kernel
theorem dX4_append_58 : decode cX4_append 58 = .ok (.aload_n 0, 1) := by decide +kernel
theorem dX4_append_59 : decode cX4_append 59 = .ok (.dup, 1) := by decide +kernel
theorem dX4_append_60 : decode cX4_append 60 = .ok (.getfield 175, 3) := by decide +kernel
theorem dX4_append_63 : decode cX4_append 63 = .ok (.iconst 1, 1) := by decide +kernel
theorem dX4_append_64 : decode cX4_append 64 = .ok (.iadd, 1) := by decide +kernel
theorem dX4_append_65 : decode cX4_append 65 = .ok (.putfield 175, 3) := by decide +kernel
theorem dX4_append_68 : decode cX4_append 68 = .ok (.aload_n 0, 1) := by decide +kernel
theorem dX4_append_69 : decode cX4_append 69 = .ok (.getfield 175, 3) := by decide +kernel
theorem dX4_append_72 : decode cX4_append 72 = .ok (.ireturn, 1) := by decide +kernel
theorem dX4_seen_0 : decode cX4_seen 0 = .ok (.aload_n 0, 1) := by decide +kernel
theorem dX4_seen_1 : decode cX4_seen 1 = .ok (.getfield 178, 3) := by decide +kernel
theorem dX4_seen_4 : decode cX4_seen 4 = .ok (.ifCond .ne 30, 3) := by decide +kernel
theorem dX4_seen_7 : decode cX4_seen 7 = .ok (.aload_n 0, 1) := by decide +kernel
theorem dX4_seen_8 : decode cX4_seen 8 = .ok (.getfield 181, 3) := by decide +kernel
theorem dX4_seen_11 : decode cX4_seen 11 = .ok (.iload_n 1, 1) := by decide +kernel
theorem dX4_seen_12 : decode cX4_seen 12 = .ok (.iadd, 1) := by decide +kernel
theorem dX4_seen_13 : decode cX4_seen 13 = .ok (.aload_n 0, 1) := by decide +kernel
theorem dX4_seen_14 : decode cX4_seen 14 = .ok (.getfield 175, 3) := by decide +kernel
theorem dX4_seen_17 : decode cX4_seen 17 = .ok (.if_icmp .ge 17, 3) := by decide +kernel
theorem dX4_seen_20 : decode cX4_seen 20 = .ok (.aload_n 0, 1) := by decide +kernel
theorem dX4_seen_21 : decode cX4_seen 21 = .ok (.getfield 28, 3) := by decide +kernel
theorem dX4_seen_24 : decode cX4_seen 24 = .ok (.aload_n 0, 1) := by decide +kernel
theorem dX4_seen_25 : decode cX4_seen 25 = .ok (.getfield 181, 3) := by decide +kernel
theorem dX4_seen_28 : decode cX4_seen 28 = .ok (.iload_n 1, 1) := by decide +kernel
theorem dX4_seen_29 : decode cX4_seen 29 = .ok (.iadd, 1) := by decide +kernel
theorem dX4_seen_30 : decode cX4_seen 30 = .ok (.caload, 1) := by decide +kernel
theorem dX4_seen_31 : decode cX4_seen 31 = .ok (.goto 5, 3) := by decide +kernel
theorem dX4_seen_34 : decode cX4_seen 34 = .ok (.bipush 32, 2) := by decide +kernel
theorem dX4_seen_36 : decode cX4_seen 36 = .ok (.ireturn, 1) := by decide +kernel
theorem dX4_sees_0 : decode cX4_sees 0 = .ok (.aload_n 0, 1) := by decide +kernel
theorem dX4_sees_1 : decode cX4_sees 1 = .ok (.getfield 178, 3) := by decide +kernel
theorem dX4_sees_4 : decode cX4_sees 4 = .ok (.ifCond .ne 35, 3) := by decide +kernel
theorem dX4_sees_7 : decode cX4_sees 7 = .ok (.aload_n 0, 1) := by decide +kernel
theorem dX4_sees_8 : decode cX4_sees 8 = .ok (.getfield 181, 3) := by decide +kernel
theorem dX4_sees_11 : decode cX4_sees 11 = .ok (.aload_n 0, 1) := by decide +kernel
theorem dX4_sees_12 : decode cX4_sees 12 = .ok (.getfield 175, 3) := by decide +kernel
theorem dX4_sees_15 : decode cX4_sees 15 = .ok (.if_icmp .ge 24, 3) := by decide +kernel
theorem dX4_sees_18 : decode cX4_sees 18 = .ok (.aload_n 0, 1) := by decide +kernel
theorem dX4_sees_19 : decode cX4_sees 19 = .ok (.getfield 28, 3) := by decide +kernel
theorem dX4_sees_22 : decode cX4_sees 22 = .ok (.aload_n 0, 1) := by decide +kernel
theorem dX4_sees_23 : decode cX4_sees 23 = .ok (.getfield 181, 3) := by decide +kernel
theorem dX4_sees_26 : decode cX4_sees 26 = .ok (.caload, 1) := by decide +kernel
theorem dX4_sees_27 : decode cX4_sees 27 = .ok (.iload_n 1, 1) := by decide +kernel
theorem dX4_sees_28 : decode cX4_sees 28 = .ok (.iload_n 2, 1) := by decide +kernel
theorem dX4_sees_29 : decode cX4_sees 29 = .ok (.invokestatic 41, 3) := by decide +kernel
theorem dX4_sees_32 : decode cX4_sees 32 = .ok (.ifCond .eq 7, 3) := by decide +kernel
theorem dX4_sees_35 : decode cX4_sees 35 = .ok (.iconst 1, 1) := by decide +kernel
theorem dX4_sees_36 : decode cX4_sees 36 = .ok (.goto 4, 3) := by decide +kernel
theorem dX4_sees_39 : decode cX4_sees 39 = .ok (.iconst 0, 1) := by decide +kernel
theorem dX4_sees_40 : decode cX4_sees 40 = .ok (.ireturn, 1) := by decide +kernel
theorem dX4_must_0 : decode cX4_must 0 = .ok (.aload_n 0, 1) := by decide +kernel
theorem dX4_must_1 : decode cX4_must 1 = .ok (.dup, 1) := by decide +kernel
theorem dX4_must_2 : decode cX4_must 2 = .ok (.getfield 178, 3) := by decide +kernel
theorem dX4_must_5 : decode cX4_must 5 = .ok (.aload_n 0, 1) := by decide +kernel
theorem dX4_must_6 : decode cX4_must 6 = .ok (.iload_n 1, 1) := by decide +kernel
theorem dX4_must_7 : decode cX4_must 7 = .ok (.iload_n 1, 1) := by decide +kernel
theorem dX4_must_8 : decode cX4_must 8 = .ok (.invokevirtual 184, 3) := by decide +kernel
theorem dX4_must_11 : decode cX4_must 11 = .ok (.ifCond .ne 7, 3) := by decide +kernel
theorem dX4_must_14 : decode cX4_must 14 = .ok (.iconst 1, 1) := by decide +kernel
theorem dX4_must_15 : decode cX4_must 15 = .ok (.goto 4, 3) := by decide +kernel
theorem dX4_must_18 : decode cX4_must 18 = .ok (.iconst 0, 1) := by decide +kernel
theorem dX4_must_19 : decode cX4_must 19 = .ok (.ior, 1) := by decide +kernel
theorem dX4_must_20 : decode cX4_must 20 = .ok (.putfield 178, 3) := by decide +kernel
theorem dX4_must_23 : decode cX4_must 23 = .ok (.aload_n 0, 1) := by decide +kernel
theorem dX4_must_24 : decode cX4_must 24 = .ok (.dup, 1) := by decide +kernel
theorem dX4_must_25 : decode cX4_must 25 = .ok (.getfield 181, 3) := by decide +kernel
theorem dX4_must_28 : decode cX4_must 28 = .ok (.aload_n 0, 1) := by decide +kernel
theorem dX4_must_29 : decode cX4_must 29 = .ok (.getfield 178, 3) := by decide +kernel
theorem dX4_must_32 : decode cX4_must 32 = .ok (.ifCond .eq 7, 3) := by decide +kernel
theorem dX4_must_35 : decode cX4_must 35 = .ok (.iconst 0, 1) := by decide +kernel
theorem dX4_must_36 : decode cX4_must 36 = .ok (.goto 4, 3) := by decide +kernel
theorem dX4_must_39 : decode cX4_must 39 = .ok (.iconst 1, 1) := by decide +kernel
theorem dX4_must_40 : decode cX4_must 40 = .ok (.iadd, 1) := by decide +kernel
theorem dX4_must_41 : decode cX4_must 41 = .ok (.putfield 181, 3) := by decide +kernel
theorem dX4_must_44 : decode cX4_must 44 = .ok (.return_, 1) := by decide +kernel
theorem dX4_readNumber_0 : decode cX4_readNumber 0 = .ok (.aload_n 0, 1) := by decide +kernel
theorem dX4_readNumber_1 : decode cX4_readNumber 1 = .ok (.dup, 1) := by decide +kernel
theorem dX4_readNumber_2 : decode cX4_readNumber 2 = .ok (.getfield 178, 3) := by decide +kernel
theorem dX4_readNumber_5 : decode cX4_readNumber 5 = .ok (.aload_n 0, 1) := by decide +kernel
theorem dX4_readNumber_6 : decode cX4_readNumber 6 = .ok (.bipush 48, 2) := by decide +kernel
theorem dX4_readNumber_8 : decode cX4_readNumber 8 = .ok (.bipush 57, 2) := by decide +kernel
theorem dX4_readNumber_10 : decode cX4_readNumber 10 = .ok (.invokevirtual 184, 3) := by decide +kernel
theorem dX4_readNumber_13 : decode cX4_readNumber 13 = .ok (.ifCond .ne 7, 3) := by decide +kernel
theorem dX4_readNumber_16 : decode cX4_readNumber 16 = .ok (.iconst 1, 1) := by decide +kernel
theorem dX4_readNumber_17 : decode cX4_readNumber 17 = .ok (.goto 4, 3) := by decide +kernel
theorem dX4_readNumber_20 : decode cX4_readNumber 20 = .ok (.iconst 0, 1) := by decide +kernel
theorem dX4_readNumber_21 : decode cX4_readNumber 21 = .ok (.ior, 1) := by decide +kernel
theorem dX4_readNumber_22 : decode cX4_readNumber 22 = .ok (.putfield 178, 3) := by decide +kernel
theorem dX4_readNumber_25 : decode cX4_readNumber 25 = .ok (.iconst 0, 1) := by decide +kernel
theorem dX4_readNumber_26 : decode cX4_readNumber 26 = .ok (.istore_n 2, 1) := by decide +kernel
theorem dX4_readNumber_27 : decode cX4_readNumber 27 = .ok (.iconst 0, 1) := by decide +kernel
theorem dX4_readNumber_28 : decode cX4_readNumber 28 = .ok (.istore_n 3, 1) := by decide +kernel
theorem dX4_readNumber_29 : decode cX4_readNumber 29 = .ok (.iload_n 3, 1) := by decide +kernel
theorem dX4_readNumber_30 : decode cX4_readNumber 30 = .ok (.iload_n 1, 1) := by decide +kernel
theorem dX4_readNumber_31 : decode cX4_readNumber 31 = .ok (.if_icmp .ge 48, 3) := by decide +kernel
theorem dX4_readNumber_34 : decode cX4_readNumber 34 = .ok (.aload_n 0, 1) := by decide +kernel
theorem dX4_readNumber_35 : decode cX4_readNumber 35 = .ok (.bipush 48, 2) := by decide +kernel
theorem dX4_readNumber_37 : decode cX4_readNumber 37 = .ok (.bipush 57, 2) := by decide +kernel
theorem dX4_readNumber_39 : decode cX4_readNumber 39 = .ok (.invokevirtual 184, 3) := by decide +kernel
theorem dX4_readNumber_42 : decode cX4_readNumber 42 = .ok (.ifCond .eq 37, 3) := by decide +kernel
theorem dX4_readNumber_45 : decode cX4_readNumber 45 = .ok (.bipush 10, 2) := by decide +kernel
theorem dX4_readNumber_47 : decode cX4_readNumber 47 = .ok (.iload_n 2, 1) := by decide +kernel
theorem dX4_readNumber_48 : decode cX4_readNumber 48 = .ok (.imul, 1) := by decide +kernel
theorem dX4_readNumber_49 : decode cX4_readNumber 49 = .ok (.aload_n 0, 1) := by decide +kernel
theorem dX4_readNumber_50 : decode cX4_readNumber 50 = .ok (.getfield 28, 3) := by decide +kernel
theorem dX4_readNumber_53 : decode cX4_readNumber 53 = .ok (.aload_n 0, 1) := by decide +kernel
theorem dX4_readNumber_54 : decode cX4_readNumber 54 = .ok (.getfield 181, 3) := by decide +kernel
theorem dX4_readNumber_57 : decode cX4_readNumber 57 = .ok (.caload, 1) := by decide +kernel
theorem dX4_readNumber_58 : decode cX4_readNumber 58 = .ok (.iadd, 1) := by decide +kernel
theorem dX4_readNumber_59 : decode cX4_readNumber 59 = .ok (.bipush 48, 2) := by decide +kernel
theorem dX4_readNumber_61 : decode cX4_readNumber 61 = .ok (.isub, 1) := by decide +kernel
theorem dX4_readNumber_62 : decode cX4_readNumber 62 = .ok (.istore_n 2, 1) := by decide +kernel
theorem dX4_readNumber_63 : decode cX4_readNumber 63 = .ok (.aload_n 0, 1) := by decide +kernel
theorem dX4_readNumber_64 : decode cX4_readNumber 64 = .ok (.dup, 1) := by decide +kernel
theorem dX4_readNumber_65 : decode cX4_readNumber 65 = .ok (.getfield 181, 3) := by decide +kernel
theorem dX4_readNumber_68 : decode cX4_readNumber 68 = .ok (.iconst 1, 1) := by decide +kernel
theorem dX4_readNumber_69 : decode cX4_readNumber 69 = .ok (.iadd, 1) := by decide +kernel
theorem dX4_readNumber_70 : decode cX4_readNumber 70 = .ok (.putfield 181, 3) := by decide +kernel
theorem dX4_readNumber_73 : decode cX4_readNumber 73 = .ok (.iinc 3 1, 3) := by decide +kernel
theorem dX4_readNumber_76 : decode cX4_readNumber 76 = .ok (.goto (-47), 3) := by decide +kernel
theorem dX4_readNumber_79 : decode cX4_readNumber 79 = .ok (.iload_n 2, 1) := by decide +kernel
theorem dX4_readNumber_80 : decode cX4_readNumber 80 = .ok (.ireturn, 1) := by decide +kernel
theorem dX4_readBehind_0 : decode cX4_readBehind 0 = .ok (.aload_n 0, 1) := by decide +kernel
theorem dX4_readBehind_1 : decode cX4_readBehind 1 = .ok (.iload_n 1, 1) := by decide +kernel
theorem dX4_readBehind_2 : decode cX4_readBehind 2 = .ok (.invokevirtual 188, 3) := by decide +kernel
theorem dX4_readBehind_5 : decode cX4_readBehind 5 = .ok (.aload_n 0, 1) := by decide +kernel
theorem dX4_readBehind_6 : decode cX4_readBehind 6 = .ok (.iload_n 2, 1) := by decide +kernel
theorem dX4_readBehind_7 : decode cX4_readBehind 7 = .ok (.invokevirtual 191, 3) := by decide +kernel
theorem dX4_readBehind_10 : decode cX4_readBehind 10 = .ok (.ireturn, 1) := by decide +kernel
theorem dX4_keyword_0 : decode cX4_keyword 0 = .ok (.aload_n 0, 1) := by decide +kernel
theorem dX4_keyword_1 : decode cX4_keyword 1 = .ok (.getfield 194, 3) := by decide +kernel
theorem dX4_keyword_4 : decode cX4_keyword 4 = .ok (.tableswitch 149 97 121 #[137, 125, 134, 143, 116, 149, 149, 149, 149, 149, 149, 119, 149, 131, 149, 149, 122, 146, 140, 149, 149, 149, 149, 149, 128], 116) := by decide +kernel
theorem dX4_keyword_120 : decode cX4_keyword 120 = .ok (.ldc 198, 2) := by decide +kernel
theorem dX4_keyword_122 : decode cX4_keyword 122 = .ok (.areturn, 1) := by decide +kernel
theorem dX4_keyword_123 : decode cX4_keyword 123 = .ok (.ldc 200, 2) := by decide +kernel
theorem dX4_keyword_125 : decode cX4_keyword 125 = .ok (.areturn, 1) := by decide +kernel
theorem dX4_keyword_126 : decode cX4_keyword 126 = .ok (.ldc 202, 2) := by decide +kernel
theorem dX4_keyword_128 : decode cX4_keyword 128 = .ok (.areturn, 1) := by decide +kernel
theorem dX4_keyword_129 : decode cX4_keyword 129 = .ok (.ldc 204, 2) := by decide +kernel
theorem dX4_keyword_131 : decode cX4_keyword 131 = .ok (.areturn, 1) := by decide +kernel
theorem dX4_keyword_132 : decode cX4_keyword 132 = .ok (.ldc 206, 2) := by decide +kernel
theorem dX4_keyword_134 : decode cX4_keyword 134 = .ok (.areturn, 1) := by decide +kernel
theorem dX4_keyword_135 : decode cX4_keyword 135 = .ok (.ldc 208, 2) := by decide +kernel
theorem dX4_keyword_137 : decode cX4_keyword 137 = .ok (.areturn, 1) := by decide +kernel
theorem dX4_keyword_138 : decode cX4_keyword 138 = .ok (.ldc 210, 2) := by decide +kernel
theorem dX4_keyword_140 : decode cX4_keyword 140 = .ok (.areturn, 1) := by decide +kernel
theorem dX4_keyword_141 : decode cX4_keyword 141 = .ok (.ldc 212, 2) := by decide +kernel
theorem dX4_keyword_143 : decode cX4_keyword 143 = .ok (.areturn, 1) := by decide +kernel
theorem dX4_keyword_144 : decode cX4_keyword 144 = .ok (.ldc 214, 2) := by decide +kernel
theorem dX4_keyword_146 : decode cX4_keyword 146 = .ok (.areturn, 1) := by decide +kernel
theorem dX4_keyword_147 : decode cX4_keyword 147 = .ok (.ldc 216, 2) := by decide +kernel
theorem dX4_keyword_149 : decode cX4_keyword 149 = .ok (.areturn, 1) := by decide +kernel
theorem dX4_keyword_150 : decode cX4_keyword 150 = .ok (.ldc 218, 2) := by decide +kernel
theorem dX4_keyword_152 : decode cX4_keyword 152 = .ok (.areturn, 1) := by decide +kernel
theorem dX4_keyword_153 : decode cX4_keyword 153 = .ok (.ldc 220, 2) := by decide +kernel
theorem dX4_keyword_155 : decode cX4_keyword 155 = .ok (.areturn, 1) := by decide +kernel
theorem dX4_readCommand_0 : decode cX4_readCommand 0 = .ok (.aload_n 0, 1) := by decide +kernel
theorem dX4_readCommand_1 : decode cX4_readCommand 1 = .ok (.aload_n 0, 1) := by decide +kernel
theorem dX4_readCommand_2 : decode cX4_readCommand 2 = .ok (.iconst 0, 1) := by decide +kernel
theorem dX4_readCommand_3 : decode cX4_readCommand 3 = .ok (.invokevirtual 222, 3) := by decide +kernel
theorem dX4_readCommand_6 : decode cX4_readCommand 6 = .ok (.putfield 194, 3) := by decide +kernel
theorem dX4_readCommand_9 : decode cX4_readCommand 9 = .ok (.aload_n 0, 1) := by decide +kernel
theorem dX4_readCommand_10 : decode cX4_readCommand 10 = .ok (.invokevirtual 226, 3) := by decide +kernel
theorem dX4_readCommand_13 : decode cX4_readCommand 13 = .ok (.astore_n 1, 1) := by decide +kernel
theorem dX4_readCommand_14 : decode cX4_readCommand 14 = .ok (.iconst 0, 1) := by decide +kernel
theorem dX4_readCommand_15 : decode cX4_readCommand 15 = .ok (.istore_n 2, 1) := by decide +kernel
theorem dX4_readCommand_16 : decode cX4_readCommand 16 = .ok (.iload_n 2, 1) := by decide +kernel
theorem dX4_readCommand_17 : decode cX4_readCommand 17 = .ok (.aload_n 1, 1) := by decide +kernel
theorem dX4_readCommand_18 : decode cX4_readCommand 18 = .ok (.invokevirtual 230, 3) := by decide +kernel
theorem dX4_readCommand_21 : decode cX4_readCommand 21 = .ok (.if_icmp .ge 18, 3) := by decide +kernel
theorem dX4_readCommand_24 : decode cX4_readCommand 24 = .ok (.aload_n 0, 1) := by decide +kernel
theorem dX4_readCommand_25 : decode cX4_readCommand 25 = .ok (.aload_n 1, 1) := by decide +kernel
theorem dX4_readCommand_26 : decode cX4_readCommand 26 = .ok (.iload_n 2, 1) := by decide +kernel
theorem dX4_readCommand_27 : decode cX4_readCommand 27 = .ok (.invokevirtual 235, 3) := by decide +kernel
theorem dX4_readCommand_30 : decode cX4_readCommand 30 = .ok (.invokevirtual 188, 3) := by decide +kernel
theorem dX4_readCommand_33 : decode cX4_readCommand 33 = .ok (.iinc 2 1, 3) := by decide +kernel
theorem dX4_readCommand_36 : decode cX4_readCommand 36 = .ok (.goto (-20), 3) := by decide +kernel
theorem dX4_readCommand_39 : decode cX4_readCommand 39 = .ok (.aload_n 0, 1) := by decide +kernel
theorem dX4_readCommand_40 : decode cX4_readCommand 40 = .ok (.getfield 194, 3) := by decide +kernel
theorem dX4_readCommand_43 : decode cX4_readCommand 43 = .ok (.tableswitch 207 97 114 #[171, 99, 207, 207, 85, 207, 207, 207, 207, 207, 207, 85, 207, 207, 207, 207, 85, 135], 85) := by decide +kernel
theorem dX4_readCommand_128 : decode cX4_readCommand 128 = .ok (.aload_n 0, 1) := by decide +kernel
theorem dX4_readCommand_129 : decode cX4_readCommand 129 = .ok (.aload_n 0, 1) := by decide +kernel
theorem dX4_readCommand_130 : decode cX4_readCommand 130 = .ok (.bipush 32, 2) := by decide +kernel
theorem dX4_readCommand_132 : decode cX4_readCommand 132 = .ok (.iconst 2, 1) := by decide +kernel
theorem dX4_readCommand_133 : decode cX4_readCommand 133 = .ok (.invokevirtual 238, 3) := by decide +kernel
theorem dX4_readCommand_136 : decode cX4_readCommand 136 = .ok (.putfield 242, 3) := by decide +kernel
theorem dX4_readCommand_139 : decode cX4_readCommand 139 = .ok (.goto 115, 3) := by decide +kernel
theorem dX4_readCommand_142 : decode cX4_readCommand 142 = .ok (.aload_n 0, 1) := by decide +kernel
theorem dX4_readCommand_143 : decode cX4_readCommand 143 = .ok (.aload_n 0, 1) := by decide +kernel
theorem dX4_readCommand_144 : decode cX4_readCommand 144 = .ok (.bipush 32, 2) := by decide +kernel
theorem dX4_readCommand_146 : decode cX4_readCommand 146 = .ok (.iconst 2, 1) := by decide +kernel
theorem dX4_readCommand_147 : decode cX4_readCommand 147 = .ok (.invokevirtual 238, 3) := by decide +kernel
theorem dX4_readCommand_150 : decode cX4_readCommand 150 = .ok (.putfield 242, 3) := by decide +kernel
theorem dX4_readCommand_153 : decode cX4_readCommand 153 = .ok (.aload_n 0, 1) := by decide +kernel
theorem dX4_readCommand_154 : decode cX4_readCommand 154 = .ok (.aload_n 0, 1) := by decide +kernel
theorem dX4_readCommand_155 : decode cX4_readCommand 155 = .ok (.bipush 32, 2) := by decide +kernel
theorem dX4_readCommand_157 : decode cX4_readCommand 157 = .ok (.iconst 2, 1) := by decide +kernel
theorem dX4_readCommand_158 : decode cX4_readCommand 158 = .ok (.invokevirtual 238, 3) := by decide +kernel
theorem dX4_readCommand_161 : decode cX4_readCommand 161 = .ok (.putfield 245, 3) := by decide +kernel
theorem dX4_readCommand_164 : decode cX4_readCommand 164 = .ok (.aload_n 0, 1) := by decide +kernel
theorem dX4_readCommand_165 : decode cX4_readCommand 165 = .ok (.aload_n 0, 1) := by decide +kernel
theorem dX4_readCommand_166 : decode cX4_readCommand 166 = .ok (.bipush 45, 2) := by decide +kernel
theorem dX4_readCommand_168 : decode cX4_readCommand 168 = .ok (.iconst 2, 1) := by decide +kernel
theorem dX4_readCommand_169 : decode cX4_readCommand 169 = .ok (.invokevirtual 238, 3) := by decide +kernel
theorem dX4_readCommand_172 : decode cX4_readCommand 172 = .ok (.putfield 248, 3) := by decide +kernel
theorem dX4_readCommand_175 : decode cX4_readCommand 175 = .ok (.goto 79, 3) := by decide +kernel
theorem dX4_readCommand_178 : decode cX4_readCommand 178 = .ok (.aload_n 0, 1) := by decide +kernel
theorem dX4_readCommand_179 : decode cX4_readCommand 179 = .ok (.aload_n 0, 1) := by decide +kernel
theorem dX4_readCommand_180 : decode cX4_readCommand 180 = .ok (.bipush 32, 2) := by decide +kernel
theorem dX4_readCommand_182 : decode cX4_readCommand 182 = .ok (.iconst 2, 1) := by decide +kernel
theorem dX4_readCommand_183 : decode cX4_readCommand 183 = .ok (.invokevirtual 238, 3) := by decide +kernel
theorem dX4_readCommand_186 : decode cX4_readCommand 186 = .ok (.putfield 242, 3) := by decide +kernel
theorem dX4_readCommand_189 : decode cX4_readCommand 189 = .ok (.aload_n 0, 1) := by decide +kernel
theorem dX4_readCommand_190 : decode cX4_readCommand 190 = .ok (.aload_n 0, 1) := by decide +kernel
theorem dX4_readCommand_191 : decode cX4_readCommand 191 = .ok (.bipush 32, 2) := by decide +kernel
theorem dX4_readCommand_193 : decode cX4_readCommand 193 = .ok (.iconst 1, 1) := by decide +kernel
theorem dX4_readCommand_194 : decode cX4_readCommand 194 = .ok (.invokevirtual 238, 3) := by decide +kernel
theorem dX4_readCommand_197 : decode cX4_readCommand 197 = .ok (.putfield 245, 3) := by decide +kernel
theorem dX4_readCommand_200 : decode cX4_readCommand 200 = .ok (.aload_n 0, 1) := by decide +kernel
theorem dX4_readCommand_201 : decode cX4_readCommand 201 = .ok (.aload_n 0, 1) := by decide +kernel
theorem dX4_readCommand_202 : decode cX4_readCommand 202 = .ok (.bipush 32, 2) := by decide +kernel
theorem dX4_readCommand_204 : decode cX4_readCommand 204 = .ok (.iconst 2, 1) := by decide +kernel
theorem dX4_readCommand_205 : decode cX4_readCommand 205 = .ok (.invokevirtual 238, 3) := by decide +kernel
theorem dX4_readCommand_208 : decode cX4_readCommand 208 = .ok (.putfield 248, 3) := by decide +kernel
theorem dX4_readCommand_211 : decode cX4_readCommand 211 = .ok (.goto 43, 3) := by decide +kernel
theorem dX4_readCommand_214 : decode cX4_readCommand 214 = .ok (.aload_n 0, 1) := by decide +kernel
theorem dX4_readCommand_215 : decode cX4_readCommand 215 = .ok (.aload_n 0, 1) := by decide +kernel
theorem dX4_readCommand_216 : decode cX4_readCommand 216 = .ok (.bipush 32, 2) := by decide +kernel
theorem dX4_readCommand_218 : decode cX4_readCommand 218 = .ok (.iconst 1, 1) := by decide +kernel
theorem dX4_readCommand_219 : decode cX4_readCommand 219 = .ok (.invokevirtual 238, 3) := by decide +kernel
theorem dX4_readCommand_222 : decode cX4_readCommand 222 = .ok (.putfield 242, 3) := by decide +kernel
theorem dX4_readCommand_225 : decode cX4_readCommand 225 = .ok (.aload_n 0, 1) := by decide +kernel
theorem dX4_readCommand_226 : decode cX4_readCommand 226 = .ok (.aload_n 0, 1) := by decide +kernel
theorem dX4_readCommand_227 : decode cX4_readCommand 227 = .ok (.bipush 32, 2) := by decide +kernel
theorem dX4_readCommand_229 : decode cX4_readCommand 229 = .ok (.iconst 2, 1) := by decide +kernel
theorem dX4_readCommand_230 : decode cX4_readCommand 230 = .ok (.invokevirtual 238, 3) := by decide +kernel
theorem dX4_readCommand_233 : decode cX4_readCommand 233 = .ok (.putfield 245, 3) := by decide +kernel
theorem dX4_readCommand_236 : decode cX4_readCommand 236 = .ok (.aload_n 0, 1) := by decide +kernel
theorem dX4_readCommand_237 : decode cX4_readCommand 237 = .ok (.aload_n 0, 1) := by decide +kernel
theorem dX4_readCommand_238 : decode cX4_readCommand 238 = .ok (.bipush 32, 2) := by decide +kernel
theorem dX4_readCommand_240 : decode cX4_readCommand 240 = .ok (.iconst 2, 1) := by decide +kernel
theorem dX4_readCommand_241 : decode cX4_readCommand 241 = .ok (.invokevirtual 238, 3) := by decide +kernel
theorem dX4_readCommand_244 : decode cX4_readCommand 244 = .ok (.putfield 248, 3) := by decide +kernel
theorem dX4_readCommand_247 : decode cX4_readCommand 247 = .ok (.goto 7, 3) := by decide +kernel
theorem dX4_readCommand_250 : decode cX4_readCommand 250 = .ok (.aload_n 0, 1) := by decide +kernel
theorem dX4_readCommand_251 : decode cX4_readCommand 251 = .ok (.invokevirtual 251, 3) := by decide +kernel
theorem dX4_readCommand_254 : decode cX4_readCommand 254 = .ok (.return_, 1) := by decide +kernel
theorem dX4_readOther_0 : decode cX4_readOther 0 = .ok (.aload_n 0, 1) := by decide +kernel
theorem dX4_readOther_1 : decode cX4_readOther 1 = .ok (.aload_n 0, 1) := by decide +kernel
theorem dX4_readOther_2 : decode cX4_readOther 2 = .ok (.bipush 32, 2) := by decide +kernel
theorem dX4_readOther_4 : decode cX4_readOther 4 = .ok (.iconst 1, 1) := by decide +kernel
theorem dX4_readOther_5 : decode cX4_readOther 5 = .ok (.invokevirtual 238, 3) := by decide +kernel
theorem dX4_readOther_8 : decode cX4_readOther 8 = .ok (.putfield 242, 3) := by decide +kernel
theorem dX4_readOther_11 : decode cX4_readOther 11 = .ok (.aload_n 0, 1) := by decide +kernel
theorem dX4_readOther_12 : decode cX4_readOther 12 = .ok (.getfield 194, 3) := by decide +kernel
theorem dX4_readOther_15 : decode cX4_readOther 15 = .ok (.bipush 121, 2) := by decide +kernel
theorem dX4_readOther_17 : decode cX4_readOther 17 = .ok (.if_icmp .eq 12, 3) := by decide +kernel
theorem dX4_readOther_20 : decode cX4_readOther 20 = .ok (.aload_n 0, 1) := by decide +kernel
theorem dX4_readOther_21 : decode cX4_readOther 21 = .ok (.getfield 194, 3) := by decide +kernel
theorem dX4_readOther_24 : decode cX4_readOther 24 = .ok (.bipush 110, 2) := by decide +kernel
theorem dX4_readOther_26 : decode cX4_readOther 26 = .ok (.if_icmp .ne 17, 3) := by decide +kernel
theorem dX4_readOther_29 : decode cX4_readOther 29 = .ok (.aload_n 0, 1) := by decide +kernel
theorem dX4_readOther_30 : decode cX4_readOther 30 = .ok (.aload_n 0, 1) := by decide +kernel
theorem dX4_readOther_31 : decode cX4_readOther 31 = .ok (.bipush 32, 2) := by decide +kernel
theorem dX4_readOther_33 : decode cX4_readOther 33 = .ok (.iconst 2, 1) := by decide +kernel
theorem dX4_readOther_34 : decode cX4_readOther 34 = .ok (.invokevirtual 238, 3) := by decide +kernel
theorem dX4_readOther_37 : decode cX4_readOther 37 = .ok (.putfield 245, 3) := by decide +kernel
theorem dX4_readOther_40 : decode cX4_readOther 40 = .ok (.goto 62, 3) := by decide +kernel
theorem dX4_readOther_43 : decode cX4_readOther 43 = .ok (.aload_n 0, 1) := by decide +kernel
theorem dX4_readOther_44 : decode cX4_readOther 44 = .ok (.getfield 194, 3) := by decide +kernel
theorem dX4_readOther_47 : decode cX4_readOther 47 = .ok (.bipush 115, 2) := by decide +kernel
theorem dX4_readOther_49 : decode cX4_readOther 49 = .ok (.if_icmp .ne 26, 3) := by decide +kernel
theorem dX4_readOther_52 : decode cX4_readOther 52 = .ok (.aload_n 0, 1) := by decide +kernel
theorem dX4_readOther_53 : decode cX4_readOther 53 = .ok (.aload_n 0, 1) := by decide +kernel
theorem dX4_readOther_54 : decode cX4_readOther 54 = .ok (.iconst 1, 1) := by decide +kernel
theorem dX4_readOther_55 : decode cX4_readOther 55 = .ok (.invokevirtual 191, 3) := by decide +kernel
theorem dX4_readOther_58 : decode cX4_readOther 58 = .ok (.putfield 245, 3) := by decide +kernel
theorem dX4_readOther_61 : decode cX4_readOther 61 = .ok (.aload_n 0, 1) := by decide +kernel
theorem dX4_readOther_62 : decode cX4_readOther 62 = .ok (.aload_n 0, 1) := by decide +kernel
theorem dX4_readOther_63 : decode cX4_readOther 63 = .ok (.bipush 32, 2) := by decide +kernel
theorem dX4_readOther_65 : decode cX4_readOther 65 = .ok (.iconst 2, 1) := by decide +kernel
theorem dX4_readOther_66 : decode cX4_readOther 66 = .ok (.invokevirtual 238, 3) := by decide +kernel
theorem dX4_readOther_69 : decode cX4_readOther 69 = .ok (.putfield 248, 3) := by decide +kernel
theorem dX4_readOther_72 : decode cX4_readOther 72 = .ok (.goto 30, 3) := by decide +kernel
theorem dX4_readOther_75 : decode cX4_readOther 75 = .ok (.aload_n 0, 1) := by decide +kernel
theorem dX4_readOther_76 : decode cX4_readOther 76 = .ok (.getfield 194, 3) := by decide +kernel
theorem dX4_readOther_79 : decode cX4_readOther 79 = .ok (.bipush 99, 2) := by decide +kernel
theorem dX4_readOther_81 : decode cX4_readOther 81 = .ok (.if_icmp .eq 21, 3) := by decide +kernel
theorem dX4_readOther_84 : decode cX4_readOther 84 = .ok (.aload_n 0, 1) := by decide +kernel
theorem dX4_readOther_85 : decode cX4_readOther 85 = .ok (.getfield 194, 3) := by decide +kernel
theorem dX4_readOther_88 : decode cX4_readOther 88 = .ok (.bipush 100, 2) := by decide +kernel
theorem dX4_readOther_90 : decode cX4_readOther 90 = .ok (.if_icmp .eq 12, 3) := by decide +kernel
theorem dX4_readOther_93 : decode cX4_readOther 93 = .ok (.aload_n 0, 1) := by decide +kernel
theorem dX4_readOther_94 : decode cX4_readOther 94 = .ok (.aload_n 0, 1) := by decide +kernel
theorem dX4_readOther_95 : decode cX4_readOther 95 = .ok (.iconst 1, 1) := by decide +kernel
theorem dX4_readOther_96 : decode cX4_readOther 96 = .ok (.invokevirtual 191, 3) := by decide +kernel
theorem dX4_readOther_99 : decode cX4_readOther 99 = .ok (.putfield 245, 3) := by decide +kernel
theorem dX4_readOther_102 : decode cX4_readOther 102 = .ok (.return_, 1) := by decide +kernel
theorem dX4_countCommands_0 : decode cX4_countCommands 0 = .ok (.aload_n 0, 1) := by decide +kernel
theorem dX4_countCommands_1 : decode cX4_countCommands 1 = .ok (.iconst 0, 1) := by decide +kernel
theorem dX4_countCommands_2 : decode cX4_countCommands 2 = .ok (.putfield 181, 3) := by decide +kernel
theorem dX4_countCommands_5 : decode cX4_countCommands 5 = .ok (.aload_n 0, 1) := by decide +kernel
theorem dX4_countCommands_6 : decode cX4_countCommands 6 = .ok (.iconst 0, 1) := by decide +kernel
theorem dX4_countCommands_7 : decode cX4_countCommands 7 = .ok (.putfield 178, 3) := by decide +kernel
theorem dX4_countCommands_10 : decode cX4_countCommands 10 = .ok (.iconst 1, 1) := by decide +kernel
theorem dX4_countCommands_11 : decode cX4_countCommands 11 = .ok (.istore_n 1, 1) := by decide +kernel
theorem dX4_countCommands_12 : decode cX4_countCommands 12 = .ok (.aload_n 0, 1) := by decide +kernel
theorem dX4_countCommands_13 : decode cX4_countCommands 13 = .ok (.invokevirtual 254, 3) := by decide +kernel
theorem dX4_countCommands_16 : decode cX4_countCommands 16 = .ok (.aload_n 0, 1) := by decide +kernel
theorem dX4_countCommands_17 : decode cX4_countCommands 17 = .ok (.getfield 178, 3) := by decide +kernel
theorem dX4_countCommands_20 : decode cX4_countCommands 20 = .ok (.ifCond .ne 30, 3) := by decide +kernel
theorem dX4_countCommands_23 : decode cX4_countCommands 23 = .ok (.aload_n 0, 1) := by decide +kernel
theorem dX4_countCommands_24 : decode cX4_countCommands 24 = .ok (.getfield 181, 3) := by decide +kernel
theorem dX4_countCommands_27 : decode cX4_countCommands 27 = .ok (.aload_n 0, 1) := by decide +kernel
theorem dX4_countCommands_28 : decode cX4_countCommands 28 = .ok (.getfield 175, 3) := by decide +kernel
theorem dX4_countCommands_31 : decode cX4_countCommands 31 = .ok (.if_icmp .ge 19, 3) := by decide +kernel
theorem dX4_countCommands_34 : decode cX4_countCommands 34 = .ok (.aload_n 0, 1) := by decide +kernel
theorem dX4_countCommands_35 : decode cX4_countCommands 35 = .ok (.bipush 59, 2) := by decide +kernel
theorem dX4_countCommands_37 : decode cX4_countCommands 37 = .ok (.invokevirtual 188, 3) := by decide +kernel
theorem dX4_countCommands_40 : decode cX4_countCommands 40 = .ok (.aload_n 0, 1) := by decide +kernel
theorem dX4_countCommands_41 : decode cX4_countCommands 41 = .ok (.invokevirtual 254, 3) := by decide +kernel
theorem dX4_countCommands_44 : decode cX4_countCommands 44 = .ok (.iinc 1 1, 3) := by decide +kernel
theorem dX4_countCommands_47 : decode cX4_countCommands 47 = .ok (.goto (-31), 3) := by decide +kernel
theorem dX4_countCommands_50 : decode cX4_countCommands 50 = .ok (.iload_n 1, 1) := by decide +kernel
theorem dX4_countCommands_51 : decode cX4_countCommands 51 = .ok (.ireturn, 1) := by decide +kernel
theorem dX4_runCommand_0 : decode cX4_runCommand 0 = .ok (.aload_n 0, 1) := by decide +kernel
theorem dX4_runCommand_1 : decode cX4_runCommand 1 = .ok (.getfield 194, 3) := by decide +kernel
theorem dX4_runCommand_4 : decode cX4_runCommand 4 = .ok (.tableswitch 288 97 121 #[216, 152, 204, 256, 116, 288, 288, 288, 288, 288, 288, 128, 288, 188, 288, 288, 140, 268, 236, 288, 288, 288, 288, 288, 172], 116) := by decide +kernel
theorem dX4_runCommand_120 : decode cX4_runCommand 120 = .ok (.aload_n 0, 1) := by decide +kernel
theorem dX4_runCommand_121 : decode cX4_runCommand 121 = .ok (.aload_n 0, 1) := by decide +kernel
theorem dX4_runCommand_122 : decode cX4_runCommand 122 = .ok (.getfield 242, 3) := by decide +kernel
theorem dX4_runCommand_125 : decode cX4_runCommand 125 = .ok (.invokevirtual 257, 3) := by decide +kernel
theorem dX4_runCommand_128 : decode cX4_runCommand 128 = .ok (.pop, 1) := by decide +kernel
theorem dX4_runCommand_129 : decode cX4_runCommand 129 = .ok (.goto 176, 3) := by decide +kernel
theorem dX4_runCommand_132 : decode cX4_runCommand 132 = .ok (.aload_n 0, 1) := by decide +kernel
theorem dX4_runCommand_133 : decode cX4_runCommand 133 = .ok (.aload_n 0, 1) := by decide +kernel
theorem dX4_runCommand_134 : decode cX4_runCommand 134 = .ok (.getfield 242, 3) := by decide +kernel
theorem dX4_runCommand_137 : decode cX4_runCommand 137 = .ok (.invokevirtual 259, 3) := by decide +kernel
theorem dX4_runCommand_140 : decode cX4_runCommand 140 = .ok (.pop, 1) := by decide +kernel
theorem dX4_runCommand_141 : decode cX4_runCommand 141 = .ok (.goto 164, 3) := by decide +kernel
theorem dX4_runCommand_144 : decode cX4_runCommand 144 = .ok (.aload_n 0, 1) := by decide +kernel
theorem dX4_runCommand_145 : decode cX4_runCommand 145 = .ok (.aload_n 0, 1) := by decide +kernel
theorem dX4_runCommand_146 : decode cX4_runCommand 146 = .ok (.getfield 242, 3) := by decide +kernel
theorem dX4_runCommand_149 : decode cX4_runCommand 149 = .ok (.invokevirtual 261, 3) := by decide +kernel
theorem dX4_runCommand_152 : decode cX4_runCommand 152 = .ok (.pop, 1) := by decide +kernel
theorem dX4_runCommand_153 : decode cX4_runCommand 153 = .ok (.goto 152, 3) := by decide +kernel
theorem dX4_runCommand_156 : decode cX4_runCommand 156 = .ok (.aload_n 0, 1) := by decide +kernel
theorem dX4_runCommand_157 : decode cX4_runCommand 157 = .ok (.aload_n 0, 1) := by decide +kernel
theorem dX4_runCommand_158 : decode cX4_runCommand 158 = .ok (.getfield 242, 3) := by decide +kernel
theorem dX4_runCommand_161 : decode cX4_runCommand 161 = .ok (.aload_n 0, 1) := by decide +kernel
theorem dX4_runCommand_162 : decode cX4_runCommand 162 = .ok (.getfield 245, 3) := by decide +kernel
theorem dX4_runCommand_165 : decode cX4_runCommand 165 = .ok (.aload_n 0, 1) := by decide +kernel
theorem dX4_runCommand_166 : decode cX4_runCommand 166 = .ok (.getfield 248, 3) := by decide +kernel
theorem dX4_runCommand_169 : decode cX4_runCommand 169 = .ok (.invokevirtual 264, 3) := by decide +kernel
theorem dX4_runCommand_172 : decode cX4_runCommand 172 = .ok (.pop, 1) := by decide +kernel
theorem dX4_runCommand_173 : decode cX4_runCommand 173 = .ok (.goto 132, 3) := by decide +kernel
theorem dX4_runCommand_176 : decode cX4_runCommand 176 = .ok (.aload_n 0, 1) := by decide +kernel
theorem dX4_runCommand_177 : decode cX4_runCommand 177 = .ok (.aload_n 0, 1) := by decide +kernel
theorem dX4_runCommand_178 : decode cX4_runCommand 178 = .ok (.getfield 242, 3) := by decide +kernel
theorem dX4_runCommand_181 : decode cX4_runCommand 181 = .ok (.aload_n 0, 1) := by decide +kernel
theorem dX4_runCommand_182 : decode cX4_runCommand 182 = .ok (.getfield 245, 3) := by decide +kernel
theorem dX4_runCommand_185 : decode cX4_runCommand 185 = .ok (.invokevirtual 268, 3) := by decide +kernel
theorem dX4_runCommand_188 : decode cX4_runCommand 188 = .ok (.pop, 1) := by decide +kernel
theorem dX4_runCommand_189 : decode cX4_runCommand 189 = .ok (.goto 116, 3) := by decide +kernel
theorem dX4_runCommand_192 : decode cX4_runCommand 192 = .ok (.aload_n 0, 1) := by decide +kernel
theorem dX4_runCommand_193 : decode cX4_runCommand 193 = .ok (.aload_n 0, 1) := by decide +kernel
theorem dX4_runCommand_194 : decode cX4_runCommand 194 = .ok (.getfield 242, 3) := by decide +kernel
theorem dX4_runCommand_197 : decode cX4_runCommand 197 = .ok (.aload_n 0, 1) := by decide +kernel
theorem dX4_runCommand_198 : decode cX4_runCommand 198 = .ok (.getfield 245, 3) := by decide +kernel
theorem dX4_runCommand_201 : decode cX4_runCommand 201 = .ok (.invokevirtual 271, 3) := by decide +kernel
theorem dX4_runCommand_204 : decode cX4_runCommand 204 = .ok (.pop, 1) := by decide +kernel
theorem dX4_runCommand_205 : decode cX4_runCommand 205 = .ok (.goto 100, 3) := by decide +kernel
theorem dX4_runCommand_208 : decode cX4_runCommand 208 = .ok (.aload_n 0, 1) := by decide +kernel
theorem dX4_runCommand_209 : decode cX4_runCommand 209 = .ok (.aload_n 0, 1) := by decide +kernel
theorem dX4_runCommand_210 : decode cX4_runCommand 210 = .ok (.getfield 242, 3) := by decide +kernel
theorem dX4_runCommand_213 : decode cX4_runCommand 213 = .ok (.invokevirtual 274, 3) := by decide +kernel
theorem dX4_runCommand_216 : decode cX4_runCommand 216 = .ok (.pop, 1) := by decide +kernel
theorem dX4_runCommand_217 : decode cX4_runCommand 217 = .ok (.goto 88, 3) := by decide +kernel
theorem dX4_runCommand_220 : decode cX4_runCommand 220 = .ok (.aload_n 0, 1) := by decide +kernel
theorem dX4_runCommand_221 : decode cX4_runCommand 221 = .ok (.aload_n 0, 1) := by decide +kernel
theorem dX4_runCommand_222 : decode cX4_runCommand 222 = .ok (.getfield 242, 3) := by decide +kernel
theorem dX4_runCommand_225 : decode cX4_runCommand 225 = .ok (.aload_n 0, 1) := by decide +kernel
theorem dX4_runCommand_226 : decode cX4_runCommand 226 = .ok (.getfield 245, 3) := by decide +kernel
theorem dX4_runCommand_229 : decode cX4_runCommand 229 = .ok (.aload_n 0, 1) := by decide +kernel
theorem dX4_runCommand_230 : decode cX4_runCommand 230 = .ok (.getfield 248, 3) := by decide +kernel
theorem dX4_runCommand_233 : decode cX4_runCommand 233 = .ok (.invokevirtual 277, 3) := by decide +kernel
theorem dX4_runCommand_236 : decode cX4_runCommand 236 = .ok (.pop, 1) := by decide +kernel
theorem dX4_runCommand_237 : decode cX4_runCommand 237 = .ok (.goto 68, 3) := by decide +kernel
theorem dX4_runCommand_240 : decode cX4_runCommand 240 = .ok (.aload_n 0, 1) := by decide +kernel
theorem dX4_runCommand_241 : decode cX4_runCommand 241 = .ok (.aload_n 0, 1) := by decide +kernel
theorem dX4_runCommand_242 : decode cX4_runCommand 242 = .ok (.getfield 242, 3) := by decide +kernel
theorem dX4_runCommand_245 : decode cX4_runCommand 245 = .ok (.aload_n 0, 1) := by decide +kernel
theorem dX4_runCommand_246 : decode cX4_runCommand 246 = .ok (.getfield 245, 3) := by decide +kernel
theorem dX4_runCommand_249 : decode cX4_runCommand 249 = .ok (.aload_n 0, 1) := by decide +kernel
theorem dX4_runCommand_250 : decode cX4_runCommand 250 = .ok (.getfield 248, 3) := by decide +kernel
theorem dX4_runCommand_253 : decode cX4_runCommand 253 = .ok (.invokevirtual 280, 3) := by decide +kernel
theorem dX4_runCommand_256 : decode cX4_runCommand 256 = .ok (.pop, 1) := by decide +kernel
theorem dX4_runCommand_257 : decode cX4_runCommand 257 = .ok (.goto 48, 3) := by decide +kernel
theorem dX4_runCommand_260 : decode cX4_runCommand 260 = .ok (.aload_n 0, 1) := by decide +kernel
theorem dX4_runCommand_261 : decode cX4_runCommand 261 = .ok (.aload_n 0, 1) := by decide +kernel
theorem dX4_runCommand_262 : decode cX4_runCommand 262 = .ok (.getfield 242, 3) := by decide +kernel
theorem dX4_runCommand_265 : decode cX4_runCommand 265 = .ok (.invokevirtual 282, 3) := by decide +kernel
theorem dX4_runCommand_268 : decode cX4_runCommand 268 = .ok (.pop, 1) := by decide +kernel
theorem dX4_runCommand_269 : decode cX4_runCommand 269 = .ok (.goto 36, 3) := by decide +kernel
theorem dX4_runCommand_272 : decode cX4_runCommand 272 = .ok (.aload_n 0, 1) := by decide +kernel
theorem dX4_runCommand_273 : decode cX4_runCommand 273 = .ok (.aload_n 0, 1) := by decide +kernel
theorem dX4_runCommand_274 : decode cX4_runCommand 274 = .ok (.getfield 242, 3) := by decide +kernel
theorem dX4_runCommand_277 : decode cX4_runCommand 277 = .ok (.aload_n 0, 1) := by decide +kernel
theorem dX4_runCommand_278 : decode cX4_runCommand 278 = .ok (.getfield 245, 3) := by decide +kernel
theorem dX4_runCommand_281 : decode cX4_runCommand 281 = .ok (.aload_n 0, 1) := by decide +kernel
theorem dX4_runCommand_282 : decode cX4_runCommand 282 = .ok (.getfield 248, 3) := by decide +kernel
theorem dX4_runCommand_285 : decode cX4_runCommand 285 = .ok (.invokevirtual 284, 3) := by decide +kernel
theorem dX4_runCommand_288 : decode cX4_runCommand 288 = .ok (.pop, 1) := by decide +kernel
theorem dX4_runCommand_289 : decode cX4_runCommand 289 = .ok (.goto 16, 3) := by decide +kernel
theorem dX4_runCommand_292 : decode cX4_runCommand 292 = .ok (.aload_n 0, 1) := by decide +kernel
theorem dX4_runCommand_293 : decode cX4_runCommand 293 = .ok (.aload_n 0, 1) := by decide +kernel
theorem dX4_runCommand_294 : decode cX4_runCommand 294 = .ok (.getfield 242, 3) := by decide +kernel
theorem dX4_runCommand_297 : decode cX4_runCommand 297 = .ok (.aload_n 0, 1) := by decide +kernel
theorem dX4_runCommand_298 : decode cX4_runCommand 298 = .ok (.getfield 245, 3) := by decide +kernel
theorem dX4_runCommand_301 : decode cX4_runCommand 301 = .ok (.invokevirtual 286, 3) := by decide +kernel
theorem dX4_runCommand_304 : decode cX4_runCommand 304 = .ok (.pop, 1) := by decide +kernel
theorem dX4_runCommand_305 : decode cX4_runCommand 305 = .ok (.return_, 1) := by decide +kernel
theorem dX4_run_0 : decode cX4_run 0 = .ok (.aload_n 0, 1) := by decide +kernel
theorem dX4_run_1 : decode cX4_run 1 = .ok (.invokevirtual 289, 3) := by decide +kernel
theorem dX4_run_4 : decode cX4_run 4 = .ok (.istore_n 1, 1) := by decide +kernel
theorem dX4_run_5 : decode cX4_run 5 = .ok (.aload_n 0, 1) := by decide +kernel
theorem dX4_run_6 : decode cX4_run 6 = .ok (.getfield 178, 3) := by decide +kernel
theorem dX4_run_9 : decode cX4_run 9 = .ok (.ifCond .eq 23, 3) := by decide +kernel
theorem dX4_run_12 : decode cX4_run 12 = .ok (.aload_n 0, 1) := by decide +kernel
theorem dX4_run_13 : decode cX4_run 13 = .ok (.aload_n 0, 1) := by decide +kernel
theorem dX4_run_14 : decode cX4_run 14 = .ok (.getfield 181, 3) := by decide +kernel
theorem dX4_run_17 : decode cX4_run 17 = .ok (.putfield 31, 3) := by decide +kernel
theorem dX4_run_20 : decode cX4_run 20 = .ok (.aload_n 0, 1) := by decide +kernel
theorem dX4_run_21 : decode cX4_run 21 = .ok (.iconst 0, 1) := by decide +kernel
theorem dX4_run_22 : decode cX4_run 22 = .ok (.putfield 175, 3) := by decide +kernel
theorem dX4_run_25 : decode cX4_run 25 = .ok (.aload_n 0, 1) := by decide +kernel
theorem dX4_run_26 : decode cX4_run 26 = .ok (.iconst 1, 1) := by decide +kernel
theorem dX4_run_27 : decode cX4_run 27 = .ok (.putfield 38, 3) := by decide +kernel
theorem dX4_run_30 : decode cX4_run 30 = .ok (.iconst 0, 1) := by decide +kernel
theorem dX4_run_31 : decode cX4_run 31 = .ok (.ireturn, 1) := by decide +kernel
theorem dX4_run_32 : decode cX4_run 32 = .ok (.aload_n 0, 1) := by decide +kernel
theorem dX4_run_33 : decode cX4_run 33 = .ok (.getfield 9, 3) := by decide +kernel
theorem dX4_run_36 : decode cX4_run 36 = .ok (.aload_n 0, 1) := by decide +kernel
theorem dX4_run_37 : decode cX4_run 37 = .ok (.getfield 16, 3) := by decide +kernel
theorem dX4_run_40 : decode cX4_run 40 = .ok (.invokestatic 48, 3) := by decide +kernel
theorem dX4_run_43 : decode cX4_run 43 = .ok (.aload_n 0, 1) := by decide +kernel
theorem dX4_run_44 : decode cX4_run 44 = .ok (.iconst 1, 1) := by decide +kernel
theorem dX4_run_45 : decode cX4_run 45 = .ok (.putfield 52, 3) := by decide +kernel
theorem dX4_run_48 : decode cX4_run 48 = .ok (.iconst 1, 1) := by decide +kernel
theorem dX4_run_49 : decode cX4_run 49 = .ok (.istore_n 2, 1) := by decide +kernel
theorem dX4_run_50 : decode cX4_run 50 = .ok (.aload_n 0, 1) := by decide +kernel
theorem dX4_run_51 : decode cX4_run 51 = .ok (.iconst 0, 1) := by decide +kernel
theorem dX4_run_52 : decode cX4_run 52 = .ok (.putfield 181, 3) := by decide +kernel
theorem dX4_run_55 : decode cX4_run 55 = .ok (.iconst 0, 1) := by decide +kernel
theorem dX4_run_56 : decode cX4_run 56 = .ok (.istore_n 3, 1) := by decide +kernel
theorem dX4_run_57 : decode cX4_run 57 = .ok (.iload_n 3, 1) := by decide +kernel
theorem dX4_run_58 : decode cX4_run 58 = .ok (.iload_n 1, 1) := by decide +kernel
theorem dX4_run_59 : decode cX4_run 59 = .ok (.if_icmp .ge 60, 3) := by decide +kernel
theorem dX4_run_62 : decode cX4_run 62 = .ok (.iload_n 2, 1) := by decide +kernel
theorem dX4_run_63 : decode cX4_run 63 = .ok (.ifCond .eq 56, 3) := by decide +kernel
theorem dX4_run_66 : decode cX4_run 66 = .ok (.aload_n 0, 1) := by decide +kernel
theorem dX4_run_67 : decode cX4_run 67 = .ok (.invokevirtual 254, 3) := by decide +kernel
theorem dX4_run_70 : decode cX4_run 70 = .ok (.aload_n 0, 1) := by decide +kernel
theorem dX4_run_71 : decode cX4_run 71 = .ok (.dup, 1) := by decide +kernel
theorem dX4_run_72 : decode cX4_run 72 = .ok (.getfield 181, 3) := by decide +kernel
theorem dX4_run_75 : decode cX4_run 75 = .ok (.iconst 1, 1) := by decide +kernel
theorem dX4_run_76 : decode cX4_run 76 = .ok (.iadd, 1) := by decide +kernel
theorem dX4_run_77 : decode cX4_run 77 = .ok (.putfield 181, 3) := by decide +kernel
theorem dX4_run_80 : decode cX4_run 80 = .ok (.aload_n 0, 1) := by decide +kernel
theorem dX4_run_81 : decode cX4_run 81 = .ok (.invokevirtual 292, 3) := by decide +kernel
theorem dX4_run_84 : decode cX4_run 84 = .ok (.aload_n 0, 1) := by decide +kernel
theorem dX4_run_85 : decode cX4_run 85 = .ok (.getfield 38, 3) := by decide +kernel
theorem dX4_run_88 : decode cX4_run 88 = .ok (.ifCond .ne 7, 3) := by decide +kernel
theorem dX4_run_91 : decode cX4_run 91 = .ok (.iconst 1, 1) := by decide +kernel
theorem dX4_run_92 : decode cX4_run 92 = .ok (.goto 4, 3) := by decide +kernel
theorem dX4_run_95 : decode cX4_run 95 = .ok (.iconst 0, 1) := by decide +kernel
theorem dX4_run_96 : decode cX4_run 96 = .ok (.istore_n 2, 1) := by decide +kernel
theorem dX4_run_97 : decode cX4_run 97 = .ok (.aload_n 0, 1) := by decide +kernel
theorem dX4_run_98 : decode cX4_run 98 = .ok (.iload_n 2, 1) := by decide +kernel
theorem dX4_run_99 : decode cX4_run 99 = .ok (.ifCond .eq 10, 3) := by decide +kernel
theorem dX4_run_102 : decode cX4_run 102 = .ok (.aload_n 0, 1) := by decide +kernel
theorem dX4_run_103 : decode cX4_run 103 = .ok (.getfield 35, 3) := by decide +kernel
theorem dX4_run_106 : decode cX4_run 106 = .ok (.goto 4, 3) := by decide +kernel
theorem dX4_run_109 : decode cX4_run 109 = .ok (.iload_n 3, 1) := by decide +kernel
theorem dX4_run_110 : decode cX4_run 110 = .ok (.putfield 35, 3) := by decide +kernel
theorem dX4_run_113 : decode cX4_run 113 = .ok (.iinc 3 1, 3) := by decide +kernel
theorem dX4_run_116 : decode cX4_run 116 = .ok (.goto (-59), 3) := by decide +kernel
theorem dX4_run_119 : decode cX4_run 119 = .ok (.aload_n 0, 1) := by decide +kernel
theorem dX4_run_120 : decode cX4_run 120 = .ok (.iconst 0, 1) := by decide +kernel
theorem dX4_run_121 : decode cX4_run 121 = .ok (.putfield 52, 3) := by decide +kernel
theorem dX4_run_124 : decode cX4_run 124 = .ok (.aload_n 0, 1) := by decide +kernel
theorem dX4_run_125 : decode cX4_run 125 = .ok (.iconst 0, 1) := by decide +kernel
theorem dX4_run_126 : decode cX4_run 126 = .ok (.putfield 175, 3) := by decide +kernel
theorem dX4_run_129 : decode cX4_run 129 = .ok (.aload_n 0, 1) := by decide +kernel
theorem dX4_run_130 : decode cX4_run 130 = .ok (.iload_n 2, 1) := by decide +kernel
theorem dX4_run_131 : decode cX4_run 131 = .ok (.ifCond .eq 7, 3) := by decide +kernel
theorem dX4_run_134 : decode cX4_run 134 = .ok (.iconst 0, 1) := by decide +kernel
theorem dX4_run_135 : decode cX4_run 135 = .ok (.goto 4, 3) := by decide +kernel
theorem dX4_run_138 : decode cX4_run 138 = .ok (.iconst 2, 1) := by decide +kernel
theorem dX4_run_139 : decode cX4_run 139 = .ok (.putfield 38, 3) := by decide +kernel
theorem dX4_run_142 : decode cX4_run 142 = .ok (.iload_n 2, 1) := by decide +kernel
theorem dX4_run_143 : decode cX4_run 143 = .ok (.ifCond .ne 16, 3) := by decide +kernel
theorem dX4_run_146 : decode cX4_run 146 = .ok (.aload_n 0, 1) := by decide +kernel
theorem dX4_run_147 : decode cX4_run 147 = .ok (.getfield 16, 3) := by decide +kernel
theorem dX4_run_150 : decode cX4_run 150 = .ok (.aload_n 0, 1) := by decide +kernel
theorem dX4_run_151 : decode cX4_run 151 = .ok (.getfield 9, 3) := by decide +kernel
theorem dX4_run_154 : decode cX4_run 154 = .ok (.invokestatic 48, 3) := by decide +kernel
theorem dX4_run_157 : decode cX4_run 157 = .ok (.iconst 0, 1) := by decide +kernel
theorem dX4_run_158 : decode cX4_run 158 = .ok (.ireturn, 1) := by decide +kernel
theorem dX4_run_159 : decode cX4_run 159 = .ok (.aload_n 0, 1) := by decide +kernel
theorem dX4_run_160 : decode cX4_run 160 = .ok (.aload_n 0, 1) := by decide +kernel
theorem dX4_run_161 : decode cX4_run 161 = .ok (.getfield 16, 3) := by decide +kernel
theorem dX4_run_164 : decode cX4_run 164 = .ok (.invokevirtual 56, 3) := by decide +kernel
theorem dX4_run_167 : decode cX4_run 167 = .ok (.iload_n 1, 1) := by decide +kernel
theorem dX4_run_168 : decode cX4_run 168 = .ok (.ireturn, 1) := by decide +kernel
theorem dX4_errorPosition_0 : decode cX4_errorPosition 0 = .ok (.aload_n 0, 1) := by decide +kernel
theorem dX4_errorPosition_1 : decode cX4_errorPosition 1 = .ok (.iconst 1, 1) := by decide +kernel
theorem dX4_errorPosition_2 : decode cX4_errorPosition 2 = .ok (.aload_n 0, 1) := by decide +kernel
theorem dX4_errorPosition_3 : decode cX4_errorPosition 3 = .ok (.getfield 31, 3) := by decide +kernel
theorem dX4_errorPosition_6 : decode cX4_errorPosition 6 = .ok (.ifCond .ge 7, 3) := by decide +kernel
theorem dX4_errorPosition_9 : decode cX4_errorPosition 9 = .ok (.iconst 1, 1) := by decide +kernel
theorem dX4_errorPosition_10 : decode cX4_errorPosition 10 = .ok (.goto 4, 3) := by decide +kernel
theorem dX4_errorPosition_13 : decode cX4_errorPosition 13 = .ok (.iconst 0, 1) := by decide +kernel
theorem dX4_errorPosition_14 : decode cX4_errorPosition 14 = .ok (.invokevirtual 74, 3) := by decide +kernel
theorem dX4_errorPosition_17 : decode cX4_errorPosition 17 = .ok (.ifCond .eq 7, 3) := by decide +kernel
theorem dX4_errorPosition_20 : decode cX4_errorPosition 20 = .ok (.iconst 0, 1) := by decide +kernel
theorem dX4_errorPosition_21 : decode cX4_errorPosition 21 = .ok (.goto 7, 3) := by decide +kernel
theorem dX4_errorPosition_24 : decode cX4_errorPosition 24 = .ok (.aload_n 0, 1) := by decide +kernel
theorem dX4_errorPosition_25 : decode cX4_errorPosition 25 = .ok (.getfield 31, 3) := by decide +kernel
theorem dX4_errorPosition_28 : decode cX4_errorPosition 28 = .ok (.ireturn, 1) := by decide +kernel
theorem dX4_failedCommand_0 : decode cX4_failedCommand 0 = .ok (.aload_n 0, 1) := by decide +kernel
theorem dX4_failedCommand_1 : decode cX4_failedCommand 1 = .ok (.iconst 1, 1) := by decide +kernel
theorem dX4_failedCommand_2 : decode cX4_failedCommand 2 = .ok (.aload_n 0, 1) := by decide +kernel
theorem dX4_failedCommand_3 : decode cX4_failedCommand 3 = .ok (.getfield 35, 3) := by decide +kernel
theorem dX4_failedCommand_6 : decode cX4_failedCommand 6 = .ok (.ifCond .ge 7, 3) := by decide +kernel
theorem dX4_failedCommand_9 : decode cX4_failedCommand 9 = .ok (.iconst 1, 1) := by decide +kernel
theorem dX4_failedCommand_10 : decode cX4_failedCommand 10 = .ok (.goto 4, 3) := by decide +kernel
theorem dX4_failedCommand_13 : decode cX4_failedCommand 13 = .ok (.iconst 0, 1) := by decide +kernel
theorem dX4_failedCommand_14 : decode cX4_failedCommand 14 = .ok (.invokevirtual 74, 3) := by decide +kernel
theorem dX4_failedCommand_17 : decode cX4_failedCommand 17 = .ok (.ifCond .eq 7, 3) := by decide +kernel
theorem dX4_failedCommand_20 : decode cX4_failedCommand 20 = .ok (.iconst 0, 1) := by decide +kernel
theorem dX4_failedCommand_21 : decode cX4_failedCommand 21 = .ok (.goto 7, 3) := by decide +kernel
theorem dX4_failedCommand_24 : decode cX4_failedCommand 24 = .ok (.aload_n 0, 1) := by decide +kernel
theorem dX4_failedCommand_25 : decode cX4_failedCommand 25 = .ok (.getfield 35, 3) := by decide +kernel
theorem dX4_failedCommand_28 : decode cX4_failedCommand 28 = .ok (.ireturn, 1) := by decide +kernel
theorem dX4_undo_0 : decode cX4_undo 0 = .ok (.aload_n 0, 1) := by decide +kernel
theorem dX4_undo_1 : decode cX4_undo 1 = .ok (.iconst 1, 1) := by decide +kernel
theorem dX4_undo_2 : decode cX4_undo 2 = .ok (.aload_n 0, 1) := by decide +kernel
theorem dX4_undo_3 : decode cX4_undo 3 = .ok (.getfield 45, 3) := by decide +kernel
theorem dX4_undo_6 : decode cX4_undo 6 = .ok (.ifCond .ne 7, 3) := by decide +kernel
theorem dX4_undo_9 : decode cX4_undo 9 = .ok (.iconst 1, 1) := by decide +kernel
theorem dX4_undo_10 : decode cX4_undo 10 = .ok (.goto 4, 3) := by decide +kernel
theorem dX4_undo_13 : decode cX4_undo 13 = .ok (.iconst 0, 1) := by decide +kernel
theorem dX4_undo_14 : decode cX4_undo 14 = .ok (.invokevirtual 74, 3) := by decide +kernel
theorem dX4_undo_17 : decode cX4_undo 17 = .ok (.ifCond .eq 5, 3) := by decide +kernel
theorem dX4_undo_20 : decode cX4_undo 20 = .ok (.iconst 0, 1) := by decide +kernel
theorem dX4_undo_21 : decode cX4_undo 21 = .ok (.ireturn, 1) := by decide +kernel
theorem dX4_undo_22 : decode cX4_undo 22 = .ok (.aload_n 0, 1) := by decide +kernel
theorem dX4_undo_23 : decode cX4_undo 23 = .ok (.dup, 1) := by decide +kernel
theorem dX4_undo_24 : decode cX4_undo 24 = .ok (.getfield 45, 3) := by decide +kernel
theorem dX4_undo_27 : decode cX4_undo 27 = .ok (.iconst 1, 1) := by decide +kernel
theorem dX4_undo_28 : decode cX4_undo 28 = .ok (.isub, 1) := by decide +kernel
theorem dX4_undo_29 : decode cX4_undo 29 = .ok (.putfield 45, 3) := by decide +kernel
theorem dX4_undo_32 : decode cX4_undo 32 = .ok (.aload_n 0, 1) := by decide +kernel
theorem dX4_undo_33 : decode cX4_undo 33 = .ok (.getfield 21, 3) := by decide +kernel
theorem dX4_undo_36 : decode cX4_undo 36 = .ok (.aload_n 0, 1) := by decide +kernel
theorem dX4_undo_37 : decode cX4_undo 37 = .ok (.getfield 45, 3) := by decide +kernel
theorem dX4_undo_40 : decode cX4_undo 40 = .ok (.aaload, 1) := by decide +kernel
theorem dX4_undo_41 : decode cX4_undo 41 = .ok (.aload_n 0, 1) := by decide +kernel
theorem dX4_undo_42 : decode cX4_undo 42 = .ok (.getfield 9, 3) := by decide +kernel
theorem dX4_undo_45 : decode cX4_undo 45 = .ok (.invokestatic 48, 3) := by decide +kernel
theorem dX4_undo_48 : decode cX4_undo 48 = .ok (.aload_n 0, 1) := by decide +kernel
theorem dX4_undo_49 : decode cX4_undo 49 = .ok (.getfield 45, 3) := by decide +kernel
theorem dX4_undo_52 : decode cX4_undo 52 = .ok (.ireturn, 1) := by decide +kernel
theorem dX4_save_0 : decode cX4_save 0 = .ok (.aload_n 0, 1) := by decide +kernel
theorem dX4_save_1 : decode cX4_save 1 = .ok (.iconst 0, 1) := by decide +kernel
theorem dX4_save_2 : decode cX4_save 2 = .ok (.putfield 38, 3) := by decide +kernel
theorem dX4_save_5 : decode cX4_save 5 = .ok (.aload_n 0, 1) := by decide +kernel
theorem dX4_save_6 : decode cX4_save 6 = .ok (.iconst 1, 1) := by decide +kernel
theorem dX4_save_7 : decode cX4_save 7 = .ok (.putfield 295, 3) := by decide +kernel
theorem dX4_save_10 : decode cX4_save 10 = .ok (.aload_n 0, 1) := by decide +kernel
theorem dX4_save_11 : decode cX4_save 11 = .ok (.getfield 9, 3) := by decide +kernel
theorem dX4_save_14 : decode cX4_save 14 = .ok (.aload_n 0, 1) := by decide +kernel
theorem dX4_save_15 : decode cX4_save 15 = .ok (.getfield 13, 3) := by decide +kernel
theorem dX4_save_18 : decode cX4_save 18 = .ok (.invokestatic 48, 3) := by decide +kernel
theorem dX4_save_21 : decode cX4_save 21 = .ok (.aload_n 0, 1) := by decide +kernel
theorem dX4_save_22 : decode cX4_save 22 = .ok (.getfield 9, 3) := by decide +kernel
theorem dX4_save_25 : decode cX4_save 25 = .ok (.iconst 1, 1) := by decide +kernel
theorem dX4_save_26 : decode cX4_save 26 = .ok (.iaload, 1) := by decide +kernel
theorem dX4_save_27 : decode cX4_save 27 = .ok (.ireturn, 1) := by decide +kernel
theorem dX4_restore_0 : decode cX4_restore 0 = .ok (.aload_n 0, 1) := by decide +kernel
theorem dX4_restore_1 : decode cX4_restore 1 = .ok (.iconst 1, 1) := by decide +kernel
theorem dX4_restore_2 : decode cX4_restore 2 = .ok (.aload_n 0, 1) := by decide +kernel
theorem dX4_restore_3 : decode cX4_restore 3 = .ok (.getfield 295, 3) := by decide +kernel
theorem dX4_restore_6 : decode cX4_restore 6 = .ok (.ifCond .ne 7, 3) := by decide +kernel
theorem dX4_restore_9 : decode cX4_restore 9 = .ok (.iconst 1, 1) := by decide +kernel
theorem dX4_restore_10 : decode cX4_restore 10 = .ok (.goto 4, 3) := by decide +kernel
theorem dX4_restore_13 : decode cX4_restore 13 = .ok (.iconst 0, 1) := by decide +kernel
theorem dX4_restore_14 : decode cX4_restore 14 = .ok (.invokevirtual 74, 3) := by decide +kernel
theorem dX4_restore_17 : decode cX4_restore 17 = .ok (.ifCond .eq 5, 3) := by decide +kernel
theorem dX4_restore_20 : decode cX4_restore 20 = .ok (.iconst 0, 1) := by decide +kernel
theorem dX4_restore_21 : decode cX4_restore 21 = .ok (.ireturn, 1) := by decide +kernel
theorem dX4_restore_22 : decode cX4_restore 22 = .ok (.aload_n 0, 1) := by decide +kernel
theorem dX4_restore_23 : decode cX4_restore 23 = .ok (.getfield 13, 3) := by decide +kernel
theorem dX4_restore_26 : decode cX4_restore 26 = .ok (.aload_n 0, 1) := by decide +kernel
theorem dX4_restore_27 : decode cX4_restore 27 = .ok (.getfield 9, 3) := by decide +kernel
theorem dX4_restore_30 : decode cX4_restore 30 = .ok (.invokestatic 48, 3) := by decide +kernel
theorem dX4_restore_33 : decode cX4_restore 33 = .ok (.aload_n 0, 1) := by decide +kernel
theorem dX4_restore_34 : decode cX4_restore 34 = .ok (.iconst 0, 1) := by decide +kernel
theorem dX4_restore_35 : decode cX4_restore 35 = .ok (.putfield 45, 3) := by decide +kernel
theorem dX4_restore_38 : decode cX4_restore 38 = .ok (.aload_n 0, 1) := by decide +kernel
theorem dX4_restore_39 : decode cX4_restore 39 = .ok (.getfield 9, 3) := by decide +kernel
theorem dX4_restore_42 : decode cX4_restore 42 = .ok (.iconst 1, 1) := by decide +kernel
theorem dX4_restore_43 : decode cX4_restore 43 = .ok (.iaload, 1) := by decide +kernel
theorem dX4_restore_44 : decode cX4_restore 44 = .ok (.ireturn, 1) := by decide +kernel
