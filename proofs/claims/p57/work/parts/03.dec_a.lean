theorem dX0_init_0 : decode cX0_init 0 = .ok (.aload_n 0, 1) := by decide +kernel
theorem dX0_init_1 : decode cX0_init 1 = .ok (.invokespecial 3, 3) := by decide +kernel
theorem dX0_init_4 : decode cX0_init 4 = .ok (.aload_n 0, 1) := by decide +kernel
theorem dX0_init_5 : decode cX0_init 5 = .ok (.bipush 60, 2) := by decide +kernel
theorem dX0_init_7 : decode cX0_init 7 = .ok (.newarray .char, 2) := by decide +kernel
theorem dX0_init_9 : decode cX0_init 9 = .ok (.putfield 9, 3) := by decide +kernel
theorem dX0_init_12 : decode cX0_init 12 = .ok (.aload_n 0, 1) := by decide +kernel
theorem dX0_init_13 : decode cX0_init 13 = .ok (.iconst 3, 1) := by decide +kernel
theorem dX0_init_14 : decode cX0_init 14 = .ok (.newarray .int, 2) := by decide +kernel
theorem dX0_init_16 : decode cX0_init 16 = .ok (.putfield 15, 3) := by decide +kernel
theorem dX0_init_19 : decode cX0_init 19 = .ok (.return_, 1) := by decide +kernel
theorem dX0_isFull_0 : decode cX0_isFull 0 = .ok (.aload_n 0, 1) := by decide +kernel
theorem dX0_isFull_1 : decode cX0_isFull 1 = .ok (.getfield 19, 3) := by decide +kernel
theorem dX0_isFull_4 : decode cX0_isFull 4 = .ok (.bipush 60, 2) := by decide +kernel
theorem dX0_isFull_6 : decode cX0_isFull 6 = .ok (.if_icmp .lt 7, 3) := by decide +kernel
theorem dX0_isFull_9 : decode cX0_isFull 9 = .ok (.iconst 1, 1) := by decide +kernel
theorem dX0_isFull_10 : decode cX0_isFull 10 = .ok (.goto 4, 3) := by decide +kernel
theorem dX0_isFull_13 : decode cX0_isFull 13 = .ok (.iconst 0, 1) := by decide +kernel
theorem dX0_isFull_14 : decode cX0_isFull 14 = .ok (.ireturn, 1) := by decide +kernel
theorem dX0_put_0 : decode cX0_put 0 = .ok (.aload_n 0, 1) := by decide +kernel
theorem dX0_put_1 : decode cX0_put 1 = .ok (.getfield 9, 3) := by decide +kernel
theorem dX0_put_4 : decode cX0_put 4 = .ok (.aload_n 0, 1) := by decide +kernel
theorem dX0_put_5 : decode cX0_put 5 = .ok (.getfield 19, 3) := by decide +kernel
theorem dX0_put_8 : decode cX0_put 8 = .ok (.iload_n 1, 1) := by decide +kernel
theorem dX0_put_9 : decode cX0_put 9 = .ok (.castore, 1) := by decide +kernel
theorem dX0_put_10 : decode cX0_put 10 = .ok (.aload_n 0, 1) := by decide +kernel
theorem dX0_put_11 : decode cX0_put 11 = .ok (.dup, 1) := by decide +kernel
theorem dX0_put_12 : decode cX0_put 12 = .ok (.getfield 19, 3) := by decide +kernel
theorem dX0_put_15 : decode cX0_put 15 = .ok (.iconst 1, 1) := by decide +kernel
theorem dX0_put_16 : decode cX0_put 16 = .ok (.iadd, 1) := by decide +kernel
theorem dX0_put_17 : decode cX0_put 17 = .ok (.putfield 19, 3) := by decide +kernel
theorem dX0_put_20 : decode cX0_put 20 = .ok (.aload_n 0, 1) := by decide +kernel
theorem dX0_put_21 : decode cX0_put 21 = .ok (.getfield 19, 3) := by decide +kernel
theorem dX0_put_24 : decode cX0_put 24 = .ok (.ireturn, 1) := by decide +kernel
theorem dX0_clear_0 : decode cX0_clear 0 = .ok (.aload_n 0, 1) := by decide +kernel
theorem dX0_clear_1 : decode cX0_clear 1 = .ok (.iconst 0, 1) := by decide +kernel
theorem dX0_clear_2 : decode cX0_clear 2 = .ok (.putfield 19, 3) := by decide +kernel
theorem dX0_clear_5 : decode cX0_clear 5 = .ok (.return_, 1) := by decide +kernel
theorem dX0_rewind_0 : decode cX0_rewind 0 = .ok (.aload_n 0, 1) := by decide +kernel
theorem dX0_rewind_1 : decode cX0_rewind 1 = .ok (.iconst 0, 1) := by decide +kernel
theorem dX0_rewind_2 : decode cX0_rewind 2 = .ok (.putfield 23, 3) := by decide +kernel
theorem dX0_rewind_5 : decode cX0_rewind 5 = .ok (.return_, 1) := by decide +kernel
theorem dX0_countCommands_0 : decode cX0_countCommands 0 = .ok (.aload_n 0, 1) := by decide +kernel
theorem dX0_countCommands_1 : decode cX0_countCommands 1 = .ok (.invokevirtual 26, 3) := by decide +kernel
theorem dX0_countCommands_4 : decode cX0_countCommands 4 = .ok (.iconst 1, 1) := by decide +kernel
theorem dX0_countCommands_5 : decode cX0_countCommands 5 = .ok (.istore_n 1, 1) := by decide +kernel
theorem dX0_countCommands_6 : decode cX0_countCommands 6 = .ok (.iload_n 1, 1) := by decide +kernel
theorem dX0_countCommands_7 : decode cX0_countCommands 7 = .ok (.bipush 60, 2) := by decide +kernel
theorem dX0_countCommands_9 : decode cX0_countCommands 9 = .ok (.if_icmp .gt 42, 3) := by decide +kernel
theorem dX0_countCommands_12 : decode cX0_countCommands 12 = .ok (.aload_n 0, 1) := by decide +kernel
theorem dX0_countCommands_13 : decode cX0_countCommands 13 = .ok (.invokevirtual 29, 3) := by decide +kernel
theorem dX0_countCommands_16 : decode cX0_countCommands 16 = .ok (.ifCond .ne 5, 3) := by decide +kernel
theorem dX0_countCommands_19 : decode cX0_countCommands 19 = .ok (.iconst (-1), 1) := by decide +kernel
theorem dX0_countCommands_20 : decode cX0_countCommands 20 = .ok (.ireturn, 1) := by decide +kernel
theorem dX0_countCommands_21 : decode cX0_countCommands 21 = .ok (.aload_n 0, 1) := by decide +kernel
theorem dX0_countCommands_22 : decode cX0_countCommands 22 = .ok (.getfield 23, 3) := by decide +kernel
theorem dX0_countCommands_25 : decode cX0_countCommands 25 = .ok (.aload_n 0, 1) := by decide +kernel
theorem dX0_countCommands_26 : decode cX0_countCommands 26 = .ok (.getfield 19, 3) := by decide +kernel
theorem dX0_countCommands_29 : decode cX0_countCommands 29 = .ok (.if_icmp .ne 5, 3) := by decide +kernel
theorem dX0_countCommands_32 : decode cX0_countCommands 32 = .ok (.iload_n 1, 1) := by decide +kernel
theorem dX0_countCommands_33 : decode cX0_countCommands 33 = .ok (.ireturn, 1) := by decide +kernel
theorem dX0_countCommands_34 : decode cX0_countCommands 34 = .ok (.aload_n 0, 1) := by decide +kernel
theorem dX0_countCommands_35 : decode cX0_countCommands 35 = .ok (.bipush 59, 2) := by decide +kernel
theorem dX0_countCommands_37 : decode cX0_countCommands 37 = .ok (.invokevirtual 33, 3) := by decide +kernel
theorem dX0_countCommands_40 : decode cX0_countCommands 40 = .ok (.ifCond .ne 5, 3) := by decide +kernel
theorem dX0_countCommands_43 : decode cX0_countCommands 43 = .ok (.iconst (-1), 1) := by decide +kernel
theorem dX0_countCommands_44 : decode cX0_countCommands 44 = .ok (.ireturn, 1) := by decide +kernel
theorem dX0_countCommands_45 : decode cX0_countCommands 45 = .ok (.iinc 1 1, 3) := by decide +kernel
theorem dX0_countCommands_48 : decode cX0_countCommands 48 = .ok (.goto (-42), 3) := by decide +kernel
theorem dX0_countCommands_51 : decode cX0_countCommands 51 = .ok (.iconst (-1), 1) := by decide +kernel
theorem dX0_countCommands_52 : decode cX0_countCommands 52 = .ok (.ireturn, 1) := by decide +kernel
theorem dX0_readCommand_0 : decode cX0_readCommand 0 = .ok (.aload_n 0, 1) := by decide +kernel
theorem dX0_readCommand_1 : decode cX0_readCommand 1 = .ok (.aload_n 0, 1) := by decide +kernel
theorem dX0_readCommand_2 : decode cX0_readCommand 2 = .ok (.invokevirtual 37, 3) := by decide +kernel
theorem dX0_readCommand_5 : decode cX0_readCommand 5 = .ok (.putfield 41, 3) := by decide +kernel
theorem dX0_readCommand_8 : decode cX0_readCommand 8 = .ok (.aload_n 0, 1) := by decide +kernel
theorem dX0_readCommand_9 : decode cX0_readCommand 9 = .ok (.iconst 0, 1) := by decide +kernel
theorem dX0_readCommand_10 : decode cX0_readCommand 10 = .ok (.putfield 45, 3) := by decide +kernel
theorem dX0_readCommand_13 : decode cX0_readCommand 13 = .ok (.aload_n 0, 1) := by decide +kernel
theorem dX0_readCommand_14 : decode cX0_readCommand 14 = .ok (.getfield 41, 3) := by decide +kernel
theorem dX0_readCommand_17 : decode cX0_readCommand 17 = .ok (.invokestatic 48, 3) := by decide +kernel
theorem dX0_readCommand_20 : decode cX0_readCommand 20 = .ok (.astore_n 1, 1) := by decide +kernel
theorem dX0_readCommand_21 : decode cX0_readCommand 21 = .ok (.iconst 0, 1) := by decide +kernel
theorem dX0_readCommand_22 : decode cX0_readCommand 22 = .ok (.istore_n 2, 1) := by decide +kernel
theorem dX0_readCommand_23 : decode cX0_readCommand 23 = .ok (.iload_n 2, 1) := by decide +kernel
theorem dX0_readCommand_24 : decode cX0_readCommand 24 = .ok (.aload_n 1, 1) := by decide +kernel
theorem dX0_readCommand_25 : decode cX0_readCommand 25 = .ok (.invokevirtual 52, 3) := by decide +kernel
theorem dX0_readCommand_28 : decode cX0_readCommand 28 = .ok (.if_icmp .ge 23, 3) := by decide +kernel
theorem dX0_readCommand_31 : decode cX0_readCommand 31 = .ok (.aload_n 0, 1) := by decide +kernel
theorem dX0_readCommand_32 : decode cX0_readCommand 32 = .ok (.aload_n 1, 1) := by decide +kernel
theorem dX0_readCommand_33 : decode cX0_readCommand 33 = .ok (.iload_n 2, 1) := by decide +kernel
theorem dX0_readCommand_34 : decode cX0_readCommand 34 = .ok (.invokevirtual 57, 3) := by decide +kernel
theorem dX0_readCommand_37 : decode cX0_readCommand 37 = .ok (.invokevirtual 61, 3) := by decide +kernel
theorem dX0_readCommand_40 : decode cX0_readCommand 40 = .ok (.ifCond .ne 5, 3) := by decide +kernel
theorem dX0_readCommand_43 : decode cX0_readCommand 43 = .ok (.iconst 0, 1) := by decide +kernel
theorem dX0_readCommand_44 : decode cX0_readCommand 44 = .ok (.ireturn, 1) := by decide +kernel
theorem dX0_readCommand_45 : decode cX0_readCommand 45 = .ok (.iinc 2 1, 3) := by decide +kernel
theorem dX0_readCommand_48 : decode cX0_readCommand 48 = .ok (.goto (-25), 3) := by decide +kernel
theorem dX0_readCommand_51 : decode cX0_readCommand 51 = .ok (.aload_n 1, 1) := by decide +kernel
theorem dX0_readCommand_52 : decode cX0_readCommand 52 = .ok (.invokevirtual 64, 3) := by decide +kernel
theorem dX0_readCommand_55 : decode cX0_readCommand 55 = .ok (.ifCond .ne 7, 3) := by decide +kernel
theorem dX0_readCommand_58 : decode cX0_readCommand 58 = .ok (.iconst 1, 1) := by decide +kernel
theorem dX0_readCommand_59 : decode cX0_readCommand 59 = .ok (.goto 4, 3) := by decide +kernel
theorem dX0_readCommand_62 : decode cX0_readCommand 62 = .ok (.iconst 0, 1) := by decide +kernel
theorem dX0_readCommand_63 : decode cX0_readCommand 63 = .ok (.ireturn, 1) := by decide +kernel
theorem dX0_readSign_0 : decode cX0_readSign 0 = .ok (.aload_n 0, 1) := by decide +kernel
theorem dX0_readSign_1 : decode cX0_readSign 1 = .ok (.invokevirtual 37, 3) := by decide +kernel
theorem dX0_readSign_4 : decode cX0_readSign 4 = .ok (.iload_n 1, 1) := by decide +kernel
theorem dX0_readSign_5 : decode cX0_readSign 5 = .ok (.if_icmp .eq 5, 3) := by decide +kernel
theorem dX0_readSign_8 : decode cX0_readSign 8 = .ok (.iconst 0, 1) := by decide +kernel
theorem dX0_readSign_9 : decode cX0_readSign 9 = .ok (.ireturn, 1) := by decide +kernel
theorem dX0_readSign_10 : decode cX0_readSign 10 = .ok (.aload_n 0, 1) := by decide +kernel
theorem dX0_readSign_11 : decode cX0_readSign 11 = .ok (.dup, 1) := by decide +kernel
theorem dX0_readSign_12 : decode cX0_readSign 12 = .ok (.getfield 23, 3) := by decide +kernel
theorem dX0_readSign_15 : decode cX0_readSign 15 = .ok (.iconst 1, 1) := by decide +kernel
theorem dX0_readSign_16 : decode cX0_readSign 16 = .ok (.iadd, 1) := by decide +kernel
theorem dX0_readSign_17 : decode cX0_readSign 17 = .ok (.putfield 23, 3) := by decide +kernel
theorem dX0_readSign_20 : decode cX0_readSign 20 = .ok (.iconst 1, 1) := by decide +kernel
theorem dX0_readSign_21 : decode cX0_readSign 21 = .ok (.ireturn, 1) := by decide +kernel
theorem dX0_formOf_0 : decode cX0_formOf 0 = .ok (.iload_n 0, 1) := by decide +kernel
theorem dX0_formOf_1 : decode cX0_formOf 1 = .ok (.tableswitch 151 97 121 #[139, 127, 136, 145, 118, 151, 151, 151, 151, 151, 151, 121, 115, 133, 151, 151, 124, 148, 142, 151, 151, 151, 151, 151, 130], 115) := by decide +kernel
theorem dX0_formOf_116 : decode cX0_formOf 116 = .ok (.ldc 67, 2) := by decide +kernel
theorem dX0_formOf_118 : decode cX0_formOf 118 = .ok (.areturn, 1) := by decide +kernel
theorem dX0_formOf_119 : decode cX0_formOf 119 = .ok (.ldc 69, 2) := by decide +kernel
theorem dX0_formOf_121 : decode cX0_formOf 121 = .ok (.areturn, 1) := by decide +kernel
theorem dX0_formOf_122 : decode cX0_formOf 122 = .ok (.ldc 71, 2) := by decide +kernel
theorem dX0_formOf_124 : decode cX0_formOf 124 = .ok (.areturn, 1) := by decide +kernel
theorem dX0_formOf_125 : decode cX0_formOf 125 = .ok (.ldc 73, 2) := by decide +kernel
theorem dX0_formOf_127 : decode cX0_formOf 127 = .ok (.areturn, 1) := by decide +kernel
theorem dX0_formOf_128 : decode cX0_formOf 128 = .ok (.ldc 75, 2) := by decide +kernel
theorem dX0_formOf_130 : decode cX0_formOf 130 = .ok (.areturn, 1) := by decide +kernel
theorem dX0_formOf_131 : decode cX0_formOf 131 = .ok (.ldc 77, 2) := by decide +kernel
theorem dX0_formOf_133 : decode cX0_formOf 133 = .ok (.areturn, 1) := by decide +kernel
theorem dX0_formOf_134 : decode cX0_formOf 134 = .ok (.ldc 79, 2) := by decide +kernel
theorem dX0_formOf_136 : decode cX0_formOf 136 = .ok (.areturn, 1) := by decide +kernel
theorem dX0_formOf_137 : decode cX0_formOf 137 = .ok (.ldc 81, 2) := by decide +kernel
theorem dX0_formOf_139 : decode cX0_formOf 139 = .ok (.areturn, 1) := by decide +kernel
theorem dX0_formOf_140 : decode cX0_formOf 140 = .ok (.ldc 83, 2) := by decide +kernel
theorem dX0_formOf_142 : decode cX0_formOf 142 = .ok (.areturn, 1) := by decide +kernel
theorem dX0_formOf_143 : decode cX0_formOf 143 = .ok (.ldc 85, 2) := by decide +kernel
theorem dX0_formOf_145 : decode cX0_formOf 145 = .ok (.areturn, 1) := by decide +kernel
theorem dX0_formOf_146 : decode cX0_formOf 146 = .ok (.ldc 87, 2) := by decide +kernel
theorem dX0_formOf_148 : decode cX0_formOf 148 = .ok (.areturn, 1) := by decide +kernel
theorem dX0_formOf_149 : decode cX0_formOf 149 = .ok (.ldc 89, 2) := by decide +kernel
theorem dX0_formOf_151 : decode cX0_formOf 151 = .ok (.areturn, 1) := by decide +kernel
theorem dX0_formOf_152 : decode cX0_formOf 152 = .ok (.ldc 91, 2) := by decide +kernel
theorem dX0_formOf_154 : decode cX0_formOf 154 = .ok (.areturn, 1) := by decide +kernel
theorem dX0_readPart_0 : decode cX0_readPart 0 = .ok (.iload_n 1, 1) := by decide +kernel
theorem dX0_readPart_1 : decode cX0_readPart 1 = .ok (.bipush 68, 2) := by decide +kernel
theorem dX0_readPart_3 : decode cX0_readPart 3 = .ok (.if_icmp .eq 15, 3) := by decide +kernel
theorem dX0_readPart_6 : decode cX0_readPart 6 = .ok (.iload_n 1, 1) := by decide +kernel
theorem dX0_readPart_7 : decode cX0_readPart 7 = .ok (.bipush 78, 2) := by decide +kernel
theorem dX0_readPart_9 : decode cX0_readPart 9 = .ok (.if_icmp .eq 9, 3) := by decide +kernel
theorem dX0_readPart_12 : decode cX0_readPart 12 = .ok (.aload_n 0, 1) := by decide +kernel
theorem dX0_readPart_13 : decode cX0_readPart 13 = .ok (.iload_n 1, 1) := by decide +kernel
theorem dX0_readPart_14 : decode cX0_readPart 14 = .ok (.invokevirtual 33, 3) := by decide +kernel
theorem dX0_readPart_17 : decode cX0_readPart 17 = .ok (.ireturn, 1) := by decide +kernel
theorem dX0_readPart_18 : decode cX0_readPart 18 = .ok (.aload_n 0, 1) := by decide +kernel
theorem dX0_readPart_19 : decode cX0_readPart 19 = .ok (.invokevirtual 37, 3) := by decide +kernel
theorem dX0_readPart_22 : decode cX0_readPart 22 = .ok (.invokestatic 93, 3) := by decide +kernel
theorem dX0_readPart_25 : decode cX0_readPart 25 = .ok (.ifCond .ne 5, 3) := by decide +kernel
theorem dX0_readPart_28 : decode cX0_readPart 28 = .ok (.iconst 0, 1) := by decide +kernel
theorem dX0_readPart_29 : decode cX0_readPart 29 = .ok (.ireturn, 1) := by decide +kernel
theorem dX0_readPart_30 : decode cX0_readPart 30 = .ok (.aload_n 0, 1) := by decide +kernel
theorem dX0_readPart_31 : decode cX0_readPart 31 = .ok (.invokevirtual 96, 3) := by decide +kernel
theorem dX0_readPart_34 : decode cX0_readPart 34 = .ok (.istore_n 2, 1) := by decide +kernel
theorem dX0_readPart_35 : decode cX0_readPart 35 = .ok (.iload_n 1, 1) := by decide +kernel
theorem dX0_readPart_36 : decode cX0_readPart 36 = .ok (.bipush 78, 2) := by decide +kernel
theorem dX0_readPart_38 : decode cX0_readPart 38 = .ok (.if_icmp .ne 23, 3) := by decide +kernel
theorem dX0_readPart_41 : decode cX0_readPart 41 = .ok (.aload_n 0, 1) := by decide +kernel
theorem dX0_readPart_42 : decode cX0_readPart 42 = .ok (.invokevirtual 37, 3) := by decide +kernel
theorem dX0_readPart_45 : decode cX0_readPart 45 = .ok (.invokestatic 93, 3) := by decide +kernel
theorem dX0_readPart_48 : decode cX0_readPart 48 = .ok (.ifCond .eq 13, 3) := by decide +kernel
theorem dX0_readPart_51 : decode cX0_readPart 51 = .ok (.iload_n 2, 1) := by decide +kernel
theorem dX0_readPart_52 : decode cX0_readPart 52 = .ok (.bipush 10, 2) := by decide +kernel
theorem dX0_readPart_54 : decode cX0_readPart 54 = .ok (.imul, 1) := by decide +kernel
theorem dX0_readPart_55 : decode cX0_readPart 55 = .ok (.aload_n 0, 1) := by decide +kernel
theorem dX0_readPart_56 : decode cX0_readPart 56 = .ok (.invokevirtual 96, 3) := by decide +kernel
theorem dX0_readPart_59 : decode cX0_readPart 59 = .ok (.iadd, 1) := by decide +kernel
theorem dX0_readPart_60 : decode cX0_readPart 60 = .ok (.istore_n 2, 1) := by decide +kernel
theorem dX0_readPart_61 : decode cX0_readPart 61 = .ok (.aload_n 0, 1) := by decide +kernel
theorem dX0_readPart_62 : decode cX0_readPart 62 = .ok (.getfield 45, 3) := by decide +kernel
theorem dX0_readPart_65 : decode cX0_readPart 65 = .ok (.aload_n 0, 1) := by decide +kernel
theorem dX0_readPart_66 : decode cX0_readPart 66 = .ok (.getfield 15, 3) := by decide +kernel
theorem dX0_readPart_69 : decode cX0_readPart 69 = .ok (.arraylength, 1) := by decide +kernel
theorem dX0_readPart_70 : decode cX0_readPart 70 = .ok (.if_icmp .ge 23, 3) := by decide +kernel
theorem dX0_readPart_73 : decode cX0_readPart 73 = .ok (.aload_n 0, 1) := by decide +kernel
theorem dX0_readPart_74 : decode cX0_readPart 74 = .ok (.getfield 15, 3) := by decide +kernel
theorem dX0_readPart_77 : decode cX0_readPart 77 = .ok (.aload_n 0, 1) := by decide +kernel
theorem dX0_readPart_78 : decode cX0_readPart 78 = .ok (.getfield 45, 3) := by decide +kernel
theorem dX0_readPart_81 : decode cX0_readPart 81 = .ok (.iload_n 2, 1) := by decide +kernel
theorem dX0_readPart_82 : decode cX0_readPart 82 = .ok (.iastore, 1) := by decide +kernel
theorem dX0_readPart_83 : decode cX0_readPart 83 = .ok (.aload_n 0, 1) := by decide +kernel
theorem dX0_readPart_84 : decode cX0_readPart 84 = .ok (.dup, 1) := by decide +kernel
theorem dX0_readPart_85 : decode cX0_readPart 85 = .ok (.getfield 45, 3) := by decide +kernel
theorem dX0_readPart_88 : decode cX0_readPart 88 = .ok (.iconst 1, 1) := by decide +kernel
theorem dX0_readPart_89 : decode cX0_readPart 89 = .ok (.iadd, 1) := by decide +kernel
theorem dX0_readPart_90 : decode cX0_readPart 90 = .ok (.putfield 45, 3) := by decide +kernel
theorem dX0_readPart_93 : decode cX0_readPart 93 = .ok (.iconst 1, 1) := by decide +kernel
theorem dX0_readPart_94 : decode cX0_readPart 94 = .ok (.ireturn, 1) := by decide +kernel
theorem dX0_readDigit_0 : decode cX0_readDigit 0 = .ok (.aload_n 0, 1) := by decide +kernel
theorem dX0_readDigit_1 : decode cX0_readDigit 1 = .ok (.invokevirtual 37, 3) := by decide +kernel
theorem dX0_readDigit_4 : decode cX0_readDigit 4 = .ok (.bipush 48, 2) := by decide +kernel
theorem dX0_readDigit_6 : decode cX0_readDigit 6 = .ok (.isub, 1) := by decide +kernel
theorem dX0_readDigit_7 : decode cX0_readDigit 7 = .ok (.istore_n 1, 1) := by decide +kernel
theorem dX0_readDigit_8 : decode cX0_readDigit 8 = .ok (.aload_n 0, 1) := by decide +kernel
theorem dX0_readDigit_9 : decode cX0_readDigit 9 = .ok (.dup, 1) := by decide +kernel
theorem dX0_readDigit_10 : decode cX0_readDigit 10 = .ok (.getfield 23, 3) := by decide +kernel
theorem dX0_readDigit_13 : decode cX0_readDigit 13 = .ok (.iconst 1, 1) := by decide +kernel
theorem dX0_readDigit_14 : decode cX0_readDigit 14 = .ok (.iadd, 1) := by decide +kernel
theorem dX0_readDigit_15 : decode cX0_readDigit 15 = .ok (.putfield 23, 3) := by decide +kernel
theorem dX0_readDigit_18 : decode cX0_readDigit 18 = .ok (.iload_n 1, 1) := by decide +kernel
theorem dX0_readDigit_19 : decode cX0_readDigit 19 = .ok (.ireturn, 1) := by decide +kernel
theorem dX0_nextSign_0 : decode cX0_nextSign 0 = .ok (.aload_n 0, 1) := by decide +kernel
theorem dX0_nextSign_1 : decode cX0_nextSign 1 = .ok (.getfield 23, 3) := by decide +kernel
theorem dX0_nextSign_4 : decode cX0_nextSign 4 = .ok (.aload_n 0, 1) := by decide +kernel
theorem dX0_nextSign_5 : decode cX0_nextSign 5 = .ok (.getfield 19, 3) := by decide +kernel
theorem dX0_nextSign_8 : decode cX0_nextSign 8 = .ok (.if_icmp .ge 15, 3) := by decide +kernel
theorem dX0_nextSign_11 : decode cX0_nextSign 11 = .ok (.aload_n 0, 1) := by decide +kernel
theorem dX0_nextSign_12 : decode cX0_nextSign 12 = .ok (.getfield 9, 3) := by decide +kernel
theorem dX0_nextSign_15 : decode cX0_nextSign 15 = .ok (.aload_n 0, 1) := by decide +kernel
theorem dX0_nextSign_16 : decode cX0_nextSign 16 = .ok (.getfield 23, 3) := by decide +kernel
theorem dX0_nextSign_19 : decode cX0_nextSign 19 = .ok (.caload, 1) := by decide +kernel
theorem dX0_nextSign_20 : decode cX0_nextSign 20 = .ok (.goto 4, 3) := by decide +kernel
theorem dX0_nextSign_23 : decode cX0_nextSign 23 = .ok (.iconst 0, 1) := by decide +kernel
theorem dX0_nextSign_24 : decode cX0_nextSign 24 = .ok (.ireturn, 1) := by decide +kernel
theorem dX0_isDigit_0 : decode cX0_isDigit 0 = .ok (.iload_n 0, 1) := by decide +kernel
theorem dX0_isDigit_1 : decode cX0_isDigit 1 = .ok (.bipush 48, 2) := by decide +kernel
theorem dX0_isDigit_3 : decode cX0_isDigit 3 = .ok (.if_icmp .lt 13, 3) := by decide +kernel
theorem dX0_isDigit_6 : decode cX0_isDigit 6 = .ok (.iload_n 0, 1) := by decide +kernel
theorem dX0_isDigit_7 : decode cX0_isDigit 7 = .ok (.bipush 57, 2) := by decide +kernel
theorem dX0_isDigit_9 : decode cX0_isDigit 9 = .ok (.if_icmp .gt 7, 3) := by decide +kernel
theorem dX0_isDigit_12 : decode cX0_isDigit 12 = .ok (.iconst 1, 1) := by decide +kernel
theorem dX0_isDigit_13 : decode cX0_isDigit 13 = .ok (.goto 4, 3) := by decide +kernel
theorem dX0_isDigit_16 : decode cX0_isDigit 16 = .ok (.iconst 0, 1) := by decide +kernel
theorem dX0_isDigit_17 : decode cX0_isDigit 17 = .ok (.ireturn, 1) := by decide +kernel
theorem dX1_init_0 : decode cX1_init 0 = .ok (.aload_n 0, 1) := by decide +kernel
theorem dX1_init_1 : decode cX1_init 1 = .ok (.invokespecial 3, 3) := by decide +kernel
theorem dX1_init_4 : decode cX1_init 4 = .ok (.aload_n 0, 1) := by decide +kernel
theorem dX1_init_5 : decode cX1_init 5 = .ok (.bipush 24, 2) := by decide +kernel
theorem dX1_init_7 : decode cX1_init 7 = .ok (.newarray .int, 2) := by decide +kernel
theorem dX1_init_9 : decode cX1_init 9 = .ok (.putfield 9, 3) := by decide +kernel
theorem dX1_init_12 : decode cX1_init 12 = .ok (.aload_n 0, 1) := by decide +kernel
theorem dX1_init_13 : decode cX1_init 13 = .ok (.bipush 24, 2) := by decide +kernel
theorem dX1_init_15 : decode cX1_init 15 = .ok (.newarray .int, 2) := by decide +kernel
theorem dX1_init_17 : decode cX1_init 17 = .ok (.putfield 15, 3) := by decide +kernel
theorem dX1_init_20 : decode cX1_init 20 = .ok (.aload_n 0, 1) := by decide +kernel
theorem dX1_init_21 : decode cX1_init 21 = .ok (.iconst 3, 1) := by decide +kernel
theorem dX1_init_22 : decode cX1_init 22 = .ok (.putfield 18, 3) := by decide +kernel
theorem dX1_init_25 : decode cX1_init 25 = .ok (.aload_n 0, 1) := by decide +kernel
theorem dX1_init_26 : decode cX1_init 26 = .ok (.bipush 8, 2) := by decide +kernel
theorem dX1_init_28 : decode cX1_init 28 = .ok (.newarray .int, 2) := by decide +kernel
theorem dX1_init_30 : decode cX1_init 30 = .ok (.putfield 22, 3) := by decide +kernel
theorem dX1_init_33 : decode cX1_init 33 = .ok (.aload_n 0, 1) := by decide +kernel
theorem dX1_init_34 : decode cX1_init 34 = .ok (.bipush 8, 2) := by decide +kernel
theorem dX1_init_36 : decode cX1_init 36 = .ok (.newarray .int, 2) := by decide +kernel
theorem dX1_init_38 : decode cX1_init 38 = .ok (.putfield 25, 3) := by decide +kernel
theorem dX1_init_41 : decode cX1_init 41 = .ok (.aload_n 0, 1) := by decide +kernel
theorem dX1_init_42 : decode cX1_init 42 = .ok (.bipush 8, 2) := by decide +kernel
theorem dX1_init_44 : decode cX1_init 44 = .ok (.newarray .long, 2) := by decide +kernel
theorem dX1_init_46 : decode cX1_init 46 = .ok (.putfield 28, 3) := by decide +kernel
theorem dX1_init_49 : decode cX1_init 49 = .ok (.aload_n 0, 1) := by decide +kernel
theorem dX1_init_50 : decode cX1_init 50 = .ok (.bipush 8, 2) := by decide +kernel
theorem dX1_init_52 : decode cX1_init 52 = .ok (.newarray .int, 2) := by decide +kernel
theorem dX1_init_54 : decode cX1_init 54 = .ok (.putfield 32, 3) := by decide +kernel
theorem dX1_init_57 : decode cX1_init 57 = .ok (.aload_n 0, 1) := by decide +kernel
theorem dX1_init_58 : decode cX1_init 58 = .ok (.bipush 8, 2) := by decide +kernel
theorem dX1_init_60 : decode cX1_init 60 = .ok (.newarray .int, 2) := by decide +kernel
theorem dX1_init_62 : decode cX1_init 62 = .ok (.putfield 35, 3) := by decide +kernel
theorem dX1_init_65 : decode cX1_init 65 = .ok (.aload_n 0, 1) := by decide +kernel
theorem dX1_init_66 : decode cX1_init 66 = .ok (.bipush 8, 2) := by decide +kernel
theorem dX1_init_68 : decode cX1_init 68 = .ok (.newarray .int, 2) := by decide +kernel
theorem dX1_init_70 : decode cX1_init 70 = .ok (.putfield 38, 3) := by decide +kernel
theorem dX1_init_73 : decode cX1_init 73 = .ok (.aload_n 0, 1) := by decide +kernel
theorem dX1_init_74 : decode cX1_init 74 = .ok (.bipush 8, 2) := by decide +kernel
theorem dX1_init_76 : decode cX1_init 76 = .ok (.newarray .int, 2) := by decide +kernel
theorem dX1_init_78 : decode cX1_init 78 = .ok (.putfield 41, 3) := by decide +kernel
theorem dX1_init_81 : decode cX1_init 81 = .ok (.aload_n 0, 1) := by decide +kernel
theorem dX1_init_82 : decode cX1_init 82 = .ok (.bipush 8, 2) := by decide +kernel
theorem dX1_init_84 : decode cX1_init 84 = .ok (.iconst 4, 1) := by decide +kernel
theorem dX1_init_85 : decode cX1_init 85 = .ok (.multianewarray 44 2, 4) := by decide +kernel
theorem dX1_init_89 : decode cX1_init 89 = .ok (.putfield 46, 3) := by decide +kernel
theorem dX1_init_92 : decode cX1_init 92 = .ok (.aload_n 0, 1) := by decide +kernel
theorem dX1_init_93 : decode cX1_init 93 = .ok (.bipush 8, 2) := by decide +kernel
theorem dX1_init_95 : decode cX1_init 95 = .ok (.iconst 4, 1) := by decide +kernel
theorem dX1_init_96 : decode cX1_init 96 = .ok (.multianewarray 44 2, 4) := by decide +kernel
theorem dX1_init_100 : decode cX1_init 100 = .ok (.putfield 49, 3) := by decide +kernel
theorem dX1_init_103 : decode cX1_init 103 = .ok (.return_, 1) := by decide +kernel
theorem dX1_copyFrom_0 : decode cX1_copyFrom 0 = .ok (.aload_n 0, 1) := by decide +kernel
theorem dX1_copyFrom_1 : decode cX1_copyFrom 1 = .ok (.aload_n 1, 1) := by decide +kernel
theorem dX1_copyFrom_2 : decode cX1_copyFrom 2 = .ok (.getfield 52, 3) := by decide +kernel
theorem dX1_copyFrom_5 : decode cX1_copyFrom 5 = .ok (.putfield 52, 3) := by decide +kernel
theorem dX1_copyFrom_8 : decode cX1_copyFrom 8 = .ok (.aload_n 1, 1) := by decide +kernel
theorem dX1_copyFrom_9 : decode cX1_copyFrom 9 = .ok (.getfield 9, 3) := by decide +kernel
theorem dX1_copyFrom_12 : decode cX1_copyFrom 12 = .ok (.iconst 0, 1) := by decide +kernel
theorem dX1_copyFrom_13 : decode cX1_copyFrom 13 = .ok (.aload_n 0, 1) := by decide +kernel
theorem dX1_copyFrom_14 : decode cX1_copyFrom 14 = .ok (.getfield 9, 3) := by decide +kernel
theorem dX1_copyFrom_17 : decode cX1_copyFrom 17 = .ok (.iconst 0, 1) := by decide +kernel
theorem dX1_copyFrom_18 : decode cX1_copyFrom 18 = .ok (.bipush 24, 2) := by decide +kernel
theorem dX1_copyFrom_20 : decode cX1_copyFrom 20 = .ok (.invokestatic 55, 3) := by decide +kernel
theorem dX1_copyFrom_23 : decode cX1_copyFrom 23 = .ok (.aload_n 1, 1) := by decide +kernel
theorem dX1_copyFrom_24 : decode cX1_copyFrom 24 = .ok (.getfield 15, 3) := by decide +kernel
theorem dX1_copyFrom_27 : decode cX1_copyFrom 27 = .ok (.iconst 0, 1) := by decide +kernel
theorem dX1_copyFrom_28 : decode cX1_copyFrom 28 = .ok (.aload_n 0, 1) := by decide +kernel
theorem dX1_copyFrom_29 : decode cX1_copyFrom 29 = .ok (.getfield 15, 3) := by decide +kernel
theorem dX1_copyFrom_32 : decode cX1_copyFrom 32 = .ok (.iconst 0, 1) := by decide +kernel
theorem dX1_copyFrom_33 : decode cX1_copyFrom 33 = .ok (.bipush 24, 2) := by decide +kernel
theorem dX1_copyFrom_35 : decode cX1_copyFrom 35 = .ok (.invokestatic 55, 3) := by decide +kernel
theorem dX1_copyFrom_38 : decode cX1_copyFrom 38 = .ok (.aload_n 0, 1) := by decide +kernel
theorem dX1_copyFrom_39 : decode cX1_copyFrom 39 = .ok (.aload_n 1, 1) := by decide +kernel
theorem dX1_copyFrom_40 : decode cX1_copyFrom 40 = .ok (.getfield 61, 3) := by decide +kernel
theorem dX1_copyFrom_43 : decode cX1_copyFrom 43 = .ok (.putfield 61, 3) := by decide +kernel
theorem dX1_copyFrom_46 : decode cX1_copyFrom 46 = .ok (.aload_n 0, 1) := by decide +kernel
theorem dX1_copyFrom_47 : decode cX1_copyFrom 47 = .ok (.aload_n 1, 1) := by decide +kernel
theorem dX1_copyFrom_48 : decode cX1_copyFrom 48 = .ok (.getfield 18, 3) := by decide +kernel
theorem dX1_copyFrom_51 : decode cX1_copyFrom 51 = .ok (.putfield 18, 3) := by decide +kernel
theorem dX1_copyFrom_54 : decode cX1_copyFrom 54 = .ok (.aload_n 0, 1) := by decide +kernel
theorem dX1_copyFrom_55 : decode cX1_copyFrom 55 = .ok (.aload_n 1, 1) := by decide +kernel
theorem dX1_copyFrom_56 : decode cX1_copyFrom 56 = .ok (.getfield 64, 3) := by decide +kernel
theorem dX1_copyFrom_59 : decode cX1_copyFrom 59 = .ok (.putfield 64, 3) := by decide +kernel
theorem dX1_copyFrom_62 : decode cX1_copyFrom 62 = .ok (.aload_n 1, 1) := by decide +kernel
theorem dX1_copyFrom_63 : decode cX1_copyFrom 63 = .ok (.getfield 22, 3) := by decide +kernel
theorem dX1_copyFrom_66 : decode cX1_copyFrom 66 = .ok (.iconst 0, 1) := by decide +kernel
theorem dX1_copyFrom_67 : decode cX1_copyFrom 67 = .ok (.aload_n 0, 1) := by decide +kernel
theorem dX1_copyFrom_68 : decode cX1_copyFrom 68 = .ok (.getfield 22, 3) := by decide +kernel
theorem dX1_copyFrom_71 : decode cX1_copyFrom 71 = .ok (.iconst 0, 1) := by decide +kernel
theorem dX1_copyFrom_72 : decode cX1_copyFrom 72 = .ok (.bipush 8, 2) := by decide +kernel
theorem dX1_copyFrom_74 : decode cX1_copyFrom 74 = .ok (.invokestatic 55, 3) := by decide +kernel
theorem dX1_copyFrom_77 : decode cX1_copyFrom 77 = .ok (.aload_n 1, 1) := by decide +kernel
theorem dX1_copyFrom_78 : decode cX1_copyFrom 78 = .ok (.getfield 25, 3) := by decide +kernel
theorem dX1_copyFrom_81 : decode cX1_copyFrom 81 = .ok (.iconst 0, 1) := by decide +kernel
theorem dX1_copyFrom_82 : decode cX1_copyFrom 82 = .ok (.aload_n 0, 1) := by decide +kernel
theorem dX1_copyFrom_83 : decode cX1_copyFrom 83 = .ok (.getfield 25, 3) := by decide +kernel
theorem dX1_copyFrom_86 : decode cX1_copyFrom 86 = .ok (.iconst 0, 1) := by decide +kernel
theorem dX1_copyFrom_87 : decode cX1_copyFrom 87 = .ok (.bipush 8, 2) := by decide +kernel
theorem dX1_copyFrom_89 : decode cX1_copyFrom 89 = .ok (.invokestatic 55, 3) := by decide +kernel
theorem dX1_copyFrom_92 : decode cX1_copyFrom 92 = .ok (.aload_n 1, 1) := by decide +kernel
theorem dX1_copyFrom_93 : decode cX1_copyFrom 93 = .ok (.getfield 28, 3) := by decide +kernel
theorem dX1_copyFrom_96 : decode cX1_copyFrom 96 = .ok (.iconst 0, 1) := by decide +kernel
theorem dX1_copyFrom_97 : decode cX1_copyFrom 97 = .ok (.aload_n 0, 1) := by decide +kernel
theorem dX1_copyFrom_98 : decode cX1_copyFrom 98 = .ok (.getfield 28, 3) := by decide +kernel
theorem dX1_copyFrom_101 : decode cX1_copyFrom 101 = .ok (.iconst 0, 1) := by decide +kernel
theorem dX1_copyFrom_102 : decode cX1_copyFrom 102 = .ok (.bipush 8, 2) := by decide +kernel
theorem dX1_copyFrom_104 : decode cX1_copyFrom 104 = .ok (.invokestatic 55, 3) := by decide +kernel
theorem dX1_copyFrom_107 : decode cX1_copyFrom 107 = .ok (.aload_n 1, 1) := by decide +kernel
theorem dX1_copyFrom_108 : decode cX1_copyFrom 108 = .ok (.getfield 32, 3) := by decide +kernel
theorem dX1_copyFrom_111 : decode cX1_copyFrom 111 = .ok (.iconst 0, 1) := by decide +kernel
theorem dX1_copyFrom_112 : decode cX1_copyFrom 112 = .ok (.aload_n 0, 1) := by decide +kernel
theorem dX1_copyFrom_113 : decode cX1_copyFrom 113 = .ok (.getfield 32, 3) := by decide +kernel
theorem dX1_copyFrom_116 : decode cX1_copyFrom 116 = .ok (.iconst 0, 1) := by decide +kernel
theorem dX1_copyFrom_117 : decode cX1_copyFrom 117 = .ok (.bipush 8, 2) := by decide +kernel
theorem dX1_copyFrom_119 : decode cX1_copyFrom 119 = .ok (.invokestatic 55, 3) := by decide +kernel
theorem dX1_copyFrom_122 : decode cX1_copyFrom 122 = .ok (.aload_n 1, 1) := by decide +kernel
theorem dX1_copyFrom_123 : decode cX1_copyFrom 123 = .ok (.getfield 35, 3) := by decide +kernel
theorem dX1_copyFrom_126 : decode cX1_copyFrom 126 = .ok (.iconst 0, 1) := by decide +kernel
theorem dX1_copyFrom_127 : decode cX1_copyFrom 127 = .ok (.aload_n 0, 1) := by decide +kernel
theorem dX1_copyFrom_128 : decode cX1_copyFrom 128 = .ok (.getfield 35, 3) := by decide +kernel
theorem dX1_copyFrom_131 : decode cX1_copyFrom 131 = .ok (.iconst 0, 1) := by decide +kernel
theorem dX1_copyFrom_132 : decode cX1_copyFrom 132 = .ok (.bipush 8, 2) := by decide +kernel
theorem dX1_copyFrom_134 : decode cX1_copyFrom 134 = .ok (.invokestatic 55, 3) := by decide +kernel
theorem dX1_copyFrom_137 : decode cX1_copyFrom 137 = .ok (.aload_n 1, 1) := by decide +kernel
theorem dX1_copyFrom_138 : decode cX1_copyFrom 138 = .ok (.getfield 38, 3) := by decide +kernel
theorem dX1_copyFrom_141 : decode cX1_copyFrom 141 = .ok (.iconst 0, 1) := by decide +kernel
theorem dX1_copyFrom_142 : decode cX1_copyFrom 142 = .ok (.aload_n 0, 1) := by decide +kernel
theorem dX1_copyFrom_143 : decode cX1_copyFrom 143 = .ok (.getfield 38, 3) := by decide +kernel
theorem dX1_copyFrom_146 : decode cX1_copyFrom 146 = .ok (.iconst 0, 1) := by decide +kernel
theorem dX1_copyFrom_147 : decode cX1_copyFrom 147 = .ok (.bipush 8, 2) := by decide +kernel
theorem dX1_copyFrom_149 : decode cX1_copyFrom 149 = .ok (.invokestatic 55, 3) := by decide +kernel
theorem dX1_copyFrom_152 : decode cX1_copyFrom 152 = .ok (.aload_n 1, 1) := by decide +kernel
theorem dX1_copyFrom_153 : decode cX1_copyFrom 153 = .ok (.getfield 41, 3) := by decide +kernel
theorem dX1_copyFrom_156 : decode cX1_copyFrom 156 = .ok (.iconst 0, 1) := by decide +kernel
theorem dX1_copyFrom_157 : decode cX1_copyFrom 157 = .ok (.aload_n 0, 1) := by decide +kernel
theorem dX1_copyFrom_158 : decode cX1_copyFrom 158 = .ok (.getfield 41, 3) := by decide +kernel
theorem dX1_copyFrom_161 : decode cX1_copyFrom 161 = .ok (.iconst 0, 1) := by decide +kernel
theorem dX1_copyFrom_162 : decode cX1_copyFrom 162 = .ok (.bipush 8, 2) := by decide +kernel
theorem dX1_copyFrom_164 : decode cX1_copyFrom 164 = .ok (.invokestatic 55, 3) := by decide +kernel
theorem dX1_copyFrom_167 : decode cX1_copyFrom 167 = .ok (.iconst 0, 1) := by decide +kernel
theorem dX1_copyFrom_168 : decode cX1_copyFrom 168 = .ok (.istore_n 2, 1) := by decide +kernel
theorem dX1_copyFrom_169 : decode cX1_copyFrom 169 = .ok (.iload_n 2, 1) := by decide +kernel
theorem dX1_copyFrom_170 : decode cX1_copyFrom 170 = .ok (.bipush 8, 2) := by decide +kernel
theorem dX1_copyFrom_172 : decode cX1_copyFrom 172 = .ok (.if_icmp .ge 45, 3) := by decide +kernel
theorem dX1_copyFrom_175 : decode cX1_copyFrom 175 = .ok (.aload_n 1, 1) := by decide +kernel
theorem dX1_copyFrom_176 : decode cX1_copyFrom 176 = .ok (.getfield 46, 3) := by decide +kernel
theorem dX1_copyFrom_179 : decode cX1_copyFrom 179 = .ok (.iload_n 2, 1) := by decide +kernel
theorem dX1_copyFrom_180 : decode cX1_copyFrom 180 = .ok (.aaload, 1) := by decide +kernel
theorem dX1_copyFrom_181 : decode cX1_copyFrom 181 = .ok (.iconst 0, 1) := by decide +kernel
theorem dX1_copyFrom_182 : decode cX1_copyFrom 182 = .ok (.aload_n 0, 1) := by decide +kernel
theorem dX1_copyFrom_183 : decode cX1_copyFrom 183 = .ok (.getfield 46, 3) := by decide +kernel
theorem dX1_copyFrom_186 : decode cX1_copyFrom 186 = .ok (.iload_n 2, 1) := by decide +kernel
theorem dX1_copyFrom_187 : decode cX1_copyFrom 187 = .ok (.aaload, 1) := by decide +kernel
theorem dX1_copyFrom_188 : decode cX1_copyFrom 188 = .ok (.iconst 0, 1) := by decide +kernel
theorem dX1_copyFrom_189 : decode cX1_copyFrom 189 = .ok (.iconst 4, 1) := by decide +kernel
theorem dX1_copyFrom_190 : decode cX1_copyFrom 190 = .ok (.invokestatic 55, 3) := by decide +kernel
theorem dX1_copyFrom_193 : decode cX1_copyFrom 193 = .ok (.aload_n 1, 1) := by decide +kernel
theorem dX1_copyFrom_194 : decode cX1_copyFrom 194 = .ok (.getfield 49, 3) := by decide +kernel
theorem dX1_copyFrom_197 : decode cX1_copyFrom 197 = .ok (.iload_n 2, 1) := by decide +kernel
theorem dX1_copyFrom_198 : decode cX1_copyFrom 198 = .ok (.aaload, 1) := by decide +kernel
theorem dX1_copyFrom_199 : decode cX1_copyFrom 199 = .ok (.iconst 0, 1) := by decide +kernel
theorem dX1_copyFrom_200 : decode cX1_copyFrom 200 = .ok (.aload_n 0, 1) := by decide +kernel
theorem dX1_copyFrom_201 : decode cX1_copyFrom 201 = .ok (.getfield 49, 3) := by decide +kernel
theorem dX1_copyFrom_204 : decode cX1_copyFrom 204 = .ok (.iload_n 2, 1) := by decide +kernel
theorem dX1_copyFrom_205 : decode cX1_copyFrom 205 = .ok (.aaload, 1) := by decide +kernel
theorem dX1_copyFrom_206 : decode cX1_copyFrom 206 = .ok (.iconst 0, 1) := by decide +kernel
theorem dX1_copyFrom_207 : decode cX1_copyFrom 207 = .ok (.iconst 4, 1) := by decide +kernel
theorem dX1_copyFrom_208 : decode cX1_copyFrom 208 = .ok (.invokestatic 55, 3) := by decide +kernel
theorem dX1_copyFrom_211 : decode cX1_copyFrom 211 = .ok (.iinc 2 1, 3) := by decide +kernel
theorem dX1_copyFrom_214 : decode cX1_copyFrom 214 = .ok (.goto (-45), 3) := by decide +kernel
theorem dX1_copyFrom_217 : decode cX1_copyFrom 217 = .ok (.aload_n 0, 1) := by decide +kernel
theorem dX1_copyFrom_218 : decode cX1_copyFrom 218 = .ok (.aload_n 1, 1) := by decide +kernel
theorem dX1_copyFrom_219 : decode cX1_copyFrom 219 = .ok (.getfield 67, 3) := by decide +kernel
theorem dX1_copyFrom_222 : decode cX1_copyFrom 222 = .ok (.putfield 67, 3) := by decide +kernel
theorem dX1_copyFrom_225 : decode cX1_copyFrom 225 = .ok (.return_, 1) := by decide +kernel
theorem dX1_hasMember_0 : decode cX1_hasMember 0 = .ok (.iload_n 1, 1) := by decide +kernel
theorem dX1_hasMember_1 : decode cX1_hasMember 1 = .ok (.ifCond .lt 15, 3) := by decide +kernel
theorem dX1_hasMember_4 : decode cX1_hasMember 4 = .ok (.iload_n 1, 1) := by decide +kernel
theorem dX1_hasMember_5 : decode cX1_hasMember 5 = .ok (.aload_n 0, 1) := by decide +kernel
theorem dX1_hasMember_6 : decode cX1_hasMember 6 = .ok (.getfield 52, 3) := by decide +kernel
theorem dX1_hasMember_9 : decode cX1_hasMember 9 = .ok (.if_icmp .ge 7, 3) := by decide +kernel
theorem dX1_hasMember_12 : decode cX1_hasMember 12 = .ok (.iconst 1, 1) := by decide +kernel
theorem dX1_hasMember_13 : decode cX1_hasMember 13 = .ok (.goto 4, 3) := by decide +kernel
theorem dX1_hasMember_16 : decode cX1_hasMember 16 = .ok (.iconst 0, 1) := by decide +kernel
theorem dX1_hasMember_17 : decode cX1_hasMember 17 = .ok (.ireturn, 1) := by decide +kernel
theorem dX1_hasBill_0 : decode cX1_hasBill 0 = .ok (.iload_n 1, 1) := by decide +kernel
theorem dX1_hasBill_1 : decode cX1_hasBill 1 = .ok (.ifCond .lt 15, 3) := by decide +kernel
theorem dX1_hasBill_4 : decode cX1_hasBill 4 = .ok (.iload_n 1, 1) := by decide +kernel
theorem dX1_hasBill_5 : decode cX1_hasBill 5 = .ok (.aload_n 0, 1) := by decide +kernel
theorem dX1_hasBill_6 : decode cX1_hasBill 6 = .ok (.getfield 64, 3) := by decide +kernel
theorem dX1_hasBill_9 : decode cX1_hasBill 9 = .ok (.if_icmp .ge 7, 3) := by decide +kernel
theorem dX1_hasBill_12 : decode cX1_hasBill 12 = .ok (.iconst 1, 1) := by decide +kernel
theorem dX1_hasBill_13 : decode cX1_hasBill 13 = .ok (.goto 4, 3) := by decide +kernel
theorem dX1_hasBill_16 : decode cX1_hasBill 16 = .ok (.iconst 0, 1) := by decide +kernel
theorem dX1_hasBill_17 : decode cX1_hasBill 17 = .ok (.ireturn, 1) := by decide +kernel
theorem dX1_hasPending_0 : decode cX1_hasPending 0 = .ok (.iload_n 2, 1) := by decide +kernel
theorem dX1_hasPending_1 : decode cX1_hasPending 1 = .ok (.ifCond .lt 17, 3) := by decide +kernel
theorem dX1_hasPending_4 : decode cX1_hasPending 4 = .ok (.iload_n 2, 1) := by decide +kernel
theorem dX1_hasPending_5 : decode cX1_hasPending 5 = .ok (.aload_n 0, 1) := by decide +kernel
theorem dX1_hasPending_6 : decode cX1_hasPending 6 = .ok (.getfield 41, 3) := by decide +kernel
theorem dX1_hasPending_9 : decode cX1_hasPending 9 = .ok (.iload_n 1, 1) := by decide +kernel
theorem dX1_hasPending_10 : decode cX1_hasPending 10 = .ok (.iaload, 1) := by decide +kernel
theorem dX1_hasPending_11 : decode cX1_hasPending 11 = .ok (.if_icmp .ge 7, 3) := by decide +kernel
theorem dX1_hasPending_14 : decode cX1_hasPending 14 = .ok (.iconst 1, 1) := by decide +kernel
theorem dX1_hasPending_15 : decode cX1_hasPending 15 = .ok (.goto 4, 3) := by decide +kernel
theorem dX1_hasPending_18 : decode cX1_hasPending 18 = .ok (.iconst 0, 1) := by decide +kernel
theorem dX1_hasPending_19 : decode cX1_hasPending 19 = .ok (.ireturn, 1) := by decide +kernel
theorem dX1_isIn_0 : decode cX1_isIn 0 = .ok (.aload_n 0, 1) := by decide +kernel
theorem dX1_isIn_1 : decode cX1_isIn 1 = .ok (.getfield 61, 3) := by decide +kernel
theorem dX1_isIn_4 : decode cX1_isIn 4 = .ok (.iload_n 1, 1) := by decide +kernel
theorem dX1_isIn_5 : decode cX1_isIn 5 = .ok (.iushr, 1) := by decide +kernel
theorem dX1_isIn_6 : decode cX1_isIn 6 = .ok (.iconst 1, 1) := by decide +kernel
theorem dX1_isIn_7 : decode cX1_isIn 7 = .ok (.iand, 1) := by decide +kernel
theorem dX1_isIn_8 : decode cX1_isIn 8 = .ok (.ifCond .eq 7, 3) := by decide +kernel
theorem dX1_isIn_11 : decode cX1_isIn 11 = .ok (.iconst 1, 1) := by decide +kernel
theorem dX1_isIn_12 : decode cX1_isIn 12 = .ok (.goto 4, 3) := by decide +kernel
theorem dX1_isIn_15 : decode cX1_isIn 15 = .ok (.iconst 0, 1) := by decide +kernel
theorem dX1_isIn_16 : decode cX1_isIn 16 = .ok (.ireturn, 1) := by decide +kernel
theorem dX1_hasQuorum_0 : decode cX1_hasQuorum 0 = .ok (.aload_n 0, 1) := by decide +kernel
theorem dX1_hasQuorum_1 : decode cX1_hasQuorum 1 = .ok (.getfield 61, 3) := by decide +kernel
theorem dX1_hasQuorum_4 : decode cX1_hasQuorum 4 = .ok (.invokestatic 70, 3) := by decide +kernel
theorem dX1_hasQuorum_7 : decode cX1_hasQuorum 7 = .ok (.aload_n 0, 1) := by decide +kernel
theorem dX1_hasQuorum_8 : decode cX1_hasQuorum 8 = .ok (.getfield 18, 3) := by decide +kernel
theorem dX1_hasQuorum_11 : decode cX1_hasQuorum 11 = .ok (.if_icmp .lt 7, 3) := by decide +kernel
theorem dX1_hasQuorum_14 : decode cX1_hasQuorum 14 = .ok (.iconst 1, 1) := by decide +kernel
theorem dX1_hasQuorum_15 : decode cX1_hasQuorum 15 = .ok (.goto 4, 3) := by decide +kernel
theorem dX1_hasQuorum_18 : decode cX1_hasQuorum 18 = .ok (.iconst 0, 1) := by decide +kernel
theorem dX1_hasQuorum_19 : decode cX1_hasQuorum 19 = .ok (.ireturn, 1) := by decide +kernel
theorem dX1_everybody_0 : decode cX1_everybody 0 = .ok (.iconst 1, 1) := by decide +kernel
theorem dX1_everybody_1 : decode cX1_everybody 1 = .ok (.aload_n 0, 1) := by decide +kernel
theorem dX1_everybody_2 : decode cX1_everybody 2 = .ok (.getfield 52, 3) := by decide +kernel
theorem dX1_everybody_5 : decode cX1_everybody 5 = .ok (.ishl, 1) := by decide +kernel
theorem dX1_everybody_6 : decode cX1_everybody 6 = .ok (.iconst 1, 1) := by decide +kernel
theorem dX1_everybody_7 : decode cX1_everybody 7 = .ok (.isub, 1) := by decide +kernel
theorem dX1_everybody_8 : decode cX1_everybody 8 = .ok (.ireturn, 1) := by decide +kernel
theorem dX1_weightOfSet_0 : decode cX1_weightOfSet 0 = .ok (.iconst 0, 1) := by decide +kernel
theorem dX1_weightOfSet_1 : decode cX1_weightOfSet 1 = .ok (.istore_n 2, 1) := by decide +kernel
theorem dX1_weightOfSet_2 : decode cX1_weightOfSet 2 = .ok (.iconst 0, 1) := by decide +kernel
theorem dX1_weightOfSet_3 : decode cX1_weightOfSet 3 = .ok (.istore_n 3, 1) := by decide +kernel
theorem dX1_weightOfSet_4 : decode cX1_weightOfSet 4 = .ok (.iload_n 3, 1) := by decide +kernel
theorem dX1_weightOfSet_5 : decode cX1_weightOfSet 5 = .ok (.bipush 24, 2) := by decide +kernel
theorem dX1_weightOfSet_7 : decode cX1_weightOfSet 7 = .ok (.if_icmp .ge 26, 3) := by decide +kernel
theorem dX1_weightOfSet_10 : decode cX1_weightOfSet 10 = .ok (.iload_n 1, 1) := by decide +kernel
theorem dX1_weightOfSet_11 : decode cX1_weightOfSet 11 = .ok (.iload_n 3, 1) := by decide +kernel
theorem dX1_weightOfSet_12 : decode cX1_weightOfSet 12 = .ok (.iushr, 1) := by decide +kernel
theorem dX1_weightOfSet_13 : decode cX1_weightOfSet 13 = .ok (.iconst 1, 1) := by decide +kernel
theorem dX1_weightOfSet_14 : decode cX1_weightOfSet 14 = .ok (.iand, 1) := by decide +kernel
theorem dX1_weightOfSet_15 : decode cX1_weightOfSet 15 = .ok (.ifCond .eq 12, 3) := by decide +kernel
theorem dX1_weightOfSet_18 : decode cX1_weightOfSet 18 = .ok (.iload_n 2, 1) := by decide +kernel
theorem dX1_weightOfSet_19 : decode cX1_weightOfSet 19 = .ok (.aload_n 0, 1) := by decide +kernel
theorem dX1_weightOfSet_20 : decode cX1_weightOfSet 20 = .ok (.getfield 15, 3) := by decide +kernel
theorem dX1_weightOfSet_23 : decode cX1_weightOfSet 23 = .ok (.iload_n 3, 1) := by decide +kernel
theorem dX1_weightOfSet_24 : decode cX1_weightOfSet 24 = .ok (.iaload, 1) := by decide +kernel
theorem dX1_weightOfSet_25 : decode cX1_weightOfSet 25 = .ok (.iadd, 1) := by decide +kernel
theorem dX1_weightOfSet_26 : decode cX1_weightOfSet 26 = .ok (.istore_n 2, 1) := by decide +kernel
theorem dX1_weightOfSet_27 : decode cX1_weightOfSet 27 = .ok (.iinc 3 1, 3) := by decide +kernel
theorem dX1_weightOfSet_30 : decode cX1_weightOfSet 30 = .ok (.goto (-26), 3) := by decide +kernel
theorem dX1_weightOfSet_33 : decode cX1_weightOfSet 33 = .ok (.iload_n 2, 1) := by decide +kernel
theorem dX1_weightOfSet_34 : decode cX1_weightOfSet 34 = .ok (.ireturn, 1) := by decide +kernel
theorem dX1_weightOfSetByDigits_0 : decode cX1_weightOfSetByDigits 0 = .ok (.iconst 0, 1) := by decide +kernel
theorem dX1_weightOfSetByDigits_1 : decode cX1_weightOfSetByDigits 1 = .ok (.istore_n 2, 1) := by decide +kernel
theorem dX1_weightOfSetByDigits_2 : decode cX1_weightOfSetByDigits 2 = .ok (.iconst 0, 1) := by decide +kernel
theorem dX1_weightOfSetByDigits_3 : decode cX1_weightOfSetByDigits 3 = .ok (.istore_n 3, 1) := by decide +kernel
theorem dX1_weightOfSetByDigits_4 : decode cX1_weightOfSetByDigits 4 = .ok (.iload_n 3, 1) := by decide +kernel
theorem dX1_weightOfSetByDigits_5 : decode cX1_weightOfSetByDigits 5 = .ok (.iconst 3, 1) := by decide +kernel
theorem dX1_weightOfSetByDigits_6 : decode cX1_weightOfSetByDigits 6 = .ok (.if_icmp .ge 24, 3) := by decide +kernel
theorem dX1_weightOfSetByDigits_9 : decode cX1_weightOfSetByDigits 9 = .ok (.iload_n 2, 1) := by decide +kernel
theorem dX1_weightOfSetByDigits_10 : decode cX1_weightOfSetByDigits 10 = .ok (.iload_n 1, 1) := by decide +kernel
theorem dX1_weightOfSetByDigits_11 : decode cX1_weightOfSetByDigits 11 = .ok (.aload_n 0, 1) := by decide +kernel
theorem dX1_weightOfSetByDigits_12 : decode cX1_weightOfSetByDigits 12 = .ok (.iload_n 3, 1) := by decide +kernel
theorem dX1_weightOfSetByDigits_13 : decode cX1_weightOfSetByDigits 13 = .ok (.invokevirtual 76, 3) := by decide +kernel
theorem dX1_weightOfSetByDigits_16 : decode cX1_weightOfSetByDigits 16 = .ok (.iand, 1) := by decide +kernel
theorem dX1_weightOfSetByDigits_17 : decode cX1_weightOfSetByDigits 17 = .ok (.invokestatic 70, 3) := by decide +kernel
theorem dX1_weightOfSetByDigits_20 : decode cX1_weightOfSetByDigits 20 = .ok (.iload_n 3, 1) := by decide +kernel
theorem dX1_weightOfSetByDigits_21 : decode cX1_weightOfSetByDigits 21 = .ok (.ishl, 1) := by decide +kernel
theorem dX1_weightOfSetByDigits_22 : decode cX1_weightOfSetByDigits 22 = .ok (.iadd, 1) := by decide +kernel
theorem dX1_weightOfSetByDigits_23 : decode cX1_weightOfSetByDigits 23 = .ok (.istore_n 2, 1) := by decide +kernel
theorem dX1_weightOfSetByDigits_24 : decode cX1_weightOfSetByDigits 24 = .ok (.iinc 3 1, 3) := by decide +kernel
theorem dX1_weightOfSetByDigits_27 : decode cX1_weightOfSetByDigits 27 = .ok (.goto (-23), 3) := by decide +kernel
theorem dX1_weightOfSetByDigits_30 : decode cX1_weightOfSetByDigits 30 = .ok (.iload_n 2, 1) := by decide +kernel
theorem dX1_weightOfSetByDigits_31 : decode cX1_weightOfSetByDigits 31 = .ok (.ireturn, 1) := by decide +kernel
theorem dX1_membersWithDigit_0 : decode cX1_membersWithDigit 0 = .ok (.iconst 0, 1) := by decide +kernel
theorem dX1_membersWithDigit_1 : decode cX1_membersWithDigit 1 = .ok (.istore_n 2, 1) := by decide +kernel
theorem dX1_membersWithDigit_2 : decode cX1_membersWithDigit 2 = .ok (.iconst 0, 1) := by decide +kernel
theorem dX1_membersWithDigit_3 : decode cX1_membersWithDigit 3 = .ok (.istore_n 3, 1) := by decide +kernel
theorem dX1_membersWithDigit_4 : decode cX1_membersWithDigit 4 = .ok (.iload_n 3, 1) := by decide +kernel
theorem dX1_membersWithDigit_5 : decode cX1_membersWithDigit 5 = .ok (.bipush 24, 2) := by decide +kernel
theorem dX1_membersWithDigit_7 : decode cX1_membersWithDigit 7 = .ok (.if_icmp .ge 24, 3) := by decide +kernel
theorem dX1_membersWithDigit_10 : decode cX1_membersWithDigit 10 = .ok (.iload_n 2, 1) := by decide +kernel
theorem dX1_membersWithDigit_11 : decode cX1_membersWithDigit 11 = .ok (.aload_n 0, 1) := by decide +kernel
theorem dX1_membersWithDigit_12 : decode cX1_membersWithDigit 12 = .ok (.getfield 15, 3) := by decide +kernel
theorem dX1_membersWithDigit_15 : decode cX1_membersWithDigit 15 = .ok (.iload_n 3, 1) := by decide +kernel
theorem dX1_membersWithDigit_16 : decode cX1_membersWithDigit 16 = .ok (.iaload, 1) := by decide +kernel
theorem dX1_membersWithDigit_17 : decode cX1_membersWithDigit 17 = .ok (.iload_n 1, 1) := by decide +kernel
theorem dX1_membersWithDigit_18 : decode cX1_membersWithDigit 18 = .ok (.iushr, 1) := by decide +kernel
theorem dX1_membersWithDigit_19 : decode cX1_membersWithDigit 19 = .ok (.iconst 1, 1) := by decide +kernel
theorem dX1_membersWithDigit_20 : decode cX1_membersWithDigit 20 = .ok (.iand, 1) := by decide +kernel
theorem dX1_membersWithDigit_21 : decode cX1_membersWithDigit 21 = .ok (.iload_n 3, 1) := by decide +kernel
theorem dX1_membersWithDigit_22 : decode cX1_membersWithDigit 22 = .ok (.ishl, 1) := by decide +kernel
theorem dX1_membersWithDigit_23 : decode cX1_membersWithDigit 23 = .ok (.ior, 1) := by decide +kernel
theorem dX1_membersWithDigit_24 : decode cX1_membersWithDigit 24 = .ok (.istore_n 2, 1) := by decide +kernel
theorem dX1_membersWithDigit_25 : decode cX1_membersWithDigit 25 = .ok (.iinc 3 1, 3) := by decide +kernel
theorem dX1_membersWithDigit_28 : decode cX1_membersWithDigit 28 = .ok (.goto (-24), 3) := by decide +kernel
theorem dX1_membersWithDigit_31 : decode cX1_membersWithDigit 31 = .ok (.iload_n 2, 1) := by decide +kernel
theorem dX1_membersWithDigit_32 : decode cX1_membersWithDigit 32 = .ok (.ireturn, 1) := by decide +kernel
theorem dX1_weightInWard_0 : decode cX1_weightInWard 0 = .ok (.iconst 0, 1) := by decide +kernel
theorem dX1_weightInWard_1 : decode cX1_weightInWard 1 = .ok (.istore_n 2, 1) := by decide +kernel
theorem dX1_weightInWard_2 : decode cX1_weightInWard 2 = .ok (.iconst 0, 1) := by decide +kernel
theorem dX1_weightInWard_3 : decode cX1_weightInWard 3 = .ok (.istore_n 3, 1) := by decide +kernel
theorem dX1_weightInWard_4 : decode cX1_weightInWard 4 = .ok (.iload_n 3, 1) := by decide +kernel
theorem dX1_weightInWard_5 : decode cX1_weightInWard 5 = .ok (.bipush 24, 2) := by decide +kernel
theorem dX1_weightInWard_7 : decode cX1_weightInWard 7 = .ok (.if_icmp .ge 36, 3) := by decide +kernel
theorem dX1_weightInWard_10 : decode cX1_weightInWard 10 = .ok (.aload_n 0, 1) := by decide +kernel
theorem dX1_weightInWard_11 : decode cX1_weightInWard 11 = .ok (.iload_n 3, 1) := by decide +kernel
theorem dX1_weightInWard_12 : decode cX1_weightInWard 12 = .ok (.invokevirtual 79, 3) := by decide +kernel
theorem dX1_weightInWard_15 : decode cX1_weightInWard 15 = .ok (.ifCond .eq 22, 3) := by decide +kernel
theorem dX1_weightInWard_18 : decode cX1_weightInWard 18 = .ok (.aload_n 0, 1) := by decide +kernel
theorem dX1_weightInWard_19 : decode cX1_weightInWard 19 = .ok (.getfield 9, 3) := by decide +kernel
theorem dX1_weightInWard_22 : decode cX1_weightInWard 22 = .ok (.iload_n 3, 1) := by decide +kernel
theorem dX1_weightInWard_23 : decode cX1_weightInWard 23 = .ok (.iaload, 1) := by decide +kernel
theorem dX1_weightInWard_24 : decode cX1_weightInWard 24 = .ok (.iload_n 1, 1) := by decide +kernel
theorem dX1_weightInWard_25 : decode cX1_weightInWard 25 = .ok (.if_icmp .ne 12, 3) := by decide +kernel
theorem dX1_weightInWard_28 : decode cX1_weightInWard 28 = .ok (.iload_n 2, 1) := by decide +kernel
theorem dX1_weightInWard_29 : decode cX1_weightInWard 29 = .ok (.aload_n 0, 1) := by decide +kernel
theorem dX1_weightInWard_30 : decode cX1_weightInWard 30 = .ok (.getfield 15, 3) := by decide +kernel
theorem dX1_weightInWard_33 : decode cX1_weightInWard 33 = .ok (.iload_n 3, 1) := by decide +kernel
theorem dX1_weightInWard_34 : decode cX1_weightInWard 34 = .ok (.iaload, 1) := by decide +kernel
theorem dX1_weightInWard_35 : decode cX1_weightInWard 35 = .ok (.iadd, 1) := by decide +kernel
theorem dX1_weightInWard_36 : decode cX1_weightInWard 36 = .ok (.istore_n 2, 1) := by decide +kernel
theorem dX1_weightInWard_37 : decode cX1_weightInWard 37 = .ok (.iinc 3 1, 3) := by decide +kernel
theorem dX1_weightInWard_40 : decode cX1_weightInWard 40 = .ok (.goto (-36), 3) := by decide +kernel
theorem dX1_weightInWard_43 : decode cX1_weightInWard 43 = .ok (.iload_n 2, 1) := by decide +kernel
theorem dX1_weightInWard_44 : decode cX1_weightInWard 44 = .ok (.ireturn, 1) := by decide +kernel
theorem dX1_rustOf_0 : decode cX1_rustOf 0 = .ok (.aload_n 0, 1) := by decide +kernel
theorem dX1_rustOf_1 : decode cX1_rustOf 1 = .ok (.getfield 32, 3) := by decide +kernel
theorem dX1_rustOf_4 : decode cX1_rustOf 4 = .ok (.iload_n 1, 1) := by decide +kernel
theorem dX1_rustOf_5 : decode cX1_rustOf 5 = .ok (.iaload, 1) := by decide +kernel
theorem dX1_rustOf_6 : decode cX1_rustOf 6 = .ok (.bipush 60, 2) := by decide +kernel
theorem dX1_rustOf_8 : decode cX1_rustOf 8 = .ok (.idiv, 1) := by decide +kernel
theorem dX1_rustOf_9 : decode cX1_rustOf 9 = .ok (.ireturn, 1) := by decide +kernel
theorem dX1_billsWith_0 : decode cX1_billsWith 0 = .ok (.iconst 0, 1) := by decide +kernel
theorem dX1_billsWith_1 : decode cX1_billsWith 1 = .ok (.istore_n 2, 1) := by decide +kernel
theorem dX1_billsWith_2 : decode cX1_billsWith 2 = .ok (.iconst 0, 1) := by decide +kernel
theorem dX1_billsWith_3 : decode cX1_billsWith 3 = .ok (.istore_n 3, 1) := by decide +kernel
theorem dX1_billsWith_4 : decode cX1_billsWith 4 = .ok (.iload_n 3, 1) := by decide +kernel
theorem dX1_billsWith_5 : decode cX1_billsWith 5 = .ok (.aload_n 0, 1) := by decide +kernel
theorem dX1_billsWith_6 : decode cX1_billsWith 6 = .ok (.getfield 64, 3) := by decide +kernel
theorem dX1_billsWith_9 : decode cX1_billsWith 9 = .ok (.if_icmp .ge 22, 3) := by decide +kernel
theorem dX1_billsWith_12 : decode cX1_billsWith 12 = .ok (.aload_n 0, 1) := by decide +kernel
theorem dX1_billsWith_13 : decode cX1_billsWith 13 = .ok (.getfield 22, 3) := by decide +kernel
theorem dX1_billsWith_16 : decode cX1_billsWith 16 = .ok (.iload_n 3, 1) := by decide +kernel
theorem dX1_billsWith_17 : decode cX1_billsWith 17 = .ok (.iaload, 1) := by decide +kernel
theorem dX1_billsWith_18 : decode cX1_billsWith 18 = .ok (.iload_n 1, 1) := by decide +kernel
theorem dX1_billsWith_19 : decode cX1_billsWith 19 = .ok (.if_icmp .ne 6, 3) := by decide +kernel
theorem dX1_billsWith_22 : decode cX1_billsWith 22 = .ok (.iinc 2 1, 3) := by decide +kernel
theorem dX1_billsWith_25 : decode cX1_billsWith 25 = .ok (.iinc 3 1, 3) := by decide +kernel
theorem dX1_billsWith_28 : decode cX1_billsWith 28 = .ok (.goto (-24), 3) := by decide +kernel
theorem dX1_billsWith_31 : decode cX1_billsWith 31 = .ok (.iload_n 2, 1) := by decide +kernel
theorem dX1_billsWith_32 : decode cX1_billsWith 32 = .ok (.ireturn, 1) := by decide +kernel
theorem dX1_rankOf_0 : decode cX1_rankOf 0 = .ok (.iconst 0, 1) := by decide +kernel
theorem dX1_rankOf_1 : decode cX1_rankOf 1 = .ok (.istore_n 2, 1) := by decide +kernel
theorem dX1_rankOf_2 : decode cX1_rankOf 2 = .ok (.iconst 0, 1) := by decide +kernel
theorem dX1_rankOf_3 : decode cX1_rankOf 3 = .ok (.istore_n 3, 1) := by decide +kernel
theorem dX1_rankOf_4 : decode cX1_rankOf 4 = .ok (.iload_n 3, 1) := by decide +kernel
theorem dX1_rankOf_5 : decode cX1_rankOf 5 = .ok (.aload_n 0, 1) := by decide +kernel
theorem dX1_rankOf_6 : decode cX1_rankOf 6 = .ok (.getfield 64, 3) := by decide +kernel
theorem dX1_rankOf_9 : decode cX1_rankOf 9 = .ok (.if_icmp .ge 21, 3) := by decide +kernel
theorem dX1_rankOf_12 : decode cX1_rankOf 12 = .ok (.aload_n 0, 1) := by decide +kernel
theorem dX1_rankOf_13 : decode cX1_rankOf 13 = .ok (.iload_n 3, 1) := by decide +kernel
theorem dX1_rankOf_14 : decode cX1_rankOf 14 = .ok (.iload_n 1, 1) := by decide +kernel
theorem dX1_rankOf_15 : decode cX1_rankOf 15 = .ok (.invokevirtual 83, 3) := by decide +kernel
theorem dX1_rankOf_18 : decode cX1_rankOf 18 = .ok (.ifCond .eq 6, 3) := by decide +kernel
theorem dX1_rankOf_21 : decode cX1_rankOf 21 = .ok (.iinc 2 1, 3) := by decide +kernel
theorem dX1_rankOf_24 : decode cX1_rankOf 24 = .ok (.iinc 3 1, 3) := by decide +kernel
theorem dX1_rankOf_27 : decode cX1_rankOf 27 = .ok (.goto (-23), 3) := by decide +kernel
theorem dX1_rankOf_30 : decode cX1_rankOf 30 = .ok (.iload_n 2, 1) := by decide +kernel
theorem dX1_rankOf_31 : decode cX1_rankOf 31 = .ok (.ireturn, 1) := by decide +kernel
theorem dX1_isAhead_0 : decode cX1_isAhead 0 = .ok (.aload_n 0, 1) := by decide +kernel
theorem dX1_isAhead_1 : decode cX1_isAhead 1 = .ok (.getfield 25, 3) := by decide +kernel
theorem dX1_isAhead_4 : decode cX1_isAhead 4 = .ok (.iload_n 1, 1) := by decide +kernel
theorem dX1_isAhead_5 : decode cX1_isAhead 5 = .ok (.iaload, 1) := by decide +kernel
theorem dX1_isAhead_6 : decode cX1_isAhead 6 = .ok (.aload_n 0, 1) := by decide +kernel
theorem dX1_isAhead_7 : decode cX1_isAhead 7 = .ok (.getfield 25, 3) := by decide +kernel
theorem dX1_isAhead_10 : decode cX1_isAhead 10 = .ok (.iload_n 2, 1) := by decide +kernel
theorem dX1_isAhead_11 : decode cX1_isAhead 11 = .ok (.iaload, 1) := by decide +kernel
theorem dX1_isAhead_12 : decode cX1_isAhead 12 = .ok (.if_icmp .eq 24, 3) := by decide +kernel
theorem dX1_isAhead_15 : decode cX1_isAhead 15 = .ok (.aload_n 0, 1) := by decide +kernel
theorem dX1_isAhead_16 : decode cX1_isAhead 16 = .ok (.getfield 25, 3) := by decide +kernel
theorem dX1_isAhead_19 : decode cX1_isAhead 19 = .ok (.iload_n 1, 1) := by decide +kernel
theorem dX1_isAhead_20 : decode cX1_isAhead 20 = .ok (.iaload, 1) := by decide +kernel
theorem dX1_isAhead_21 : decode cX1_isAhead 21 = .ok (.aload_n 0, 1) := by decide +kernel
theorem dX1_isAhead_22 : decode cX1_isAhead 22 = .ok (.getfield 25, 3) := by decide +kernel
theorem dX1_isAhead_25 : decode cX1_isAhead 25 = .ok (.iload_n 2, 1) := by decide +kernel
theorem dX1_isAhead_26 : decode cX1_isAhead 26 = .ok (.iaload, 1) := by decide +kernel
theorem dX1_isAhead_27 : decode cX1_isAhead 27 = .ok (.if_icmp .le 7, 3) := by decide +kernel
theorem dX1_isAhead_30 : decode cX1_isAhead 30 = .ok (.iconst 1, 1) := by decide +kernel
theorem dX1_isAhead_31 : decode cX1_isAhead 31 = .ok (.goto 4, 3) := by decide +kernel
theorem dX1_isAhead_34 : decode cX1_isAhead 34 = .ok (.iconst 0, 1) := by decide +kernel
theorem dX1_isAhead_35 : decode cX1_isAhead 35 = .ok (.ireturn, 1) := by decide +kernel
theorem dX1_isAhead_36 : decode cX1_isAhead 36 = .ok (.aload_n 0, 1) := by decide +kernel
theorem dX1_isAhead_37 : decode cX1_isAhead 37 = .ok (.iload_n 1, 1) := by decide +kernel
theorem dX1_isAhead_38 : decode cX1_isAhead 38 = .ok (.invokevirtual 87, 3) := by decide +kernel
theorem dX1_isAhead_41 : decode cX1_isAhead 41 = .ok (.aload_n 0, 1) := by decide +kernel
theorem dX1_isAhead_42 : decode cX1_isAhead 42 = .ok (.iload_n 2, 1) := by decide +kernel
theorem dX1_isAhead_43 : decode cX1_isAhead 43 = .ok (.invokevirtual 87, 3) := by decide +kernel
theorem dX1_isAhead_46 : decode cX1_isAhead 46 = .ok (.if_icmp .eq 22, 3) := by decide +kernel
theorem dX1_isAhead_49 : decode cX1_isAhead 49 = .ok (.aload_n 0, 1) := by decide +kernel
theorem dX1_isAhead_50 : decode cX1_isAhead 50 = .ok (.iload_n 1, 1) := by decide +kernel
theorem dX1_isAhead_51 : decode cX1_isAhead 51 = .ok (.invokevirtual 87, 3) := by decide +kernel
theorem dX1_isAhead_54 : decode cX1_isAhead 54 = .ok (.aload_n 0, 1) := by decide +kernel
theorem dX1_isAhead_55 : decode cX1_isAhead 55 = .ok (.iload_n 2, 1) := by decide +kernel
theorem dX1_isAhead_56 : decode cX1_isAhead 56 = .ok (.invokevirtual 87, 3) := by decide +kernel
theorem dX1_isAhead_59 : decode cX1_isAhead 59 = .ok (.if_icmp .ge 7, 3) := by decide +kernel
theorem dX1_isAhead_62 : decode cX1_isAhead 62 = .ok (.iconst 1, 1) := by decide +kernel
theorem dX1_isAhead_63 : decode cX1_isAhead 63 = .ok (.goto 4, 3) := by decide +kernel
theorem dX1_isAhead_66 : decode cX1_isAhead 66 = .ok (.iconst 0, 1) := by decide +kernel
theorem dX1_isAhead_67 : decode cX1_isAhead 67 = .ok (.ireturn, 1) := by decide +kernel
theorem dX1_isAhead_68 : decode cX1_isAhead 68 = .ok (.iload_n 1, 1) := by decide +kernel
theorem dX1_isAhead_69 : decode cX1_isAhead 69 = .ok (.iload_n 2, 1) := by decide +kernel
theorem dX1_isAhead_70 : decode cX1_isAhead 70 = .ok (.if_icmp .ge 7, 3) := by decide +kernel
theorem dX1_isAhead_73 : decode cX1_isAhead 73 = .ok (.iconst 1, 1) := by decide +kernel
theorem dX1_isAhead_74 : decode cX1_isAhead 74 = .ok (.goto 4, 3) := by decide +kernel
theorem dX1_isAhead_77 : decode cX1_isAhead 77 = .ok (.iconst 0, 1) := by decide +kernel
theorem dX1_isAhead_78 : decode cX1_isAhead 78 = .ok (.ireturn, 1) := by decide +kernel
theorem dX1_faultOfAdmit_0 : decode cX1_faultOfAdmit 0 = .ok (.iload_n 1, 1) := by decide +kernel
theorem dX1_faultOfAdmit_1 : decode cX1_faultOfAdmit 1 = .ok (.invokestatic 90, 3) := by decide +kernel
theorem dX1_faultOfAdmit_4 : decode cX1_faultOfAdmit 4 = .ok (.ifCond .ne 5, 3) := by decide +kernel
theorem dX1_faultOfAdmit_7 : decode cX1_faultOfAdmit 7 = .ok (.iconst 1, 1) := by decide +kernel
theorem dX1_faultOfAdmit_8 : decode cX1_faultOfAdmit 8 = .ok (.ireturn, 1) := by decide +kernel
theorem dX1_faultOfAdmit_9 : decode cX1_faultOfAdmit 9 = .ok (.iload_n 2, 1) := by decide +kernel
theorem dX1_faultOfAdmit_10 : decode cX1_faultOfAdmit 10 = .ok (.iconst 1, 1) := by decide +kernel
theorem dX1_faultOfAdmit_11 : decode cX1_faultOfAdmit 11 = .ok (.if_icmp .lt 9, 3) := by decide +kernel
theorem dX1_faultOfAdmit_14 : decode cX1_faultOfAdmit 14 = .ok (.iload_n 2, 1) := by decide +kernel
theorem dX1_faultOfAdmit_15 : decode cX1_faultOfAdmit 15 = .ok (.bipush 7, 2) := by decide +kernel
theorem dX1_faultOfAdmit_17 : decode cX1_faultOfAdmit 17 = .ok (.if_icmp .le 5, 3) := by decide +kernel
theorem dX1_faultOfAdmit_20 : decode cX1_faultOfAdmit 20 = .ok (.iconst 2, 1) := by decide +kernel
theorem dX1_faultOfAdmit_21 : decode cX1_faultOfAdmit 21 = .ok (.ireturn, 1) := by decide +kernel
theorem dX1_faultOfAdmit_22 : decode cX1_faultOfAdmit 22 = .ok (.aload_n 0, 1) := by decide +kernel
theorem dX1_faultOfAdmit_23 : decode cX1_faultOfAdmit 23 = .ok (.getfield 52, 3) := by decide +kernel
theorem dX1_faultOfAdmit_26 : decode cX1_faultOfAdmit 26 = .ok (.bipush 24, 2) := by decide +kernel
theorem dX1_faultOfAdmit_28 : decode cX1_faultOfAdmit 28 = .ok (.if_icmp .lt 7, 3) := by decide +kernel
theorem dX1_faultOfAdmit_31 : decode cX1_faultOfAdmit 31 = .ok (.iconst 3, 1) := by decide +kernel
theorem dX1_faultOfAdmit_32 : decode cX1_faultOfAdmit 32 = .ok (.goto 4, 3) := by decide +kernel
theorem dX1_faultOfAdmit_35 : decode cX1_faultOfAdmit 35 = .ok (.iconst 0, 1) := by decide +kernel
theorem dX1_faultOfAdmit_36 : decode cX1_faultOfAdmit 36 = .ok (.ireturn, 1) := by decide +kernel
theorem dX1_admit_0 : decode cX1_admit 0 = .ok (.aload_n 0, 1) := by decide +kernel
theorem dX1_admit_1 : decode cX1_admit 1 = .ok (.getfield 52, 3) := by decide +kernel
theorem dX1_admit_4 : decode cX1_admit 4 = .ok (.istore_n 3, 1) := by decide +kernel
theorem dX1_admit_5 : decode cX1_admit 5 = .ok (.aload_n 0, 1) := by decide +kernel
theorem dX1_admit_6 : decode cX1_admit 6 = .ok (.getfield 9, 3) := by decide +kernel
theorem dX1_admit_9 : decode cX1_admit 9 = .ok (.iload_n 3, 1) := by decide +kernel
theorem dX1_admit_10 : decode cX1_admit 10 = .ok (.iload_n 1, 1) := by decide +kernel
theorem dX1_admit_11 : decode cX1_admit 11 = .ok (.iastore, 1) := by decide +kernel
theorem dX1_admit_12 : decode cX1_admit 12 = .ok (.aload_n 0, 1) := by decide +kernel
theorem dX1_admit_13 : decode cX1_admit 13 = .ok (.getfield 15, 3) := by decide +kernel
theorem dX1_admit_16 : decode cX1_admit 16 = .ok (.iload_n 3, 1) := by decide +kernel
theorem dX1_admit_17 : decode cX1_admit 17 = .ok (.iload_n 2, 1) := by decide +kernel
theorem dX1_admit_18 : decode cX1_admit 18 = .ok (.iastore, 1) := by decide +kernel
theorem dX1_admit_19 : decode cX1_admit 19 = .ok (.aload_n 0, 1) := by decide +kernel
theorem dX1_admit_20 : decode cX1_admit 20 = .ok (.dup, 1) := by decide +kernel
theorem dX1_admit_21 : decode cX1_admit 21 = .ok (.getfield 52, 3) := by decide +kernel
theorem dX1_admit_24 : decode cX1_admit 24 = .ok (.iconst 1, 1) := by decide +kernel
theorem dX1_admit_25 : decode cX1_admit 25 = .ok (.iadd, 1) := by decide +kernel
theorem dX1_admit_26 : decode cX1_admit 26 = .ok (.putfield 52, 3) := by decide +kernel
theorem dX1_admit_29 : decode cX1_admit 29 = .ok (.iload_n 3, 1) := by decide +kernel
theorem dX1_admit_30 : decode cX1_admit 30 = .ok (.ireturn, 1) := by decide +kernel
theorem dX1_faultOfComeIn_0 : decode cX1_faultOfComeIn 0 = .ok (.aload_n 0, 1) := by decide +kernel
theorem dX1_faultOfComeIn_1 : decode cX1_faultOfComeIn 1 = .ok (.iload_n 1, 1) := by decide +kernel
theorem dX1_faultOfComeIn_2 : decode cX1_faultOfComeIn 2 = .ok (.invokevirtual 93, 3) := by decide +kernel
theorem dX1_faultOfComeIn_5 : decode cX1_faultOfComeIn 5 = .ok (.ifCond .ne 5, 3) := by decide +kernel
theorem dX1_faultOfComeIn_8 : decode cX1_faultOfComeIn 8 = .ok (.iconst 1, 1) := by decide +kernel
theorem dX1_faultOfComeIn_9 : decode cX1_faultOfComeIn 9 = .ok (.ireturn, 1) := by decide +kernel
theorem dX1_faultOfComeIn_10 : decode cX1_faultOfComeIn 10 = .ok (.aload_n 0, 1) := by decide +kernel
theorem dX1_faultOfComeIn_11 : decode cX1_faultOfComeIn 11 = .ok (.iload_n 1, 1) := by decide +kernel
theorem dX1_faultOfComeIn_12 : decode cX1_faultOfComeIn 12 = .ok (.invokevirtual 79, 3) := by decide +kernel
theorem dX1_faultOfComeIn_15 : decode cX1_faultOfComeIn 15 = .ok (.ifCond .eq 7, 3) := by decide +kernel
theorem dX1_faultOfComeIn_18 : decode cX1_faultOfComeIn 18 = .ok (.iconst 3, 1) := by decide +kernel
theorem dX1_faultOfComeIn_19 : decode cX1_faultOfComeIn 19 = .ok (.goto 4, 3) := by decide +kernel
theorem dX1_faultOfComeIn_22 : decode cX1_faultOfComeIn 22 = .ok (.iconst 0, 1) := by decide +kernel
theorem dX1_faultOfComeIn_23 : decode cX1_faultOfComeIn 23 = .ok (.ireturn, 1) := by decide +kernel
theorem dX1_comeIn_0 : decode cX1_comeIn 0 = .ok (.aload_n 0, 1) := by decide +kernel
theorem dX1_comeIn_1 : decode cX1_comeIn 1 = .ok (.dup, 1) := by decide +kernel
theorem dX1_comeIn_2 : decode cX1_comeIn 2 = .ok (.getfield 61, 3) := by decide +kernel
theorem dX1_comeIn_5 : decode cX1_comeIn 5 = .ok (.iconst 1, 1) := by decide +kernel
theorem dX1_comeIn_6 : decode cX1_comeIn 6 = .ok (.iload_n 1, 1) := by decide +kernel
theorem dX1_comeIn_7 : decode cX1_comeIn 7 = .ok (.ishl, 1) := by decide +kernel
theorem dX1_comeIn_8 : decode cX1_comeIn 8 = .ok (.ior, 1) := by decide +kernel
theorem dX1_comeIn_9 : decode cX1_comeIn 9 = .ok (.putfield 61, 3) := by decide +kernel
theorem dX1_comeIn_12 : decode cX1_comeIn 12 = .ok (.aload_n 0, 1) := by decide +kernel
theorem dX1_comeIn_13 : decode cX1_comeIn 13 = .ok (.getfield 61, 3) := by decide +kernel
theorem dX1_comeIn_16 : decode cX1_comeIn 16 = .ok (.invokestatic 70, 3) := by decide +kernel
theorem dX1_comeIn_19 : decode cX1_comeIn 19 = .ok (.ireturn, 1) := by decide +kernel
theorem dX1_faultOfGoOut_0 : decode cX1_faultOfGoOut 0 = .ok (.aload_n 0, 1) := by decide +kernel
theorem dX1_faultOfGoOut_1 : decode cX1_faultOfGoOut 1 = .ok (.iload_n 1, 1) := by decide +kernel
theorem dX1_faultOfGoOut_2 : decode cX1_faultOfGoOut 2 = .ok (.invokevirtual 93, 3) := by decide +kernel
theorem dX1_faultOfGoOut_5 : decode cX1_faultOfGoOut 5 = .ok (.ifCond .ne 5, 3) := by decide +kernel
theorem dX1_faultOfGoOut_8 : decode cX1_faultOfGoOut 8 = .ok (.iconst 1, 1) := by decide +kernel
theorem dX1_faultOfGoOut_9 : decode cX1_faultOfGoOut 9 = .ok (.ireturn, 1) := by decide +kernel
theorem dX1_faultOfGoOut_10 : decode cX1_faultOfGoOut 10 = .ok (.aload_n 0, 1) := by decide +kernel
theorem dX1_faultOfGoOut_11 : decode cX1_faultOfGoOut 11 = .ok (.iload_n 1, 1) := by decide +kernel
theorem dX1_faultOfGoOut_12 : decode cX1_faultOfGoOut 12 = .ok (.invokevirtual 79, 3) := by decide +kernel
theorem dX1_faultOfGoOut_15 : decode cX1_faultOfGoOut 15 = .ok (.ifCond .eq 7, 3) := by decide +kernel
theorem dX1_faultOfGoOut_18 : decode cX1_faultOfGoOut 18 = .ok (.iconst 0, 1) := by decide +kernel
theorem dX1_faultOfGoOut_19 : decode cX1_faultOfGoOut 19 = .ok (.goto 4, 3) := by decide +kernel
theorem dX1_faultOfGoOut_22 : decode cX1_faultOfGoOut 22 = .ok (.iconst 3, 1) := by decide +kernel
theorem dX1_faultOfGoOut_23 : decode cX1_faultOfGoOut 23 = .ok (.ireturn, 1) := by decide +kernel
theorem dX1_goOut_0 : decode cX1_goOut 0 = .ok (.aload_n 0, 1) := by decide +kernel
theorem dX1_goOut_1 : decode cX1_goOut 1 = .ok (.dup, 1) := by decide +kernel
theorem dX1_goOut_2 : decode cX1_goOut 2 = .ok (.getfield 61, 3) := by decide +kernel
theorem dX1_goOut_5 : decode cX1_goOut 5 = .ok (.iconst 1, 1) := by decide +kernel
theorem dX1_goOut_6 : decode cX1_goOut 6 = .ok (.iload_n 1, 1) := by decide +kernel
theorem dX1_goOut_7 : decode cX1_goOut 7 = .ok (.ishl, 1) := by decide +kernel
theorem dX1_goOut_8 : decode cX1_goOut 8 = .ok (.iconst (-1), 1) := by decide +kernel
theorem dX1_goOut_9 : decode cX1_goOut 9 = .ok (.ixor, 1) := by decide +kernel
theorem dX1_goOut_10 : decode cX1_goOut 10 = .ok (.iand, 1) := by decide +kernel
theorem dX1_goOut_11 : decode cX1_goOut 11 = .ok (.putfield 61, 3) := by decide +kernel
theorem dX1_goOut_14 : decode cX1_goOut 14 = .ok (.aload_n 0, 1) := by decide +kernel
theorem dX1_goOut_15 : decode cX1_goOut 15 = .ok (.getfield 61, 3) := by decide +kernel
theorem dX1_goOut_18 : decode cX1_goOut 18 = .ok (.invokestatic 70, 3) := by decide +kernel
theorem dX1_goOut_21 : decode cX1_goOut 21 = .ok (.ireturn, 1) := by decide +kernel
theorem dX1_faultOfNewQuorum_0 : decode cX1_faultOfNewQuorum 0 = .ok (.iload_n 1, 1) := by decide +kernel
theorem dX1_faultOfNewQuorum_1 : decode cX1_faultOfNewQuorum 1 = .ok (.iconst 1, 1) := by decide +kernel
theorem dX1_faultOfNewQuorum_2 : decode cX1_faultOfNewQuorum 2 = .ok (.if_icmp .lt 9, 3) := by decide +kernel
theorem dX1_faultOfNewQuorum_5 : decode cX1_faultOfNewQuorum 5 = .ok (.iload_n 1, 1) := by decide +kernel
theorem dX1_faultOfNewQuorum_6 : decode cX1_faultOfNewQuorum 6 = .ok (.bipush 24, 2) := by decide +kernel
theorem dX1_faultOfNewQuorum_8 : decode cX1_faultOfNewQuorum 8 = .ok (.if_icmp .le 7, 3) := by decide +kernel
theorem dX1_faultOfNewQuorum_11 : decode cX1_faultOfNewQuorum 11 = .ok (.iconst 2, 1) := by decide +kernel
theorem dX1_faultOfNewQuorum_12 : decode cX1_faultOfNewQuorum 12 = .ok (.goto 4, 3) := by decide +kernel
theorem dX1_faultOfNewQuorum_15 : decode cX1_faultOfNewQuorum 15 = .ok (.iconst 0, 1) := by decide +kernel
theorem dX1_faultOfNewQuorum_16 : decode cX1_faultOfNewQuorum 16 = .ok (.ireturn, 1) := by decide +kernel
theorem dX1_newQuorum_0 : decode cX1_newQuorum 0 = .ok (.aload_n 0, 1) := by decide +kernel
theorem dX1_newQuorum_1 : decode cX1_newQuorum 1 = .ok (.getfield 18, 3) := by decide +kernel
theorem dX1_newQuorum_4 : decode cX1_newQuorum 4 = .ok (.istore_n 2, 1) := by decide +kernel
theorem dX1_newQuorum_5 : decode cX1_newQuorum 5 = .ok (.aload_n 0, 1) := by decide +kernel
theorem dX1_newQuorum_6 : decode cX1_newQuorum 6 = .ok (.iload_n 1, 1) := by decide +kernel
theorem dX1_newQuorum_7 : decode cX1_newQuorum 7 = .ok (.putfield 18, 3) := by decide +kernel
theorem dX1_newQuorum_10 : decode cX1_newQuorum 10 = .ok (.iload_n 2, 1) := by decide +kernel
theorem dX1_newQuorum_11 : decode cX1_newQuorum 11 = .ok (.ireturn, 1) := by decide +kernel
theorem dX1_faultOfBringIn_0 : decode cX1_faultOfBringIn 0 = .ok (.aload_n 0, 1) := by decide +kernel
theorem dX1_faultOfBringIn_1 : decode cX1_faultOfBringIn 1 = .ok (.iload_n 1, 1) := by decide +kernel
theorem dX1_faultOfBringIn_2 : decode cX1_faultOfBringIn 2 = .ok (.invokevirtual 93, 3) := by decide +kernel
theorem dX1_faultOfBringIn_5 : decode cX1_faultOfBringIn 5 = .ok (.ifCond .eq 17, 3) := by decide +kernel
theorem dX1_faultOfBringIn_8 : decode cX1_faultOfBringIn 8 = .ok (.iload_n 2, 1) := by decide +kernel
theorem dX1_faultOfBringIn_9 : decode cX1_faultOfBringIn 9 = .ok (.invokestatic 96, 3) := by decide +kernel
theorem dX1_faultOfBringIn_12 : decode cX1_faultOfBringIn 12 = .ok (.ifCond .eq 10, 3) := by decide +kernel
theorem dX1_faultOfBringIn_15 : decode cX1_faultOfBringIn 15 = .ok (.iload_n 3, 1) := by decide +kernel
theorem dX1_faultOfBringIn_16 : decode cX1_faultOfBringIn 16 = .ok (.invokestatic 96, 3) := by decide +kernel
theorem dX1_faultOfBringIn_19 : decode cX1_faultOfBringIn 19 = .ok (.ifCond .ne 5, 3) := by decide +kernel
theorem dX1_faultOfBringIn_22 : decode cX1_faultOfBringIn 22 = .ok (.iconst 1, 1) := by decide +kernel
theorem dX1_faultOfBringIn_23 : decode cX1_faultOfBringIn 23 = .ok (.ireturn, 1) := by decide +kernel
theorem dX1_faultOfBringIn_24 : decode cX1_faultOfBringIn 24 = .ok (.iload_n 2, 1) := by decide +kernel
theorem dX1_faultOfBringIn_25 : decode cX1_faultOfBringIn 25 = .ok (.iload_n 3, 1) := by decide +kernel
theorem dX1_faultOfBringIn_26 : decode cX1_faultOfBringIn 26 = .ok (.if_icmp .le 5, 3) := by decide +kernel
theorem dX1_faultOfBringIn_29 : decode cX1_faultOfBringIn 29 = .ok (.iconst 2, 1) := by decide +kernel
theorem dX1_faultOfBringIn_30 : decode cX1_faultOfBringIn 30 = .ok (.ireturn, 1) := by decide +kernel
theorem dX1_faultOfBringIn_31 : decode cX1_faultOfBringIn 31 = .ok (.aload_n 0, 1) := by decide +kernel
theorem dX1_faultOfBringIn_32 : decode cX1_faultOfBringIn 32 = .ok (.getfield 64, 3) := by decide +kernel
theorem dX1_faultOfBringIn_35 : decode cX1_faultOfBringIn 35 = .ok (.bipush 8, 2) := by decide +kernel
theorem dX1_faultOfBringIn_37 : decode cX1_faultOfBringIn 37 = .ok (.if_icmp .lt 5, 3) := by decide +kernel
theorem dX1_faultOfBringIn_40 : decode cX1_faultOfBringIn 40 = .ok (.iconst 3, 1) := by decide +kernel
theorem dX1_faultOfBringIn_41 : decode cX1_faultOfBringIn 41 = .ok (.ireturn, 1) := by decide +kernel
theorem dX1_faultOfBringIn_42 : decode cX1_faultOfBringIn 42 = .ok (.aload_n 0, 1) := by decide +kernel
theorem dX1_faultOfBringIn_43 : decode cX1_faultOfBringIn 43 = .ok (.iload_n 1, 1) := by decide +kernel
theorem dX1_faultOfBringIn_44 : decode cX1_faultOfBringIn 44 = .ok (.invokevirtual 79, 3) := by decide +kernel
theorem dX1_faultOfBringIn_47 : decode cX1_faultOfBringIn 47 = .ok (.ifCond .eq 7, 3) := by decide +kernel
theorem dX1_faultOfBringIn_50 : decode cX1_faultOfBringIn 50 = .ok (.iconst 0, 1) := by decide +kernel
theorem dX1_faultOfBringIn_51 : decode cX1_faultOfBringIn 51 = .ok (.goto 4, 3) := by decide +kernel
theorem dX1_faultOfBringIn_54 : decode cX1_faultOfBringIn 54 = .ok (.iconst 5, 1) := by decide +kernel
theorem dX1_faultOfBringIn_55 : decode cX1_faultOfBringIn 55 = .ok (.ireturn, 1) := by decide +kernel
theorem dX1_bringIn_0 : decode cX1_bringIn 0 = .ok (.aload_n 0, 1) := by decide +kernel
theorem dX1_bringIn_1 : decode cX1_bringIn 1 = .ok (.getfield 64, 3) := by decide +kernel
theorem dX1_bringIn_4 : decode cX1_bringIn 4 = .ok (.istore_n 3, 1) := by decide +kernel
theorem dX1_bringIn_5 : decode cX1_bringIn 5 = .ok (.aload_n 0, 1) := by decide +kernel
theorem dX1_bringIn_6 : decode cX1_bringIn 6 = .ok (.getfield 28, 3) := by decide +kernel
theorem dX1_bringIn_9 : decode cX1_bringIn 9 = .ok (.iload_n 3, 1) := by decide +kernel
theorem dX1_bringIn_10 : decode cX1_bringIn 10 = .ok (.ldc2_w 99, 3) := by decide +kernel
theorem dX1_bringIn_13 : decode cX1_bringIn 13 = .ok (.iload_n 1, 1) := by decide +kernel
theorem dX1_bringIn_14 : decode cX1_bringIn 14 = .ok (.lshl, 1) := by decide +kernel
theorem dX1_bringIn_15 : decode cX1_bringIn 15 = .ok (.ldc2_w 99, 3) := by decide +kernel
theorem dX1_bringIn_18 : decode cX1_bringIn 18 = .ok (.bipush 63, 2) := by decide +kernel
theorem dX1_bringIn_20 : decode cX1_bringIn 20 = .ok (.iload_n 2, 1) := by decide +kernel
theorem dX1_bringIn_21 : decode cX1_bringIn 21 = .ok (.isub, 1) := by decide +kernel
theorem dX1_bringIn_22 : decode cX1_bringIn 22 = .ok (.lushr, 1) := by decide +kernel
theorem dX1_bringIn_23 : decode cX1_bringIn 23 = .ok (.land, 1) := by decide +kernel
theorem dX1_bringIn_24 : decode cX1_bringIn 24 = .ok (.lastore, 1) := by decide +kernel
theorem dX1_bringIn_25 : decode cX1_bringIn 25 = .ok (.aload_n 0, 1) := by decide +kernel
theorem dX1_bringIn_26 : decode cX1_bringIn 26 = .ok (.dup, 1) := by decide +kernel
theorem dX1_bringIn_27 : decode cX1_bringIn 27 = .ok (.getfield 64, 3) := by decide +kernel
theorem dX1_bringIn_30 : decode cX1_bringIn 30 = .ok (.iconst 1, 1) := by decide +kernel
theorem dX1_bringIn_31 : decode cX1_bringIn 31 = .ok (.iadd, 1) := by decide +kernel
theorem dX1_bringIn_32 : decode cX1_bringIn 32 = .ok (.putfield 64, 3) := by decide +kernel
theorem dX1_bringIn_35 : decode cX1_bringIn 35 = .ok (.iload_n 3, 1) := by decide +kernel
theorem dX1_bringIn_36 : decode cX1_bringIn 36 = .ok (.ireturn, 1) := by decide +kernel
theorem dX1_faultOfVote_0 : decode cX1_faultOfVote 0 = .ok (.aload_n 0, 1) := by decide +kernel
theorem dX1_faultOfVote_1 : decode cX1_faultOfVote 1 = .ok (.iload_n 1, 1) := by decide +kernel
theorem dX1_faultOfVote_2 : decode cX1_faultOfVote 2 = .ok (.invokevirtual 101, 3) := by decide +kernel
theorem dX1_faultOfVote_5 : decode cX1_faultOfVote 5 = .ok (.ifCond .eq 11, 3) := by decide +kernel
theorem dX1_faultOfVote_8 : decode cX1_faultOfVote 8 = .ok (.aload_n 0, 1) := by decide +kernel
theorem dX1_faultOfVote_9 : decode cX1_faultOfVote 9 = .ok (.iload_n 2, 1) := by decide +kernel
theorem dX1_faultOfVote_10 : decode cX1_faultOfVote 10 = .ok (.invokevirtual 93, 3) := by decide +kernel
theorem dX1_faultOfVote_13 : decode cX1_faultOfVote 13 = .ok (.ifCond .ne 5, 3) := by decide +kernel
theorem dX1_faultOfVote_16 : decode cX1_faultOfVote 16 = .ok (.iconst 1, 1) := by decide +kernel
theorem dX1_faultOfVote_17 : decode cX1_faultOfVote 17 = .ok (.ireturn, 1) := by decide +kernel
theorem dX1_faultOfVote_18 : decode cX1_faultOfVote 18 = .ok (.aload_n 0, 1) := by decide +kernel
theorem dX1_faultOfVote_19 : decode cX1_faultOfVote 19 = .ok (.getfield 22, 3) := by decide +kernel
theorem dX1_faultOfVote_22 : decode cX1_faultOfVote 22 = .ok (.iload_n 1, 1) := by decide +kernel
theorem dX1_faultOfVote_23 : decode cX1_faultOfVote 23 = .ok (.iaload, 1) := by decide +kernel
theorem dX1_faultOfVote_24 : decode cX1_faultOfVote 24 = .ok (.ifCond .eq 5, 3) := by decide +kernel
theorem dX1_faultOfVote_27 : decode cX1_faultOfVote 27 = .ok (.iconst 3, 1) := by decide +kernel
theorem dX1_faultOfVote_28 : decode cX1_faultOfVote 28 = .ok (.ireturn, 1) := by decide +kernel
theorem dX1_faultOfVote_29 : decode cX1_faultOfVote 29 = .ok (.aload_n 0, 1) := by decide +kernel
theorem dX1_faultOfVote_30 : decode cX1_faultOfVote 30 = .ok (.iload_n 2, 1) := by decide +kernel
theorem dX1_faultOfVote_31 : decode cX1_faultOfVote 31 = .ok (.invokevirtual 79, 3) := by decide +kernel
theorem dX1_faultOfVote_34 : decode cX1_faultOfVote 34 = .ok (.ifCond .eq 7, 3) := by decide +kernel
theorem dX1_faultOfVote_37 : decode cX1_faultOfVote 37 = .ok (.iconst 0, 1) := by decide +kernel
theorem dX1_faultOfVote_38 : decode cX1_faultOfVote 38 = .ok (.goto 4, 3) := by decide +kernel
theorem dX1_faultOfVote_41 : decode cX1_faultOfVote 41 = .ok (.iconst 5, 1) := by decide +kernel
theorem dX1_faultOfVote_42 : decode cX1_faultOfVote 42 = .ok (.ireturn, 1) := by decide +kernel
theorem dX1_countFor_0 : decode cX1_countFor 0 = .ok (.aload_n 0, 1) := by decide +kernel
theorem dX1_countFor_1 : decode cX1_countFor 1 = .ok (.getfield 35, 3) := by decide +kernel
theorem dX1_countFor_4 : decode cX1_countFor 4 = .ok (.iload_n 1, 1) := by decide +kernel
theorem dX1_countFor_5 : decode cX1_countFor 5 = .ok (.dup2, 1) := by decide +kernel
theorem dX1_countFor_6 : decode cX1_countFor 6 = .ok (.iaload, 1) := by decide +kernel
theorem dX1_countFor_7 : decode cX1_countFor 7 = .ok (.iconst 1, 1) := by decide +kernel
theorem dX1_countFor_8 : decode cX1_countFor 8 = .ok (.iload_n 2, 1) := by decide +kernel
theorem dX1_countFor_9 : decode cX1_countFor 9 = .ok (.ishl, 1) := by decide +kernel
theorem dX1_countFor_10 : decode cX1_countFor 10 = .ok (.ior, 1) := by decide +kernel
theorem dX1_countFor_11 : decode cX1_countFor 11 = .ok (.iastore, 1) := by decide +kernel
theorem dX1_countFor_12 : decode cX1_countFor 12 = .ok (.aload_n 0, 1) := by decide +kernel
theorem dX1_countFor_13 : decode cX1_countFor 13 = .ok (.getfield 38, 3) := by decide +kernel
theorem dX1_countFor_16 : decode cX1_countFor 16 = .ok (.iload_n 1, 1) := by decide +kernel
theorem dX1_countFor_17 : decode cX1_countFor 17 = .ok (.dup2, 1) := by decide +kernel
theorem dX1_countFor_18 : decode cX1_countFor 18 = .ok (.iaload, 1) := by decide +kernel
theorem dX1_countFor_19 : decode cX1_countFor 19 = .ok (.iconst 1, 1) := by decide +kernel
theorem dX1_countFor_20 : decode cX1_countFor 20 = .ok (.iload_n 2, 1) := by decide +kernel
theorem dX1_countFor_21 : decode cX1_countFor 21 = .ok (.ishl, 1) := by decide +kernel
theorem dX1_countFor_22 : decode cX1_countFor 22 = .ok (.iconst (-1), 1) := by decide +kernel
theorem dX1_countFor_23 : decode cX1_countFor 23 = .ok (.ixor, 1) := by decide +kernel
theorem dX1_countFor_24 : decode cX1_countFor 24 = .ok (.iand, 1) := by decide +kernel
theorem dX1_countFor_25 : decode cX1_countFor 25 = .ok (.iastore, 1) := by decide +kernel
theorem dX1_countFor_26 : decode cX1_countFor 26 = .ok (.aload_n 0, 1) := by decide +kernel
theorem dX1_countFor_27 : decode cX1_countFor 27 = .ok (.aload_n 0, 1) := by decide +kernel
theorem dX1_countFor_28 : decode cX1_countFor 28 = .ok (.getfield 35, 3) := by decide +kernel
theorem dX1_countFor_31 : decode cX1_countFor 31 = .ok (.iload_n 1, 1) := by decide +kernel
theorem dX1_countFor_32 : decode cX1_countFor 32 = .ok (.iaload, 1) := by decide +kernel
theorem dX1_countFor_33 : decode cX1_countFor 33 = .ok (.invokevirtual 104, 3) := by decide +kernel
theorem dX1_countFor_36 : decode cX1_countFor 36 = .ok (.ireturn, 1) := by decide +kernel
theorem dX1_countAgainst_0 : decode cX1_countAgainst 0 = .ok (.aload_n 0, 1) := by decide +kernel
theorem dX1_countAgainst_1 : decode cX1_countAgainst 1 = .ok (.getfield 38, 3) := by decide +kernel
theorem dX1_countAgainst_4 : decode cX1_countAgainst 4 = .ok (.iload_n 1, 1) := by decide +kernel
theorem dX1_countAgainst_5 : decode cX1_countAgainst 5 = .ok (.dup2, 1) := by decide +kernel
theorem dX1_countAgainst_6 : decode cX1_countAgainst 6 = .ok (.iaload, 1) := by decide +kernel
theorem dX1_countAgainst_7 : decode cX1_countAgainst 7 = .ok (.iconst 1, 1) := by decide +kernel
theorem dX1_countAgainst_8 : decode cX1_countAgainst 8 = .ok (.iload_n 2, 1) := by decide +kernel
theorem dX1_countAgainst_9 : decode cX1_countAgainst 9 = .ok (.ishl, 1) := by decide +kernel
theorem dX1_countAgainst_10 : decode cX1_countAgainst 10 = .ok (.ior, 1) := by decide +kernel
theorem dX1_countAgainst_11 : decode cX1_countAgainst 11 = .ok (.iastore, 1) := by decide +kernel
theorem dX1_countAgainst_12 : decode cX1_countAgainst 12 = .ok (.aload_n 0, 1) := by decide +kernel
theorem dX1_countAgainst_13 : decode cX1_countAgainst 13 = .ok (.getfield 35, 3) := by decide +kernel
theorem dX1_countAgainst_16 : decode cX1_countAgainst 16 = .ok (.iload_n 1, 1) := by decide +kernel
theorem dX1_countAgainst_17 : decode cX1_countAgainst 17 = .ok (.dup2, 1) := by decide +kernel
theorem dX1_countAgainst_18 : decode cX1_countAgainst 18 = .ok (.iaload, 1) := by decide +kernel
theorem dX1_countAgainst_19 : decode cX1_countAgainst 19 = .ok (.iconst 1, 1) := by decide +kernel
theorem dX1_countAgainst_20 : decode cX1_countAgainst 20 = .ok (.iload_n 2, 1) := by decide +kernel
theorem dX1_countAgainst_21 : decode cX1_countAgainst 21 = .ok (.ishl, 1) := by decide +kernel
theorem dX1_countAgainst_22 : decode cX1_countAgainst 22 = .ok (.iconst (-1), 1) := by decide +kernel
theorem dX1_countAgainst_23 : decode cX1_countAgainst 23 = .ok (.ixor, 1) := by decide +kernel
theorem dX1_countAgainst_24 : decode cX1_countAgainst 24 = .ok (.iand, 1) := by decide +kernel
theorem dX1_countAgainst_25 : decode cX1_countAgainst 25 = .ok (.iastore, 1) := by decide +kernel
theorem dX1_countAgainst_26 : decode cX1_countAgainst 26 = .ok (.aload_n 0, 1) := by decide +kernel
theorem dX1_countAgainst_27 : decode cX1_countAgainst 27 = .ok (.aload_n 0, 1) := by decide +kernel
theorem dX1_countAgainst_28 : decode cX1_countAgainst 28 = .ok (.getfield 38, 3) := by decide +kernel
theorem dX1_countAgainst_31 : decode cX1_countAgainst 31 = .ok (.iload_n 1, 1) := by decide +kernel
theorem dX1_countAgainst_32 : decode cX1_countAgainst 32 = .ok (.iaload, 1) := by decide +kernel
theorem dX1_countAgainst_33 : decode cX1_countAgainst 33 = .ok (.invokevirtual 104, 3) := by decide +kernel
theorem dX1_countAgainst_36 : decode cX1_countAgainst 36 = .ok (.ireturn, 1) := by decide +kernel
theorem dX1_faultOfEndReading_0 : decode cX1_faultOfEndReading 0 = .ok (.aload_n 0, 1) := by decide +kernel
theorem dX1_faultOfEndReading_1 : decode cX1_faultOfEndReading 1 = .ok (.iload_n 1, 1) := by decide +kernel
theorem dX1_faultOfEndReading_2 : decode cX1_faultOfEndReading 2 = .ok (.invokevirtual 101, 3) := by decide +kernel
theorem dX1_faultOfEndReading_5 : decode cX1_faultOfEndReading 5 = .ok (.ifCond .ne 5, 3) := by decide +kernel
theorem dX1_faultOfEndReading_8 : decode cX1_faultOfEndReading 8 = .ok (.iconst 1, 1) := by decide +kernel
theorem dX1_faultOfEndReading_9 : decode cX1_faultOfEndReading 9 = .ok (.ireturn, 1) := by decide +kernel
theorem dX1_faultOfEndReading_10 : decode cX1_faultOfEndReading 10 = .ok (.aload_n 0, 1) := by decide +kernel
theorem dX1_faultOfEndReading_11 : decode cX1_faultOfEndReading 11 = .ok (.getfield 22, 3) := by decide +kernel
theorem dX1_faultOfEndReading_14 : decode cX1_faultOfEndReading 14 = .ok (.iload_n 1, 1) := by decide +kernel
theorem dX1_faultOfEndReading_15 : decode cX1_faultOfEndReading 15 = .ok (.iaload, 1) := by decide +kernel
theorem dX1_faultOfEndReading_16 : decode cX1_faultOfEndReading 16 = .ok (.ifCond .eq 5, 3) := by decide +kernel
theorem dX1_faultOfEndReading_19 : decode cX1_faultOfEndReading 19 = .ok (.iconst 3, 1) := by decide +kernel
theorem dX1_faultOfEndReading_20 : decode cX1_faultOfEndReading 20 = .ok (.ireturn, 1) := by decide +kernel
theorem dX1_faultOfEndReading_21 : decode cX1_faultOfEndReading 21 = .ok (.aload_n 0, 1) := by decide +kernel
theorem dX1_faultOfEndReading_22 : decode cX1_faultOfEndReading 22 = .ok (.invokevirtual 107, 3) := by decide +kernel
theorem dX1_faultOfEndReading_25 : decode cX1_faultOfEndReading 25 = .ok (.ifCond .eq 16, 3) := by decide +kernel
theorem dX1_faultOfEndReading_28 : decode cX1_faultOfEndReading 28 = .ok (.aload_n 0, 1) := by decide +kernel
theorem dX1_faultOfEndReading_29 : decode cX1_faultOfEndReading 29 = .ok (.getfield 41, 3) := by decide +kernel
theorem dX1_faultOfEndReading_32 : decode cX1_faultOfEndReading 32 = .ok (.iload_n 1, 1) := by decide +kernel
theorem dX1_faultOfEndReading_33 : decode cX1_faultOfEndReading 33 = .ok (.iaload, 1) := by decide +kernel
theorem dX1_faultOfEndReading_34 : decode cX1_faultOfEndReading 34 = .ok (.ifCond .ne 7, 3) := by decide +kernel
theorem dX1_faultOfEndReading_37 : decode cX1_faultOfEndReading 37 = .ok (.iconst 0, 1) := by decide +kernel
theorem dX1_faultOfEndReading_38 : decode cX1_faultOfEndReading 38 = .ok (.goto 4, 3) := by decide +kernel
theorem dX1_faultOfEndReading_41 : decode cX1_faultOfEndReading 41 = .ok (.iconst 5, 1) := by decide +kernel
theorem dX1_faultOfEndReading_42 : decode cX1_faultOfEndReading 42 = .ok (.ireturn, 1) := by decide +kernel
theorem dX1_endReading_0 : decode cX1_endReading 0 = .ok (.aload_n 0, 1) := by decide +kernel
theorem dX1_endReading_1 : decode cX1_endReading 1 = .ok (.aload_n 0, 1) := by decide +kernel
theorem dX1_endReading_2 : decode cX1_endReading 2 = .ok (.getfield 35, 3) := by decide +kernel
theorem dX1_endReading_5 : decode cX1_endReading 5 = .ok (.iload_n 1, 1) := by decide +kernel
theorem dX1_endReading_6 : decode cX1_endReading 6 = .ok (.iaload, 1) := by decide +kernel
theorem dX1_endReading_7 : decode cX1_endReading 7 = .ok (.invokevirtual 104, 3) := by decide +kernel
theorem dX1_endReading_10 : decode cX1_endReading 10 = .ok (.aload_n 0, 1) := by decide +kernel
theorem dX1_endReading_11 : decode cX1_endReading 11 = .ok (.aload_n 0, 1) := by decide +kernel
theorem dX1_endReading_12 : decode cX1_endReading 12 = .ok (.getfield 38, 3) := by decide +kernel
theorem dX1_endReading_15 : decode cX1_endReading 15 = .ok (.iload_n 1, 1) := by decide +kernel
theorem dX1_endReading_16 : decode cX1_endReading 16 = .ok (.iaload, 1) := by decide +kernel
theorem dX1_endReading_17 : decode cX1_endReading 17 = .ok (.invokevirtual 104, 3) := by decide +kernel
theorem dX1_endReading_20 : decode cX1_endReading 20 = .ok (.if_icmp .le 7, 3) := by decide +kernel
theorem dX1_endReading_23 : decode cX1_endReading 23 = .ok (.iconst 1, 1) := by decide +kernel
theorem dX1_endReading_24 : decode cX1_endReading 24 = .ok (.goto 4, 3) := by decide +kernel
theorem dX1_endReading_27 : decode cX1_endReading 27 = .ok (.iconst 0, 1) := by decide +kernel
theorem dX1_endReading_28 : decode cX1_endReading 28 = .ok (.istore_n 2, 1) := by decide +kernel
theorem dX1_endReading_29 : decode cX1_endReading 29 = .ok (.aload_n 0, 1) := by decide +kernel
theorem dX1_endReading_30 : decode cX1_endReading 30 = .ok (.getfield 35, 3) := by decide +kernel
theorem dX1_endReading_33 : decode cX1_endReading 33 = .ok (.iload_n 1, 1) := by decide +kernel
theorem dX1_endReading_34 : decode cX1_endReading 34 = .ok (.iconst 0, 1) := by decide +kernel
theorem dX1_endReading_35 : decode cX1_endReading 35 = .ok (.iastore, 1) := by decide +kernel
theorem dX1_endReading_36 : decode cX1_endReading 36 = .ok (.aload_n 0, 1) := by decide +kernel
theorem dX1_endReading_37 : decode cX1_endReading 37 = .ok (.getfield 38, 3) := by decide +kernel
theorem dX1_endReading_40 : decode cX1_endReading 40 = .ok (.iload_n 1, 1) := by decide +kernel
theorem dX1_endReading_41 : decode cX1_endReading 41 = .ok (.iconst 0, 1) := by decide +kernel
theorem dX1_endReading_42 : decode cX1_endReading 42 = .ok (.iastore, 1) := by decide +kernel
theorem dX1_endReading_43 : decode cX1_endReading 43 = .ok (.iload_n 2, 1) := by decide +kernel
theorem dX1_endReading_44 : decode cX1_endReading 44 = .ok (.ifCond .ne 11, 3) := by decide +kernel
theorem dX1_endReading_47 : decode cX1_endReading 47 = .ok (.aload_n 0, 1) := by decide +kernel
theorem dX1_endReading_48 : decode cX1_endReading 48 = .ok (.iload_n 1, 1) := by decide +kernel
theorem dX1_endReading_49 : decode cX1_endReading 49 = .ok (.iconst 2, 1) := by decide +kernel
theorem dX1_endReading_50 : decode cX1_endReading 50 = .ok (.invokevirtual 111, 3) := by decide +kernel
theorem dX1_endReading_53 : decode cX1_endReading 53 = .ok (.iconst 0, 1) := by decide +kernel
theorem dX1_endReading_54 : decode cX1_endReading 54 = .ok (.ireturn, 1) := by decide +kernel
theorem dX1_endReading_55 : decode cX1_endReading 55 = .ok (.aload_n 0, 1) := by decide +kernel
theorem dX1_endReading_56 : decode cX1_endReading 56 = .ok (.getfield 25, 3) := by decide +kernel
theorem dX1_endReading_59 : decode cX1_endReading 59 = .ok (.iload_n 1, 1) := by decide +kernel
theorem dX1_endReading_60 : decode cX1_endReading 60 = .ok (.dup2, 1) := by decide +kernel
theorem dX1_endReading_61 : decode cX1_endReading 61 = .ok (.iaload, 1) := by decide +kernel
theorem dX1_endReading_62 : decode cX1_endReading 62 = .ok (.iconst 1, 1) := by decide +kernel
theorem dX1_endReading_63 : decode cX1_endReading 63 = .ok (.iadd, 1) := by decide +kernel
theorem dX1_endReading_64 : decode cX1_endReading 64 = .ok (.iastore, 1) := by decide +kernel
theorem dX1_endReading_65 : decode cX1_endReading 65 = .ok (.aload_n 0, 1) := by decide +kernel
theorem dX1_endReading_66 : decode cX1_endReading 66 = .ok (.getfield 25, 3) := by decide +kernel
theorem dX1_endReading_69 : decode cX1_endReading 69 = .ok (.iload_n 1, 1) := by decide +kernel
theorem dX1_endReading_70 : decode cX1_endReading 70 = .ok (.iaload, 1) := by decide +kernel
theorem dX1_endReading_71 : decode cX1_endReading 71 = .ok (.iconst 3, 1) := by decide +kernel
theorem dX1_endReading_72 : decode cX1_endReading 72 = .ok (.if_icmp .lt 9, 3) := by decide +kernel
theorem dX1_endReading_75 : decode cX1_endReading 75 = .ok (.aload_n 0, 1) := by decide +kernel
theorem dX1_endReading_76 : decode cX1_endReading 76 = .ok (.iload_n 1, 1) := by decide +kernel
theorem dX1_endReading_77 : decode cX1_endReading 77 = .ok (.iconst 1, 1) := by decide +kernel
theorem dX1_endReading_78 : decode cX1_endReading 78 = .ok (.invokevirtual 111, 3) := by decide +kernel
theorem dX1_endReading_81 : decode cX1_endReading 81 = .ok (.iconst 1, 1) := by decide +kernel
theorem dX1_endReading_82 : decode cX1_endReading 82 = .ok (.ireturn, 1) := by decide +kernel
theorem dX1_finish_0 : decode cX1_finish 0 = .ok (.aload_n 0, 1) := by decide +kernel
theorem dX1_finish_1 : decode cX1_finish 1 = .ok (.getfield 22, 3) := by decide +kernel
theorem dX1_finish_4 : decode cX1_finish 4 = .ok (.iload_n 1, 1) := by decide +kernel
theorem dX1_finish_5 : decode cX1_finish 5 = .ok (.iload_n 2, 1) := by decide +kernel
theorem dX1_finish_6 : decode cX1_finish 6 = .ok (.iastore, 1) := by decide +kernel
theorem dX1_finish_7 : decode cX1_finish 7 = .ok (.aload_n 0, 1) := by decide +kernel
theorem dX1_finish_8 : decode cX1_finish 8 = .ok (.getfield 35, 3) := by decide +kernel
theorem dX1_finish_11 : decode cX1_finish 11 = .ok (.iload_n 1, 1) := by decide +kernel
theorem dX1_finish_12 : decode cX1_finish 12 = .ok (.iconst 0, 1) := by decide +kernel
theorem dX1_finish_13 : decode cX1_finish 13 = .ok (.iastore, 1) := by decide +kernel
theorem dX1_finish_14 : decode cX1_finish 14 = .ok (.aload_n 0, 1) := by decide +kernel
theorem dX1_finish_15 : decode cX1_finish 15 = .ok (.getfield 38, 3) := by decide +kernel
theorem dX1_finish_18 : decode cX1_finish 18 = .ok (.iload_n 1, 1) := by decide +kernel
theorem dX1_finish_19 : decode cX1_finish 19 = .ok (.iconst 0, 1) := by decide +kernel
theorem dX1_finish_20 : decode cX1_finish 20 = .ok (.iastore, 1) := by decide +kernel
theorem dX1_finish_21 : decode cX1_finish 21 = .ok (.aload_n 0, 1) := by decide +kernel
theorem dX1_finish_22 : decode cX1_finish 22 = .ok (.getfield 41, 3) := by decide +kernel
theorem dX1_finish_25 : decode cX1_finish 25 = .ok (.iload_n 1, 1) := by decide +kernel
theorem dX1_finish_26 : decode cX1_finish 26 = .ok (.iconst 0, 1) := by decide +kernel
theorem dX1_finish_27 : decode cX1_finish 27 = .ok (.iastore, 1) := by decide +kernel
theorem dX1_finish_28 : decode cX1_finish 28 = .ok (.return_, 1) := by decide +kernel
theorem dX1_faultOfMove_0 : decode cX1_faultOfMove 0 = .ok (.aload_n 0, 1) := by decide +kernel
theorem dX1_faultOfMove_1 : decode cX1_faultOfMove 1 = .ok (.iload_n 1, 1) := by decide +kernel
theorem dX1_faultOfMove_2 : decode cX1_faultOfMove 2 = .ok (.invokevirtual 101, 3) := by decide +kernel
theorem dX1_faultOfMove_5 : decode cX1_faultOfMove 5 = .ok (.ifCond .eq 18, 3) := by decide +kernel
theorem dX1_faultOfMove_8 : decode cX1_faultOfMove 8 = .ok (.aload_n 0, 1) := by decide +kernel
theorem dX1_faultOfMove_9 : decode cX1_faultOfMove 9 = .ok (.iload_n 2, 1) := by decide +kernel
theorem dX1_faultOfMove_10 : decode cX1_faultOfMove 10 = .ok (.invokevirtual 93, 3) := by decide +kernel
theorem dX1_faultOfMove_13 : decode cX1_faultOfMove 13 = .ok (.ifCond .eq 10, 3) := by decide +kernel
theorem dX1_faultOfMove_16 : decode cX1_faultOfMove 16 = .ok (.iload_n 3, 1) := by decide +kernel
theorem dX1_faultOfMove_17 : decode cX1_faultOfMove 17 = .ok (.invokestatic 96, 3) := by decide +kernel
theorem dX1_faultOfMove_20 : decode cX1_faultOfMove 20 = .ok (.ifCond .ne 5, 3) := by decide +kernel
theorem dX1_faultOfMove_23 : decode cX1_faultOfMove 23 = .ok (.iconst 1, 1) := by decide +kernel
theorem dX1_faultOfMove_24 : decode cX1_faultOfMove 24 = .ok (.ireturn, 1) := by decide +kernel
theorem dX1_faultOfMove_25 : decode cX1_faultOfMove 25 = .ok (.aload_n 0, 1) := by decide +kernel
theorem dX1_faultOfMove_26 : decode cX1_faultOfMove 26 = .ok (.getfield 22, 3) := by decide +kernel
theorem dX1_faultOfMove_29 : decode cX1_faultOfMove 29 = .ok (.iload_n 1, 1) := by decide +kernel
theorem dX1_faultOfMove_30 : decode cX1_faultOfMove 30 = .ok (.iaload, 1) := by decide +kernel
theorem dX1_faultOfMove_31 : decode cX1_faultOfMove 31 = .ok (.ifCond .ne 13, 3) := by decide +kernel
theorem dX1_faultOfMove_34 : decode cX1_faultOfMove 34 = .ok (.aload_n 0, 1) := by decide +kernel
theorem dX1_faultOfMove_35 : decode cX1_faultOfMove 35 = .ok (.getfield 41, 3) := by decide +kernel
theorem dX1_faultOfMove_38 : decode cX1_faultOfMove 38 = .ok (.iload_n 1, 1) := by decide +kernel
theorem dX1_faultOfMove_39 : decode cX1_faultOfMove 39 = .ok (.iaload, 1) := by decide +kernel
theorem dX1_faultOfMove_40 : decode cX1_faultOfMove 40 = .ok (.iconst 4, 1) := by decide +kernel
theorem dX1_faultOfMove_41 : decode cX1_faultOfMove 41 = .ok (.if_icmp .lt 5, 3) := by decide +kernel
theorem dX1_faultOfMove_44 : decode cX1_faultOfMove 44 = .ok (.iconst 3, 1) := by decide +kernel
theorem dX1_faultOfMove_45 : decode cX1_faultOfMove 45 = .ok (.ireturn, 1) := by decide +kernel
theorem dX1_faultOfMove_46 : decode cX1_faultOfMove 46 = .ok (.aload_n 0, 1) := by decide +kernel
theorem dX1_faultOfMove_47 : decode cX1_faultOfMove 47 = .ok (.iload_n 2, 1) := by decide +kernel
theorem dX1_faultOfMove_48 : decode cX1_faultOfMove 48 = .ok (.invokevirtual 79, 3) := by decide +kernel
theorem dX1_faultOfMove_51 : decode cX1_faultOfMove 51 = .ok (.ifCond .eq 7, 3) := by decide +kernel
theorem dX1_faultOfMove_54 : decode cX1_faultOfMove 54 = .ok (.iconst 0, 1) := by decide +kernel
theorem dX1_faultOfMove_55 : decode cX1_faultOfMove 55 = .ok (.goto 4, 3) := by decide +kernel
theorem dX1_faultOfMove_58 : decode cX1_faultOfMove 58 = .ok (.iconst 5, 1) := by decide +kernel
theorem dX1_faultOfMove_59 : decode cX1_faultOfMove 59 = .ok (.ireturn, 1) := by decide +kernel
theorem dX1_move_0 : decode cX1_move 0 = .ok (.aload_n 0, 1) := by decide +kernel
theorem dX1_move_1 : decode cX1_move 1 = .ok (.getfield 41, 3) := by decide +kernel
theorem dX1_move_4 : decode cX1_move 4 = .ok (.iload_n 1, 1) := by decide +kernel
theorem dX1_move_5 : decode cX1_move 5 = .ok (.iaload, 1) := by decide +kernel
theorem dX1_move_6 : decode cX1_move 6 = .ok (.istore 4, 2) := by decide +kernel
theorem dX1_move_8 : decode cX1_move 8 = .ok (.aload_n 0, 1) := by decide +kernel
theorem dX1_move_9 : decode cX1_move 9 = .ok (.getfield 46, 3) := by decide +kernel
theorem dX1_move_12 : decode cX1_move 12 = .ok (.iload_n 1, 1) := by decide +kernel
theorem dX1_move_13 : decode cX1_move 13 = .ok (.aaload, 1) := by decide +kernel
theorem dX1_move_14 : decode cX1_move 14 = .ok (.iload 4, 2) := by decide +kernel
theorem dX1_move_16 : decode cX1_move 16 = .ok (.iload_n 3, 1) := by decide +kernel
theorem dX1_move_17 : decode cX1_move 17 = .ok (.iastore, 1) := by decide +kernel
theorem dX1_move_18 : decode cX1_move 18 = .ok (.aload_n 0, 1) := by decide +kernel
theorem dX1_move_19 : decode cX1_move 19 = .ok (.getfield 49, 3) := by decide +kernel
theorem dX1_move_22 : decode cX1_move 22 = .ok (.iload_n 1, 1) := by decide +kernel
theorem dX1_move_23 : decode cX1_move 23 = .ok (.aaload, 1) := by decide +kernel
theorem dX1_move_24 : decode cX1_move 24 = .ok (.iload 4, 2) := by decide +kernel
theorem dX1_move_26 : decode cX1_move 26 = .ok (.iconst 1, 1) := by decide +kernel
theorem dX1_move_27 : decode cX1_move 27 = .ok (.iload_n 2, 1) := by decide +kernel
theorem dX1_move_28 : decode cX1_move 28 = .ok (.ishl, 1) := by decide +kernel
theorem dX1_move_29 : decode cX1_move 29 = .ok (.iastore, 1) := by decide +kernel
theorem dX1_move_30 : decode cX1_move 30 = .ok (.aload_n 0, 1) := by decide +kernel
theorem dX1_move_31 : decode cX1_move 31 = .ok (.getfield 41, 3) := by decide +kernel
theorem dX1_move_34 : decode cX1_move 34 = .ok (.iload_n 1, 1) := by decide +kernel
theorem dX1_move_35 : decode cX1_move 35 = .ok (.dup2, 1) := by decide +kernel
theorem dX1_move_36 : decode cX1_move 36 = .ok (.iaload, 1) := by decide +kernel
theorem dX1_move_37 : decode cX1_move 37 = .ok (.iconst 1, 1) := by decide +kernel
theorem dX1_move_38 : decode cX1_move 38 = .ok (.iadd, 1) := by decide +kernel
theorem dX1_move_39 : decode cX1_move 39 = .ok (.iastore, 1) := by decide +kernel
theorem dX1_move_40 : decode cX1_move 40 = .ok (.iload 4, 2) := by decide +kernel
theorem dX1_move_42 : decode cX1_move 42 = .ok (.ireturn, 1) := by decide +kernel
theorem dX1_faultOfSecond_0 : decode cX1_faultOfSecond 0 = .ok (.aload_n 0, 1) := by decide +kernel
theorem dX1_faultOfSecond_1 : decode cX1_faultOfSecond 1 = .ok (.iload_n 1, 1) := by decide +kernel
theorem dX1_faultOfSecond_2 : decode cX1_faultOfSecond 2 = .ok (.invokevirtual 101, 3) := by decide +kernel
theorem dX1_faultOfSecond_5 : decode cX1_faultOfSecond 5 = .ok (.ifCond .eq 11, 3) := by decide +kernel
theorem dX1_faultOfSecond_8 : decode cX1_faultOfSecond 8 = .ok (.aload_n 0, 1) := by decide +kernel
theorem dX1_faultOfSecond_9 : decode cX1_faultOfSecond 9 = .ok (.iload_n 3, 1) := by decide +kernel
theorem dX1_faultOfSecond_10 : decode cX1_faultOfSecond 10 = .ok (.invokevirtual 93, 3) := by decide +kernel
theorem dX1_faultOfSecond_13 : decode cX1_faultOfSecond 13 = .ok (.ifCond .ne 5, 3) := by decide +kernel
theorem dX1_faultOfSecond_16 : decode cX1_faultOfSecond 16 = .ok (.iconst 1, 1) := by decide +kernel
theorem dX1_faultOfSecond_17 : decode cX1_faultOfSecond 17 = .ok (.ireturn, 1) := by decide +kernel
theorem dX1_faultOfSecond_18 : decode cX1_faultOfSecond 18 = .ok (.aload_n 0, 1) := by decide +kernel
theorem dX1_faultOfSecond_19 : decode cX1_faultOfSecond 19 = .ok (.getfield 22, 3) := by decide +kernel
theorem dX1_faultOfSecond_22 : decode cX1_faultOfSecond 22 = .ok (.iload_n 1, 1) := by decide +kernel
theorem dX1_faultOfSecond_23 : decode cX1_faultOfSecond 23 = .ok (.iaload, 1) := by decide +kernel
theorem dX1_faultOfSecond_24 : decode cX1_faultOfSecond 24 = .ok (.ifCond .eq 5, 3) := by decide +kernel
theorem dX1_faultOfSecond_27 : decode cX1_faultOfSecond 27 = .ok (.iconst 3, 1) := by decide +kernel
theorem dX1_faultOfSecond_28 : decode cX1_faultOfSecond 28 = .ok (.ireturn, 1) := by decide +kernel
theorem dX1_faultOfSecond_29 : decode cX1_faultOfSecond 29 = .ok (.aload_n 0, 1) := by decide +kernel
theorem dX1_faultOfSecond_30 : decode cX1_faultOfSecond 30 = .ok (.iload_n 1, 1) := by decide +kernel
theorem dX1_faultOfSecond_31 : decode cX1_faultOfSecond 31 = .ok (.iload_n 2, 1) := by decide +kernel
theorem dX1_faultOfSecond_32 : decode cX1_faultOfSecond 32 = .ok (.invokevirtual 115, 3) := by decide +kernel
theorem dX1_faultOfSecond_35 : decode cX1_faultOfSecond 35 = .ok (.ifCond .ne 5, 3) := by decide +kernel
theorem dX1_faultOfSecond_38 : decode cX1_faultOfSecond 38 = .ok (.iconst 4, 1) := by decide +kernel
theorem dX1_faultOfSecond_39 : decode cX1_faultOfSecond 39 = .ok (.ireturn, 1) := by decide +kernel
theorem dX1_faultOfSecond_40 : decode cX1_faultOfSecond 40 = .ok (.aload_n 0, 1) := by decide +kernel
theorem dX1_faultOfSecond_41 : decode cX1_faultOfSecond 41 = .ok (.iload_n 3, 1) := by decide +kernel
theorem dX1_faultOfSecond_42 : decode cX1_faultOfSecond 42 = .ok (.invokevirtual 79, 3) := by decide +kernel
theorem dX1_faultOfSecond_45 : decode cX1_faultOfSecond 45 = .ok (.ifCond .eq 7, 3) := by decide +kernel
theorem dX1_faultOfSecond_48 : decode cX1_faultOfSecond 48 = .ok (.iconst 0, 1) := by decide +kernel
theorem dX1_faultOfSecond_49 : decode cX1_faultOfSecond 49 = .ok (.goto 4, 3) := by decide +kernel
theorem dX1_faultOfSecond_52 : decode cX1_faultOfSecond 52 = .ok (.iconst 5, 1) := by decide +kernel
theorem dX1_faultOfSecond_53 : decode cX1_faultOfSecond 53 = .ok (.ireturn, 1) := by decide +kernel
theorem dX1_second_0 : decode cX1_second 0 = .ok (.aload_n 0, 1) := by decide +kernel
theorem dX1_second_1 : decode cX1_second 1 = .ok (.getfield 49, 3) := by decide +kernel
theorem dX1_second_4 : decode cX1_second 4 = .ok (.iload_n 1, 1) := by decide +kernel
theorem dX1_second_5 : decode cX1_second 5 = .ok (.aaload, 1) := by decide +kernel
theorem dX1_second_6 : decode cX1_second 6 = .ok (.iload_n 2, 1) := by decide +kernel
theorem dX1_second_7 : decode cX1_second 7 = .ok (.dup2, 1) := by decide +kernel
theorem dX1_second_8 : decode cX1_second 8 = .ok (.iaload, 1) := by decide +kernel
theorem dX1_second_9 : decode cX1_second 9 = .ok (.iconst 1, 1) := by decide +kernel
theorem dX1_second_10 : decode cX1_second 10 = .ok (.iload_n 3, 1) := by decide +kernel
theorem dX1_second_11 : decode cX1_second 11 = .ok (.ishl, 1) := by decide +kernel
theorem dX1_second_12 : decode cX1_second 12 = .ok (.ior, 1) := by decide +kernel
theorem dX1_second_13 : decode cX1_second 13 = .ok (.iastore, 1) := by decide +kernel
theorem dX1_second_14 : decode cX1_second 14 = .ok (.aload_n 0, 1) := by decide +kernel
theorem dX1_second_15 : decode cX1_second 15 = .ok (.aload_n 0, 1) := by decide +kernel
theorem dX1_second_16 : decode cX1_second 16 = .ok (.getfield 49, 3) := by decide +kernel
theorem dX1_second_19 : decode cX1_second 19 = .ok (.iload_n 1, 1) := by decide +kernel
theorem dX1_second_20 : decode cX1_second 20 = .ok (.aaload, 1) := by decide +kernel
theorem dX1_second_21 : decode cX1_second 21 = .ok (.iload_n 2, 1) := by decide +kernel
theorem dX1_second_22 : decode cX1_second 22 = .ok (.iaload, 1) := by decide +kernel
theorem dX1_second_23 : decode cX1_second 23 = .ok (.invokevirtual 104, 3) := by decide +kernel
theorem dX1_second_26 : decode cX1_second 26 = .ok (.ireturn, 1) := by decide +kernel
theorem dX1_faultOfDecideFirst_0 : decode cX1_faultOfDecideFirst 0 = .ok (.aload_n 0, 1) := by decide +kernel
theorem dX1_faultOfDecideFirst_1 : decode cX1_faultOfDecideFirst 1 = .ok (.iload_n 1, 1) := by decide +kernel
theorem dX1_faultOfDecideFirst_2 : decode cX1_faultOfDecideFirst 2 = .ok (.invokevirtual 101, 3) := by decide +kernel
theorem dX1_faultOfDecideFirst_5 : decode cX1_faultOfDecideFirst 5 = .ok (.ifCond .ne 5, 3) := by decide +kernel
theorem dX1_faultOfDecideFirst_8 : decode cX1_faultOfDecideFirst 8 = .ok (.iconst 1, 1) := by decide +kernel
theorem dX1_faultOfDecideFirst_9 : decode cX1_faultOfDecideFirst 9 = .ok (.ireturn, 1) := by decide +kernel
theorem dX1_faultOfDecideFirst_10 : decode cX1_faultOfDecideFirst 10 = .ok (.aload_n 0, 1) := by decide +kernel
theorem dX1_faultOfDecideFirst_11 : decode cX1_faultOfDecideFirst 11 = .ok (.getfield 22, 3) := by decide +kernel
theorem dX1_faultOfDecideFirst_14 : decode cX1_faultOfDecideFirst 14 = .ok (.iload_n 1, 1) := by decide +kernel
theorem dX1_faultOfDecideFirst_15 : decode cX1_faultOfDecideFirst 15 = .ok (.iaload, 1) := by decide +kernel
theorem dX1_faultOfDecideFirst_16 : decode cX1_faultOfDecideFirst 16 = .ok (.ifCond .eq 5, 3) := by decide +kernel
theorem dX1_faultOfDecideFirst_19 : decode cX1_faultOfDecideFirst 19 = .ok (.iconst 3, 1) := by decide +kernel
theorem dX1_faultOfDecideFirst_20 : decode cX1_faultOfDecideFirst 20 = .ok (.ireturn, 1) := by decide +kernel
theorem dX1_faultOfDecideFirst_21 : decode cX1_faultOfDecideFirst 21 = .ok (.aload_n 0, 1) := by decide +kernel
theorem dX1_faultOfDecideFirst_22 : decode cX1_faultOfDecideFirst 22 = .ok (.getfield 41, 3) := by decide +kernel
theorem dX1_faultOfDecideFirst_25 : decode cX1_faultOfDecideFirst 25 = .ok (.iload_n 1, 1) := by decide +kernel
theorem dX1_faultOfDecideFirst_26 : decode cX1_faultOfDecideFirst 26 = .ok (.iaload, 1) := by decide +kernel
theorem dX1_faultOfDecideFirst_27 : decode cX1_faultOfDecideFirst 27 = .ok (.ifCond .ne 5, 3) := by decide +kernel
theorem dX1_faultOfDecideFirst_30 : decode cX1_faultOfDecideFirst 30 = .ok (.iconst 4, 1) := by decide +kernel
theorem dX1_faultOfDecideFirst_31 : decode cX1_faultOfDecideFirst 31 = .ok (.ireturn, 1) := by decide +kernel
theorem dX1_faultOfDecideFirst_32 : decode cX1_faultOfDecideFirst 32 = .ok (.aload_n 0, 1) := by decide +kernel
theorem dX1_faultOfDecideFirst_33 : decode cX1_faultOfDecideFirst 33 = .ok (.invokevirtual 107, 3) := by decide +kernel
theorem dX1_faultOfDecideFirst_36 : decode cX1_faultOfDecideFirst 36 = .ok (.ifCond .eq 7, 3) := by decide +kernel
theorem dX1_faultOfDecideFirst_39 : decode cX1_faultOfDecideFirst 39 = .ok (.iconst 0, 1) := by decide +kernel
theorem dX1_faultOfDecideFirst_40 : decode cX1_faultOfDecideFirst 40 = .ok (.goto 4, 3) := by decide +kernel
theorem dX1_faultOfDecideFirst_43 : decode cX1_faultOfDecideFirst 43 = .ok (.iconst 5, 1) := by decide +kernel
theorem dX1_faultOfDecideFirst_44 : decode cX1_faultOfDecideFirst 44 = .ok (.ireturn, 1) := by decide +kernel
theorem dX1_decideFirst_0 : decode cX1_decideFirst 0 = .ok (.iconst 2, 1) := by decide +kernel
theorem dX1_decideFirst_1 : decode cX1_decideFirst 1 = .ok (.aload_n 0, 1) := by decide +kernel
theorem dX1_decideFirst_2 : decode cX1_decideFirst 2 = .ok (.aload_n 0, 1) := by decide +kernel
theorem dX1_decideFirst_3 : decode cX1_decideFirst 3 = .ok (.getfield 49, 3) := by decide +kernel
theorem dX1_decideFirst_6 : decode cX1_decideFirst 6 = .ok (.iload_n 1, 1) := by decide +kernel
theorem dX1_decideFirst_7 : decode cX1_decideFirst 7 = .ok (.aaload, 1) := by decide +kernel
theorem dX1_decideFirst_8 : decode cX1_decideFirst 8 = .ok (.iconst 0, 1) := by decide +kernel
theorem dX1_decideFirst_9 : decode cX1_decideFirst 9 = .ok (.iaload, 1) := by decide +kernel
theorem dX1_decideFirst_10 : decode cX1_decideFirst 10 = .ok (.invokevirtual 104, 3) := by decide +kernel
theorem dX1_decideFirst_13 : decode cX1_decideFirst 13 = .ok (.imul, 1) := by decide +kernel
theorem dX1_decideFirst_14 : decode cX1_decideFirst 14 = .ok (.aload_n 0, 1) := by decide +kernel
theorem dX1_decideFirst_15 : decode cX1_decideFirst 15 = .ok (.aload_n 0, 1) := by decide +kernel
theorem dX1_decideFirst_16 : decode cX1_decideFirst 16 = .ok (.getfield 61, 3) := by decide +kernel
theorem dX1_decideFirst_19 : decode cX1_decideFirst 19 = .ok (.invokevirtual 104, 3) := by decide +kernel
theorem dX1_decideFirst_22 : decode cX1_decideFirst 22 = .ok (.if_icmp .le 7, 3) := by decide +kernel
theorem dX1_decideFirst_25 : decode cX1_decideFirst 25 = .ok (.iconst 1, 1) := by decide +kernel
theorem dX1_decideFirst_26 : decode cX1_decideFirst 26 = .ok (.goto 4, 3) := by decide +kernel
theorem dX1_decideFirst_29 : decode cX1_decideFirst 29 = .ok (.iconst 0, 1) := by decide +kernel
theorem dX1_decideFirst_30 : decode cX1_decideFirst 30 = .ok (.istore_n 2, 1) := by decide +kernel
theorem dX1_decideFirst_31 : decode cX1_decideFirst 31 = .ok (.iload_n 2, 1) := by decide +kernel
theorem dX1_decideFirst_32 : decode cX1_decideFirst 32 = .ok (.ifCond .eq 32, 3) := by decide +kernel
theorem dX1_decideFirst_35 : decode cX1_decideFirst 35 = .ok (.aload_n 0, 1) := by decide +kernel
theorem dX1_decideFirst_36 : decode cX1_decideFirst 36 = .ok (.getfield 28, 3) := by decide +kernel
theorem dX1_decideFirst_39 : decode cX1_decideFirst 39 = .ok (.iload_n 1, 1) := by decide +kernel
theorem dX1_decideFirst_40 : decode cX1_decideFirst 40 = .ok (.dup2, 1) := by decide +kernel
theorem dX1_decideFirst_41 : decode cX1_decideFirst 41 = .ok (.laload, 1) := by decide +kernel
theorem dX1_decideFirst_42 : decode cX1_decideFirst 42 = .ok (.lconst 1, 1) := by decide +kernel
theorem dX1_decideFirst_43 : decode cX1_decideFirst 43 = .ok (.aload_n 0, 1) := by decide +kernel
theorem dX1_decideFirst_44 : decode cX1_decideFirst 44 = .ok (.getfield 46, 3) := by decide +kernel
theorem dX1_decideFirst_47 : decode cX1_decideFirst 47 = .ok (.iload_n 1, 1) := by decide +kernel
theorem dX1_decideFirst_48 : decode cX1_decideFirst 48 = .ok (.aaload, 1) := by decide +kernel
theorem dX1_decideFirst_49 : decode cX1_decideFirst 49 = .ok (.iconst 0, 1) := by decide +kernel
theorem dX1_decideFirst_50 : decode cX1_decideFirst 50 = .ok (.iaload, 1) := by decide +kernel
theorem dX1_decideFirst_51 : decode cX1_decideFirst 51 = .ok (.lshl, 1) := by decide +kernel
theorem dX1_decideFirst_52 : decode cX1_decideFirst 52 = .ok (.lxor, 1) := by decide +kernel
theorem dX1_decideFirst_53 : decode cX1_decideFirst 53 = .ok (.lastore, 1) := by decide +kernel
theorem dX1_decideFirst_54 : decode cX1_decideFirst 54 = .ok (.aload_n 0, 1) := by decide +kernel
theorem dX1_decideFirst_55 : decode cX1_decideFirst 55 = .ok (.dup, 1) := by decide +kernel
theorem dX1_decideFirst_56 : decode cX1_decideFirst 56 = .ok (.getfield 67, 3) := by decide +kernel
theorem dX1_decideFirst_59 : decode cX1_decideFirst 59 = .ok (.iconst 1, 1) := by decide +kernel
theorem dX1_decideFirst_60 : decode cX1_decideFirst 60 = .ok (.iadd, 1) := by decide +kernel
theorem dX1_decideFirst_61 : decode cX1_decideFirst 61 = .ok (.putfield 67, 3) := by decide +kernel
theorem dX1_decideFirst_64 : decode cX1_decideFirst 64 = .ok (.aload_n 0, 1) := by decide +kernel
theorem dX1_decideFirst_65 : decode cX1_decideFirst 65 = .ok (.getfield 41, 3) := by decide +kernel
theorem dX1_decideFirst_68 : decode cX1_decideFirst 68 = .ok (.iload_n 1, 1) := by decide +kernel
theorem dX1_decideFirst_69 : decode cX1_decideFirst 69 = .ok (.dup2, 1) := by decide +kernel
theorem dX1_decideFirst_70 : decode cX1_decideFirst 70 = .ok (.iaload, 1) := by decide +kernel
theorem dX1_decideFirst_71 : decode cX1_decideFirst 71 = .ok (.iconst 1, 1) := by decide +kernel
theorem dX1_decideFirst_72 : decode cX1_decideFirst 72 = .ok (.isub, 1) := by decide +kernel
theorem dX1_decideFirst_73 : decode cX1_decideFirst 73 = .ok (.iastore, 1) := by decide +kernel
theorem dX1_decideFirst_74 : decode cX1_decideFirst 74 = .ok (.iconst 1, 1) := by decide +kernel
theorem dX1_decideFirst_75 : decode cX1_decideFirst 75 = .ok (.istore_n 3, 1) := by decide +kernel
theorem dX1_decideFirst_76 : decode cX1_decideFirst 76 = .ok (.iload_n 3, 1) := by decide +kernel
theorem dX1_decideFirst_77 : decode cX1_decideFirst 77 = .ok (.iconst 4, 1) := by decide +kernel
theorem dX1_decideFirst_78 : decode cX1_decideFirst 78 = .ok (.if_icmp .ge 45, 3) := by decide +kernel
theorem dX1_decideFirst_81 : decode cX1_decideFirst 81 = .ok (.aload_n 0, 1) := by decide +kernel
theorem dX1_decideFirst_82 : decode cX1_decideFirst 82 = .ok (.getfield 46, 3) := by decide +kernel
theorem dX1_decideFirst_85 : decode cX1_decideFirst 85 = .ok (.iload_n 1, 1) := by decide +kernel
theorem dX1_decideFirst_86 : decode cX1_decideFirst 86 = .ok (.aaload, 1) := by decide +kernel
theorem dX1_decideFirst_87 : decode cX1_decideFirst 87 = .ok (.iload_n 3, 1) := by decide +kernel
theorem dX1_decideFirst_88 : decode cX1_decideFirst 88 = .ok (.iconst 1, 1) := by decide +kernel
theorem dX1_decideFirst_89 : decode cX1_decideFirst 89 = .ok (.isub, 1) := by decide +kernel
theorem dX1_decideFirst_90 : decode cX1_decideFirst 90 = .ok (.aload_n 0, 1) := by decide +kernel
theorem dX1_decideFirst_91 : decode cX1_decideFirst 91 = .ok (.getfield 46, 3) := by decide +kernel
theorem dX1_decideFirst_94 : decode cX1_decideFirst 94 = .ok (.iload_n 1, 1) := by decide +kernel
theorem dX1_decideFirst_95 : decode cX1_decideFirst 95 = .ok (.aaload, 1) := by decide +kernel
theorem dX1_decideFirst_96 : decode cX1_decideFirst 96 = .ok (.iload_n 3, 1) := by decide +kernel
theorem dX1_decideFirst_97 : decode cX1_decideFirst 97 = .ok (.iaload, 1) := by decide +kernel
theorem dX1_decideFirst_98 : decode cX1_decideFirst 98 = .ok (.iastore, 1) := by decide +kernel
theorem dX1_decideFirst_99 : decode cX1_decideFirst 99 = .ok (.aload_n 0, 1) := by decide +kernel
theorem dX1_decideFirst_100 : decode cX1_decideFirst 100 = .ok (.getfield 49, 3) := by decide +kernel
theorem dX1_decideFirst_103 : decode cX1_decideFirst 103 = .ok (.iload_n 1, 1) := by decide +kernel
theorem dX1_decideFirst_104 : decode cX1_decideFirst 104 = .ok (.aaload, 1) := by decide +kernel
theorem dX1_decideFirst_105 : decode cX1_decideFirst 105 = .ok (.iload_n 3, 1) := by decide +kernel
theorem dX1_decideFirst_106 : decode cX1_decideFirst 106 = .ok (.iconst 1, 1) := by decide +kernel
theorem dX1_decideFirst_107 : decode cX1_decideFirst 107 = .ok (.isub, 1) := by decide +kernel
theorem dX1_decideFirst_108 : decode cX1_decideFirst 108 = .ok (.aload_n 0, 1) := by decide +kernel
theorem dX1_decideFirst_109 : decode cX1_decideFirst 109 = .ok (.getfield 49, 3) := by decide +kernel
theorem dX1_decideFirst_112 : decode cX1_decideFirst 112 = .ok (.iload_n 1, 1) := by decide +kernel
theorem dX1_decideFirst_113 : decode cX1_decideFirst 113 = .ok (.aaload, 1) := by decide +kernel
theorem dX1_decideFirst_114 : decode cX1_decideFirst 114 = .ok (.iload_n 3, 1) := by decide +kernel
theorem dX1_decideFirst_115 : decode cX1_decideFirst 115 = .ok (.iaload, 1) := by decide +kernel
theorem dX1_decideFirst_116 : decode cX1_decideFirst 116 = .ok (.iastore, 1) := by decide +kernel
theorem dX1_decideFirst_117 : decode cX1_decideFirst 117 = .ok (.iinc 3 1, 3) := by decide +kernel
theorem dX1_decideFirst_120 : decode cX1_decideFirst 120 = .ok (.goto (-44), 3) := by decide +kernel
theorem dX1_decideFirst_123 : decode cX1_decideFirst 123 = .ok (.iload_n 2, 1) := by decide +kernel
theorem dX1_decideFirst_124 : decode cX1_decideFirst 124 = .ok (.ireturn, 1) := by decide +kernel
theorem dX1_faultOfHoldUp_0 : decode cX1_faultOfHoldUp 0 = .ok (.aload_n 0, 1) := by decide +kernel
theorem dX1_faultOfHoldUp_1 : decode cX1_faultOfHoldUp 1 = .ok (.iload_n 1, 1) := by decide +kernel
theorem dX1_faultOfHoldUp_2 : decode cX1_faultOfHoldUp 2 = .ok (.invokevirtual 93, 3) := by decide +kernel
theorem dX1_faultOfHoldUp_5 : decode cX1_faultOfHoldUp 5 = .ok (.ifCond .eq 11, 3) := by decide +kernel
theorem dX1_faultOfHoldUp_8 : decode cX1_faultOfHoldUp 8 = .ok (.aload_n 0, 1) := by decide +kernel
theorem dX1_faultOfHoldUp_9 : decode cX1_faultOfHoldUp 9 = .ok (.iload_n 2, 1) := by decide +kernel
theorem dX1_faultOfHoldUp_10 : decode cX1_faultOfHoldUp 10 = .ok (.invokevirtual 101, 3) := by decide +kernel
theorem dX1_faultOfHoldUp_13 : decode cX1_faultOfHoldUp 13 = .ok (.ifCond .ne 5, 3) := by decide +kernel
theorem dX1_faultOfHoldUp_16 : decode cX1_faultOfHoldUp 16 = .ok (.iconst 1, 1) := by decide +kernel
theorem dX1_faultOfHoldUp_17 : decode cX1_faultOfHoldUp 17 = .ok (.ireturn, 1) := by decide +kernel
theorem dX1_faultOfHoldUp_18 : decode cX1_faultOfHoldUp 18 = .ok (.iload_n 3, 1) := by decide +kernel
theorem dX1_faultOfHoldUp_19 : decode cX1_faultOfHoldUp 19 = .ok (.iconst 1, 1) := by decide +kernel
theorem dX1_faultOfHoldUp_20 : decode cX1_faultOfHoldUp 20 = .ok (.if_icmp .lt 9, 3) := by decide +kernel
theorem dX1_faultOfHoldUp_23 : decode cX1_faultOfHoldUp 23 = .ok (.iload_n 3, 1) := by decide +kernel
theorem dX1_faultOfHoldUp_24 : decode cX1_faultOfHoldUp 24 = .ok (.bipush 30, 2) := by decide +kernel
theorem dX1_faultOfHoldUp_26 : decode cX1_faultOfHoldUp 26 = .ok (.if_icmp .le 5, 3) := by decide +kernel
theorem dX1_faultOfHoldUp_29 : decode cX1_faultOfHoldUp 29 = .ok (.iconst 2, 1) := by decide +kernel
theorem dX1_faultOfHoldUp_30 : decode cX1_faultOfHoldUp 30 = .ok (.ireturn, 1) := by decide +kernel
theorem dX1_faultOfHoldUp_31 : decode cX1_faultOfHoldUp 31 = .ok (.aload_n 0, 1) := by decide +kernel
theorem dX1_faultOfHoldUp_32 : decode cX1_faultOfHoldUp 32 = .ok (.getfield 22, 3) := by decide +kernel
theorem dX1_faultOfHoldUp_35 : decode cX1_faultOfHoldUp 35 = .ok (.iload_n 2, 1) := by decide +kernel
theorem dX1_faultOfHoldUp_36 : decode cX1_faultOfHoldUp 36 = .ok (.iaload, 1) := by decide +kernel
theorem dX1_faultOfHoldUp_37 : decode cX1_faultOfHoldUp 37 = .ok (.ifCond .eq 5, 3) := by decide +kernel
theorem dX1_faultOfHoldUp_40 : decode cX1_faultOfHoldUp 40 = .ok (.iconst 3, 1) := by decide +kernel
theorem dX1_faultOfHoldUp_41 : decode cX1_faultOfHoldUp 41 = .ok (.ireturn, 1) := by decide +kernel
theorem dX1_faultOfHoldUp_42 : decode cX1_faultOfHoldUp 42 = .ok (.aload_n 0, 1) := by decide +kernel
theorem dX1_faultOfHoldUp_43 : decode cX1_faultOfHoldUp 43 = .ok (.iload_n 1, 1) := by decide +kernel
theorem dX1_faultOfHoldUp_44 : decode cX1_faultOfHoldUp 44 = .ok (.invokevirtual 79, 3) := by decide +kernel
theorem dX1_faultOfHoldUp_47 : decode cX1_faultOfHoldUp 47 = .ok (.ifCond .eq 7, 3) := by decide +kernel
theorem dX1_faultOfHoldUp_50 : decode cX1_faultOfHoldUp 50 = .ok (.iconst 0, 1) := by decide +kernel
theorem dX1_faultOfHoldUp_51 : decode cX1_faultOfHoldUp 51 = .ok (.goto 4, 3) := by decide +kernel
theorem dX1_faultOfHoldUp_54 : decode cX1_faultOfHoldUp 54 = .ok (.iconst 5, 1) := by decide +kernel
theorem dX1_faultOfHoldUp_55 : decode cX1_faultOfHoldUp 55 = .ok (.ireturn, 1) := by decide +kernel
theorem dX1_holdUp_0 : decode cX1_holdUp 0 = .ok (.aload_n 0, 1) := by decide +kernel
theorem dX1_holdUp_1 : decode cX1_holdUp 1 = .ok (.getfield 32, 3) := by decide +kernel
theorem dX1_holdUp_4 : decode cX1_holdUp 4 = .ok (.iload_n 1, 1) := by decide +kernel
theorem dX1_holdUp_5 : decode cX1_holdUp 5 = .ok (.dup2, 1) := by decide +kernel
theorem dX1_holdUp_6 : decode cX1_holdUp 6 = .ok (.iaload, 1) := by decide +kernel
theorem dX1_holdUp_7 : decode cX1_holdUp 7 = .ok (.iload_n 2, 1) := by decide +kernel
theorem dX1_holdUp_8 : decode cX1_holdUp 8 = .ok (.iadd, 1) := by decide +kernel
theorem dX1_holdUp_9 : decode cX1_holdUp 9 = .ok (.iastore, 1) := by decide +kernel
theorem dX1_holdUp_10 : decode cX1_holdUp 10 = .ok (.aload_n 0, 1) := by decide +kernel
theorem dX1_holdUp_11 : decode cX1_holdUp 11 = .ok (.iload_n 1, 1) := by decide +kernel
theorem dX1_holdUp_12 : decode cX1_holdUp 12 = .ok (.invokevirtual 87, 3) := by decide +kernel
theorem dX1_holdUp_15 : decode cX1_holdUp 15 = .ok (.iconst 3, 1) := by decide +kernel
theorem dX1_holdUp_16 : decode cX1_holdUp 16 = .ok (.if_icmp .lt 9, 3) := by decide +kernel
theorem dX1_holdUp_19 : decode cX1_holdUp 19 = .ok (.aload_n 0, 1) := by decide +kernel
theorem dX1_holdUp_20 : decode cX1_holdUp 20 = .ok (.iload_n 1, 1) := by decide +kernel
theorem dX1_holdUp_21 : decode cX1_holdUp 21 = .ok (.iconst 2, 1) := by decide +kernel
theorem dX1_holdUp_22 : decode cX1_holdUp 22 = .ok (.invokevirtual 111, 3) := by decide +kernel
theorem dX1_holdUp_25 : decode cX1_holdUp 25 = .ok (.aload_n 0, 1) := by decide +kernel
theorem dX1_holdUp_26 : decode cX1_holdUp 26 = .ok (.iload_n 1, 1) := by decide +kernel
theorem dX1_holdUp_27 : decode cX1_holdUp 27 = .ok (.invokevirtual 87, 3) := by decide +kernel
theorem dX1_holdUp_30 : decode cX1_holdUp 30 = .ok (.ireturn, 1) := by decide +kernel
theorem dX2_init_0 : decode cX2_init 0 = .ok (.aload_n 0, 1) := by decide +kernel
theorem dX2_init_1 : decode cX2_init 1 = .ok (.invokespecial 3, 3) := by decide +kernel
theorem dX2_init_4 : decode cX2_init 4 = .ok (.aload_n 0, 1) := by decide +kernel
theorem dX2_init_5 : decode cX2_init 5 = .ok (.bipush 24, 2) := by decide +kernel
theorem dX2_init_7 : decode cX2_init 7 = .ok (.newarray .char, 2) := by decide +kernel
theorem dX2_init_9 : decode cX2_init 9 = .ok (.putfield 9, 3) := by decide +kernel
theorem dX2_init_12 : decode cX2_init 12 = .ok (.return_, 1) := by decide +kernel
theorem dX2_clear_0 : decode cX2_clear 0 = .ok (.aload_n 0, 1) := by decide +kernel
theorem dX2_clear_1 : decode cX2_clear 1 = .ok (.iconst 0, 1) := by decide +kernel
theorem dX2_clear_2 : decode cX2_clear 2 = .ok (.putfield 15, 3) := by decide +kernel
theorem dX2_clear_5 : decode cX2_clear 5 = .ok (.return_, 1) := by decide +kernel
theorem dX2_putSign_0 : decode cX2_putSign 0 = .ok (.aload_n 0, 1) := by decide +kernel
theorem dX2_putSign_1 : decode cX2_putSign 1 = .ok (.getfield 15, 3) := by decide +kernel
theorem dX2_putSign_4 : decode cX2_putSign 4 = .ok (.bipush 24, 2) := by decide +kernel
theorem dX2_putSign_6 : decode cX2_putSign 6 = .ok (.if_icmp .ge 23, 3) := by decide +kernel
theorem dX2_putSign_9 : decode cX2_putSign 9 = .ok (.aload_n 0, 1) := by decide +kernel
theorem dX2_putSign_10 : decode cX2_putSign 10 = .ok (.getfield 9, 3) := by decide +kernel
theorem dX2_putSign_13 : decode cX2_putSign 13 = .ok (.aload_n 0, 1) := by decide +kernel
theorem dX2_putSign_14 : decode cX2_putSign 14 = .ok (.getfield 15, 3) := by decide +kernel
theorem dX2_putSign_17 : decode cX2_putSign 17 = .ok (.iload_n 1, 1) := by decide +kernel
theorem dX2_putSign_18 : decode cX2_putSign 18 = .ok (.castore, 1) := by decide +kernel
theorem dX2_putSign_19 : decode cX2_putSign 19 = .ok (.aload_n 0, 1) := by decide +kernel
theorem dX2_putSign_20 : decode cX2_putSign 20 = .ok (.dup, 1) := by decide +kernel
theorem dX2_putSign_21 : decode cX2_putSign 21 = .ok (.getfield 15, 3) := by decide +kernel
theorem dX2_putSign_24 : decode cX2_putSign 24 = .ok (.iconst 1, 1) := by decide +kernel
theorem dX2_putSign_25 : decode cX2_putSign 25 = .ok (.iadd, 1) := by decide +kernel
theorem dX2_putSign_26 : decode cX2_putSign 26 = .ok (.putfield 15, 3) := by decide +kernel
theorem dX2_putSign_29 : decode cX2_putSign 29 = .ok (.return_, 1) := by decide +kernel
theorem dX2_putNumber_0 : decode cX2_putNumber 0 = .ok (.iload_n 1, 1) := by decide +kernel
theorem dX2_putNumber_1 : decode cX2_putNumber 1 = .ok (.bipush 100, 2) := by decide +kernel
theorem dX2_putNumber_3 : decode cX2_putNumber 3 = .ok (.if_icmp .lt 15, 3) := by decide +kernel
theorem dX2_putNumber_6 : decode cX2_putNumber 6 = .ok (.aload_n 0, 1) := by decide +kernel
theorem dX2_putNumber_7 : decode cX2_putNumber 7 = .ok (.bipush 48, 2) := by decide +kernel
theorem dX2_putNumber_9 : decode cX2_putNumber 9 = .ok (.iload_n 1, 1) := by decide +kernel
theorem dX2_putNumber_10 : decode cX2_putNumber 10 = .ok (.bipush 100, 2) := by decide +kernel
theorem dX2_putNumber_12 : decode cX2_putNumber 12 = .ok (.idiv, 1) := by decide +kernel
theorem dX2_putNumber_13 : decode cX2_putNumber 13 = .ok (.iadd, 1) := by decide +kernel
theorem dX2_putNumber_14 : decode cX2_putNumber 14 = .ok (.i2c, 1) := by decide +kernel
theorem dX2_putNumber_15 : decode cX2_putNumber 15 = .ok (.invokevirtual 19, 3) := by decide +kernel
theorem dX2_putNumber_18 : decode cX2_putNumber 18 = .ok (.iload_n 1, 1) := by decide +kernel
theorem dX2_putNumber_19 : decode cX2_putNumber 19 = .ok (.bipush 10, 2) := by decide +kernel
theorem dX2_putNumber_21 : decode cX2_putNumber 21 = .ok (.if_icmp .lt 18, 3) := by decide +kernel
theorem dX2_putNumber_24 : decode cX2_putNumber 24 = .ok (.aload_n 0, 1) := by decide +kernel
theorem dX2_putNumber_25 : decode cX2_putNumber 25 = .ok (.bipush 48, 2) := by decide +kernel
theorem dX2_putNumber_27 : decode cX2_putNumber 27 = .ok (.iload_n 1, 1) := by decide +kernel
theorem dX2_putNumber_28 : decode cX2_putNumber 28 = .ok (.bipush 10, 2) := by decide +kernel
theorem dX2_putNumber_30 : decode cX2_putNumber 30 = .ok (.idiv, 1) := by decide +kernel
theorem dX2_putNumber_31 : decode cX2_putNumber 31 = .ok (.bipush 10, 2) := by decide +kernel
theorem dX2_putNumber_33 : decode cX2_putNumber 33 = .ok (.irem, 1) := by decide +kernel
theorem dX2_putNumber_34 : decode cX2_putNumber 34 = .ok (.iadd, 1) := by decide +kernel
theorem dX2_putNumber_35 : decode cX2_putNumber 35 = .ok (.i2c, 1) := by decide +kernel
theorem dX2_putNumber_36 : decode cX2_putNumber 36 = .ok (.invokevirtual 19, 3) := by decide +kernel
theorem dX2_putNumber_39 : decode cX2_putNumber 39 = .ok (.aload_n 0, 1) := by decide +kernel
theorem dX2_putNumber_40 : decode cX2_putNumber 40 = .ok (.bipush 48, 2) := by decide +kernel
theorem dX2_putNumber_42 : decode cX2_putNumber 42 = .ok (.iload_n 1, 1) := by decide +kernel
theorem dX2_putNumber_43 : decode cX2_putNumber 43 = .ok (.bipush 10, 2) := by decide +kernel
theorem dX2_putNumber_45 : decode cX2_putNumber 45 = .ok (.irem, 1) := by decide +kernel
theorem dX2_putNumber_46 : decode cX2_putNumber 46 = .ok (.iadd, 1) := by decide +kernel
theorem dX2_putNumber_47 : decode cX2_putNumber 47 = .ok (.i2c, 1) := by decide +kernel
theorem dX2_putNumber_48 : decode cX2_putNumber 48 = .ok (.invokevirtual 19, 3) := by decide +kernel
theorem dX2_putNumber_51 : decode cX2_putNumber 51 = .ok (.return_, 1) := by decide +kernel
