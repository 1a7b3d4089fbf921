theorem dX7_readClause_206 : decode cX7_readClause 206 = .ok (.iconst 1, 1) := by decide +kernel
theorem dX7_readClause_207 : decode cX7_readClause 207 = .ok (.aload_n 0, 1) := by decide +kernel
theorem dX7_readClause_208 : decode cX7_readClause 208 = .ok (.invokevirtual 122, 3) := by decide +kernel
theorem dX7_readClause_211 : decode cX7_readClause 211 = .ok (.invokevirtual 104, 3) := by decide +kernel
theorem dX7_readClause_214 : decode cX7_readClause 214 = .ok (.ireturn, 1) := by decide +kernel
theorem dX7_endFact_0 : decode cX7_endFact 0 = .ok (.aload_n 1, 1) := by decide +kernel
theorem dX7_endFact_1 : decode cX7_endFact 1 = .ok (.getfield 136, 3) := by decide +kernel
theorem dX7_endFact_4 : decode cX7_endFact 4 = .ok (.bipush 100, 2) := by decide +kernel
theorem dX7_endFact_6 : decode cX7_endFact 6 = .ok (.if_icmp .lt 13, 3) := by decide +kernel
theorem dX7_endFact_9 : decode cX7_endFact 9 = .ok (.aload_n 0, 1) := by decide +kernel
theorem dX7_endFact_10 : decode cX7_endFact 10 = .ok (.iconst 3, 1) := by decide +kernel
theorem dX7_endFact_11 : decode cX7_endFact 11 = .ok (.aload_n 1, 1) := by decide +kernel
theorem dX7_endFact_12 : decode cX7_endFact 12 = .ok (.getfield 139, 3) := by decide +kernel
theorem dX7_endFact_15 : decode cX7_endFact 15 = .ok (.invokevirtual 104, 3) := by decide +kernel
theorem dX7_endFact_18 : decode cX7_endFact 18 = .ok (.ireturn, 1) := by decide +kernel
theorem dX7_endFact_19 : decode cX7_endFact 19 = .ok (.aload_n 1, 1) := by decide +kernel
theorem dX7_endFact_20 : decode cX7_endFact 20 = .ok (.getfield 142, 3) := by decide +kernel
theorem dX7_endFact_23 : decode cX7_endFact 23 = .ok (.bipush 100, 2) := by decide +kernel
theorem dX7_endFact_25 : decode cX7_endFact 25 = .ok (.if_icmp .lt 13, 3) := by decide +kernel
theorem dX7_endFact_28 : decode cX7_endFact 28 = .ok (.aload_n 0, 1) := by decide +kernel
theorem dX7_endFact_29 : decode cX7_endFact 29 = .ok (.iconst 3, 1) := by decide +kernel
theorem dX7_endFact_30 : decode cX7_endFact 30 = .ok (.aload_n 1, 1) := by decide +kernel
theorem dX7_endFact_31 : decode cX7_endFact 31 = .ok (.getfield 145, 3) := by decide +kernel
theorem dX7_endFact_34 : decode cX7_endFact 34 = .ok (.invokevirtual 104, 3) := by decide +kernel
theorem dX7_endFact_37 : decode cX7_endFact 37 = .ok (.ireturn, 1) := by decide +kernel
theorem dX7_endFact_38 : decode cX7_endFact 38 = .ok (.aload_n 0, 1) := by decide +kernel
theorem dX7_endFact_39 : decode cX7_endFact 39 = .ok (.getfield 51, 3) := by decide +kernel
theorem dX7_endFact_42 : decode cX7_endFact 42 = .ok (.sipush 200, 3) := by decide +kernel
theorem dX7_endFact_45 : decode cX7_endFact 45 = .ok (.if_icmp .ge 54, 3) := by decide +kernel
theorem dX7_endFact_48 : decode cX7_endFact 48 = .ok (.aload_n 1, 1) := by decide +kernel
theorem dX7_endFact_49 : decode cX7_endFact 49 = .ok (.getfield 136, 3) := by decide +kernel
theorem dX7_endFact_52 : decode cX7_endFact 52 = .ok (.iconst 0, 1) := by decide +kernel
theorem dX7_endFact_53 : decode cX7_endFact 53 = .ok (.invokestatic 148, 3) := by decide +kernel
theorem dX7_endFact_56 : decode cX7_endFact 56 = .ok (.istore_n 2, 1) := by decide +kernel
theorem dX7_endFact_57 : decode cX7_endFact 57 = .ok (.aload_n 1, 1) := by decide +kernel
theorem dX7_endFact_58 : decode cX7_endFact 58 = .ok (.getfield 142, 3) := by decide +kernel
theorem dX7_endFact_61 : decode cX7_endFact 61 = .ok (.iconst 0, 1) := by decide +kernel
theorem dX7_endFact_62 : decode cX7_endFact 62 = .ok (.invokestatic 148, 3) := by decide +kernel
theorem dX7_endFact_65 : decode cX7_endFact 65 = .ok (.istore_n 3, 1) := by decide +kernel
theorem dX7_endFact_66 : decode cX7_endFact 66 = .ok (.aload_n 0, 1) := by decide +kernel
theorem dX7_endFact_67 : decode cX7_endFact 67 = .ok (.getfield 18, 3) := by decide +kernel
theorem dX7_endFact_70 : decode cX7_endFact 70 = .ok (.aload_n 0, 1) := by decide +kernel
theorem dX7_endFact_71 : decode cX7_endFact 71 = .ok (.getfield 51, 3) := by decide +kernel
theorem dX7_endFact_74 : decode cX7_endFact 74 = .ok (.aload_n 1, 1) := by decide +kernel
theorem dX7_endFact_75 : decode cX7_endFact 75 = .ok (.getfield 154, 3) := by decide +kernel
theorem dX7_endFact_78 : decode cX7_endFact 78 = .ok (.bipush 10, 2) := by decide +kernel
theorem dX7_endFact_80 : decode cX7_endFact 80 = .ok (.imul, 1) := by decide +kernel
theorem dX7_endFact_81 : decode cX7_endFact 81 = .ok (.iload_n 2, 1) := by decide +kernel
theorem dX7_endFact_82 : decode cX7_endFact 82 = .ok (.iadd, 1) := by decide +kernel
theorem dX7_endFact_83 : decode cX7_endFact 83 = .ok (.bipush 10, 2) := by decide +kernel
theorem dX7_endFact_85 : decode cX7_endFact 85 = .ok (.imul, 1) := by decide +kernel
theorem dX7_endFact_86 : decode cX7_endFact 86 = .ok (.iload_n 3, 1) := by decide +kernel
theorem dX7_endFact_87 : decode cX7_endFact 87 = .ok (.iadd, 1) := by decide +kernel
theorem dX7_endFact_88 : decode cX7_endFact 88 = .ok (.iastore, 1) := by decide +kernel
theorem dX7_endFact_89 : decode cX7_endFact 89 = .ok (.aload_n 0, 1) := by decide +kernel
theorem dX7_endFact_90 : decode cX7_endFact 90 = .ok (.dup, 1) := by decide +kernel
theorem dX7_endFact_91 : decode cX7_endFact 91 = .ok (.getfield 51, 3) := by decide +kernel
theorem dX7_endFact_94 : decode cX7_endFact 94 = .ok (.iconst 1, 1) := by decide +kernel
theorem dX7_endFact_95 : decode cX7_endFact 95 = .ok (.iadd, 1) := by decide +kernel
theorem dX7_endFact_96 : decode cX7_endFact 96 = .ok (.putfield 51, 3) := by decide +kernel
theorem dX7_endFact_99 : decode cX7_endFact 99 = .ok (.aload_n 0, 1) := by decide +kernel
theorem dX7_endFact_100 : decode cX7_endFact 100 = .ok (.dup, 1) := by decide +kernel
theorem dX7_endFact_101 : decode cX7_endFact 101 = .ok (.getfield 48, 3) := by decide +kernel
theorem dX7_endFact_104 : decode cX7_endFact 104 = .ok (.iconst 1, 1) := by decide +kernel
theorem dX7_endFact_105 : decode cX7_endFact 105 = .ok (.iadd, 1) := by decide +kernel
theorem dX7_endFact_106 : decode cX7_endFact 106 = .ok (.putfield 48, 3) := by decide +kernel
theorem dX7_endFact_109 : decode cX7_endFact 109 = .ok (.iconst 1, 1) := by decide +kernel
theorem dX7_endFact_110 : decode cX7_endFact 110 = .ok (.ireturn, 1) := by decide +kernel
theorem dX7_endRule_0 : decode cX7_endRule 0 = .ok (.aload_n 1, 1) := by decide +kernel
theorem dX7_endRule_1 : decode cX7_endRule 1 = .ok (.aload_n 1, 1) := by decide +kernel
theorem dX7_endRule_2 : decode cX7_endRule 2 = .ok (.getfield 93, 3) := by decide +kernel
theorem dX7_endRule_5 : decode cX7_endRule 5 = .ok (.invokevirtual 157, 3) := by decide +kernel
theorem dX7_endRule_8 : decode cX7_endRule 8 = .ok (.istore_n 2, 1) := by decide +kernel
theorem dX7_endRule_9 : decode cX7_endRule 9 = .ok (.iconst 0, 1) := by decide +kernel
theorem dX7_endRule_10 : decode cX7_endRule 10 = .ok (.istore_n 3, 1) := by decide +kernel
theorem dX7_endRule_11 : decode cX7_endRule 11 = .ok (.iload_n 3, 1) := by decide +kernel
theorem dX7_endRule_12 : decode cX7_endRule 12 = .ok (.aload_n 1, 1) := by decide +kernel
theorem dX7_endRule_13 : decode cX7_endRule 13 = .ok (.getfield 125, 3) := by decide +kernel
theorem dX7_endRule_16 : decode cX7_endRule 16 = .ok (.if_icmp .ge 25, 3) := by decide +kernel
theorem dX7_endRule_19 : decode cX7_endRule 19 = .ok (.iload_n 2, 1) := by decide +kernel
theorem dX7_endRule_20 : decode cX7_endRule 20 = .ok (.iconst (-1), 1) := by decide +kernel
theorem dX7_endRule_21 : decode cX7_endRule 21 = .ok (.if_icmp .ne 20, 3) := by decide +kernel
theorem dX7_endRule_24 : decode cX7_endRule 24 = .ok (.aload_n 1, 1) := by decide +kernel
theorem dX7_endRule_25 : decode cX7_endRule 25 = .ok (.aload_n 1, 1) := by decide +kernel
theorem dX7_endRule_26 : decode cX7_endRule 26 = .ok (.getfield 126, 3) := by decide +kernel
theorem dX7_endRule_29 : decode cX7_endRule 29 = .ok (.iload_n 3, 1) := by decide +kernel
theorem dX7_endRule_30 : decode cX7_endRule 30 = .ok (.aaload, 1) := by decide +kernel
theorem dX7_endRule_31 : decode cX7_endRule 31 = .ok (.invokevirtual 157, 3) := by decide +kernel
theorem dX7_endRule_34 : decode cX7_endRule 34 = .ok (.istore_n 2, 1) := by decide +kernel
theorem dX7_endRule_35 : decode cX7_endRule 35 = .ok (.iinc 3 1, 3) := by decide +kernel
theorem dX7_endRule_38 : decode cX7_endRule 38 = .ok (.goto (-27), 3) := by decide +kernel
theorem dX7_endRule_41 : decode cX7_endRule 41 = .ok (.iload_n 2, 1) := by decide +kernel
theorem dX7_endRule_42 : decode cX7_endRule 42 = .ok (.iconst (-1), 1) := by decide +kernel
theorem dX7_endRule_43 : decode cX7_endRule 43 = .ok (.if_icmp .eq 10, 3) := by decide +kernel
theorem dX7_endRule_46 : decode cX7_endRule 46 = .ok (.aload_n 0, 1) := by decide +kernel
theorem dX7_endRule_47 : decode cX7_endRule 47 = .ok (.iconst 5, 1) := by decide +kernel
theorem dX7_endRule_48 : decode cX7_endRule 48 = .ok (.iload_n 2, 1) := by decide +kernel
theorem dX7_endRule_49 : decode cX7_endRule 49 = .ok (.invokevirtual 104, 3) := by decide +kernel
theorem dX7_endRule_52 : decode cX7_endRule 52 = .ok (.ireturn, 1) := by decide +kernel
theorem dX7_endRule_53 : decode cX7_endRule 53 = .ok (.aload_n 0, 1) := by decide +kernel
theorem dX7_endRule_54 : decode cX7_endRule 54 = .ok (.getfield 22, 3) := by decide +kernel
theorem dX7_endRule_57 : decode cX7_endRule 57 = .ok (.dup, 1) := by decide +kernel
theorem dX7_endRule_58 : decode cX7_endRule 58 = .ok (.getfield 41, 3) := by decide +kernel
theorem dX7_endRule_61 : decode cX7_endRule 61 = .ok (.iconst 1, 1) := by decide +kernel
theorem dX7_endRule_62 : decode cX7_endRule 62 = .ok (.iadd, 1) := by decide +kernel
theorem dX7_endRule_63 : decode cX7_endRule 63 = .ok (.putfield 41, 3) := by decide +kernel
theorem dX7_endRule_66 : decode cX7_endRule 66 = .ok (.aload_n 0, 1) := by decide +kernel
theorem dX7_endRule_67 : decode cX7_endRule 67 = .ok (.dup, 1) := by decide +kernel
theorem dX7_endRule_68 : decode cX7_endRule 68 = .ok (.getfield 48, 3) := by decide +kernel
theorem dX7_endRule_71 : decode cX7_endRule 71 = .ok (.iconst 1, 1) := by decide +kernel
theorem dX7_endRule_72 : decode cX7_endRule 72 = .ok (.iadd, 1) := by decide +kernel
theorem dX7_endRule_73 : decode cX7_endRule 73 = .ok (.putfield 48, 3) := by decide +kernel
theorem dX7_endRule_76 : decode cX7_endRule 76 = .ok (.iconst 1, 1) := by decide +kernel
theorem dX7_endRule_77 : decode cX7_endRule 77 = .ok (.ireturn, 1) := by decide +kernel
theorem dX7_readTerm_0 : decode cX7_readTerm 0 = .ok (.aload_n 0, 1) := by decide +kernel
theorem dX7_readTerm_1 : decode cX7_readTerm 1 = .ok (.invokevirtual 63, 3) := by decide +kernel
theorem dX7_readTerm_4 : decode cX7_readTerm 4 = .ok (.iconst 3, 1) := by decide +kernel
theorem dX7_readTerm_5 : decode cX7_readTerm 5 = .ok (.if_icmp .eq 20, 3) := by decide +kernel
theorem dX7_readTerm_8 : decode cX7_readTerm 8 = .ok (.aload_n 0, 1) := by decide +kernel
theorem dX7_readTerm_9 : decode cX7_readTerm 9 = .ok (.invokevirtual 63, 3) := by decide +kernel
theorem dX7_readTerm_12 : decode cX7_readTerm 12 = .ok (.iconst 2, 1) := by decide +kernel
theorem dX7_readTerm_13 : decode cX7_readTerm 13 = .ok (.if_icmp .ne 19, 3) := by decide +kernel
theorem dX7_readTerm_16 : decode cX7_readTerm 16 = .ok (.aload_n 0, 1) := by decide +kernel
theorem dX7_readTerm_17 : decode cX7_readTerm 17 = .ok (.invokevirtual 161, 3) := by decide +kernel
theorem dX7_readTerm_20 : decode cX7_readTerm 20 = .ok (.bipush 35, 2) := by decide +kernel
theorem dX7_readTerm_22 : decode cX7_readTerm 22 = .ok (.if_icmp .ne 10, 3) := by decide +kernel
theorem dX7_readTerm_25 : decode cX7_readTerm 25 = .ok (.aload_n 0, 1) := by decide +kernel
theorem dX7_readTerm_26 : decode cX7_readTerm 26 = .ok (.aload_n 1, 1) := by decide +kernel
theorem dX7_readTerm_27 : decode cX7_readTerm 27 = .ok (.aload_n 2, 1) := by decide +kernel
theorem dX7_readTerm_28 : decode cX7_readTerm 28 = .ok (.invokevirtual 164, 3) := by decide +kernel
theorem dX7_readTerm_31 : decode cX7_readTerm 31 = .ok (.ireturn, 1) := by decide +kernel
theorem dX7_readTerm_32 : decode cX7_readTerm 32 = .ok (.aload_n 0, 1) := by decide +kernel
theorem dX7_readTerm_33 : decode cX7_readTerm 33 = .ok (.invokevirtual 63, 3) := by decide +kernel
theorem dX7_readTerm_36 : decode cX7_readTerm 36 = .ok (.iconst 2, 1) := by decide +kernel
theorem dX7_readTerm_37 : decode cX7_readTerm 37 = .ok (.if_icmp .ne 40, 3) := by decide +kernel
theorem dX7_readTerm_40 : decode cX7_readTerm 40 = .ok (.aload_n 0, 1) := by decide +kernel
theorem dX7_readTerm_41 : decode cX7_readTerm 41 = .ok (.getfield 12, 3) := by decide +kernel
theorem dX7_readTerm_44 : decode cX7_readTerm 44 = .ok (.getfield 167, 3) := by decide +kernel
theorem dX7_readTerm_47 : decode cX7_readTerm 47 = .ok (.aload_n 0, 1) := by decide +kernel
theorem dX7_readTerm_48 : decode cX7_readTerm 48 = .ok (.getfield 48, 3) := by decide +kernel
theorem dX7_readTerm_51 : decode cX7_readTerm 51 = .ok (.laload, 1) := by decide +kernel
theorem dX7_readTerm_52 : decode cX7_readTerm 52 = .ok (.ldc2_w 171, 3) := by decide +kernel
theorem dX7_readTerm_55 : decode cX7_readTerm 55 = .ok (.lcmp, 1) := by decide +kernel
theorem dX7_readTerm_56 : decode cX7_readTerm 56 = .ok (.ifCond .ne 21, 3) := by decide +kernel
theorem dX7_readTerm_59 : decode cX7_readTerm 59 = .ok (.aload_n 2, 1) := by decide +kernel
theorem dX7_readTerm_60 : decode cX7_readTerm 60 = .ok (.iconst 1, 1) := by decide +kernel
theorem dX7_readTerm_61 : decode cX7_readTerm 61 = .ok (.invokevirtual 111, 3) := by decide +kernel
theorem dX7_readTerm_64 : decode cX7_readTerm 64 = .ok (.aload_n 0, 1) := by decide +kernel
theorem dX7_readTerm_65 : decode cX7_readTerm 65 = .ok (.dup, 1) := by decide +kernel
theorem dX7_readTerm_66 : decode cX7_readTerm 66 = .ok (.getfield 48, 3) := by decide +kernel
theorem dX7_readTerm_69 : decode cX7_readTerm 69 = .ok (.iconst 1, 1) := by decide +kernel
theorem dX7_readTerm_70 : decode cX7_readTerm 70 = .ok (.iadd, 1) := by decide +kernel
theorem dX7_readTerm_71 : decode cX7_readTerm 71 = .ok (.putfield 48, 3) := by decide +kernel
theorem dX7_readTerm_74 : decode cX7_readTerm 74 = .ok (.goto 8, 3) := by decide +kernel
theorem dX7_readTerm_77 : decode cX7_readTerm 77 = .ok (.aload_n 2, 1) := by decide +kernel
theorem dX7_readTerm_78 : decode cX7_readTerm 78 = .ok (.iconst 0, 1) := by decide +kernel
theorem dX7_readTerm_79 : decode cX7_readTerm 79 = .ok (.invokevirtual 111, 3) := by decide +kernel
theorem dX7_readTerm_82 : decode cX7_readTerm 82 = .ok (.aload_n 0, 1) := by decide +kernel
theorem dX7_readTerm_83 : decode cX7_readTerm 83 = .ok (.aload_n 1, 1) := by decide +kernel
theorem dX7_readTerm_84 : decode cX7_readTerm 84 = .ok (.aload_n 2, 1) := by decide +kernel
theorem dX7_readTerm_85 : decode cX7_readTerm 85 = .ok (.invokevirtual 114, 3) := by decide +kernel
theorem dX7_readTerm_88 : decode cX7_readTerm 88 = .ok (.ireturn, 1) := by decide +kernel
theorem dX7_readUnlike_0 : decode cX7_readUnlike 0 = .ok (.aload_n 2, 1) := by decide +kernel
theorem dX7_readUnlike_1 : decode cX7_readUnlike 1 = .ok (.iconst 2, 1) := by decide +kernel
theorem dX7_readUnlike_2 : decode cX7_readUnlike 2 = .ok (.invokevirtual 111, 3) := by decide +kernel
theorem dX7_readUnlike_5 : decode cX7_readUnlike 5 = .ok (.aload_n 0, 1) := by decide +kernel
theorem dX7_readUnlike_6 : decode cX7_readUnlike 6 = .ok (.aload_n 1, 1) := by decide +kernel
theorem dX7_readUnlike_7 : decode cX7_readUnlike 7 = .ok (.aload_n 2, 1) := by decide +kernel
theorem dX7_readUnlike_8 : decode cX7_readUnlike 8 = .ok (.iconst 1, 1) := by decide +kernel
theorem dX7_readUnlike_9 : decode cX7_readUnlike 9 = .ok (.invokevirtual 173, 3) := by decide +kernel
theorem dX7_readUnlike_12 : decode cX7_readUnlike 12 = .ok (.ifCond .ne 5, 3) := by decide +kernel
theorem dX7_readUnlike_15 : decode cX7_readUnlike 15 = .ok (.iconst 0, 1) := by decide +kernel
theorem dX7_readUnlike_16 : decode cX7_readUnlike 16 = .ok (.ireturn, 1) := by decide +kernel
theorem dX7_readUnlike_17 : decode cX7_readUnlike 17 = .ok (.aload_n 0, 1) := by decide +kernel
theorem dX7_readUnlike_18 : decode cX7_readUnlike 18 = .ok (.invokevirtual 63, 3) := by decide +kernel
theorem dX7_readUnlike_21 : decode cX7_readUnlike 21 = .ok (.bipush 35, 2) := by decide +kernel
theorem dX7_readUnlike_23 : decode cX7_readUnlike 23 = .ok (.if_icmp .eq 13, 3) := by decide +kernel
theorem dX7_readUnlike_26 : decode cX7_readUnlike 26 = .ok (.aload_n 0, 1) := by decide +kernel
theorem dX7_readUnlike_27 : decode cX7_readUnlike 27 = .ok (.iconst 1, 1) := by decide +kernel
theorem dX7_readUnlike_28 : decode cX7_readUnlike 28 = .ok (.aload_n 0, 1) := by decide +kernel
theorem dX7_readUnlike_29 : decode cX7_readUnlike 29 = .ok (.invokevirtual 122, 3) := by decide +kernel
theorem dX7_readUnlike_32 : decode cX7_readUnlike 32 = .ok (.invokevirtual 104, 3) := by decide +kernel
theorem dX7_readUnlike_35 : decode cX7_readUnlike 35 = .ok (.ireturn, 1) := by decide +kernel
theorem dX7_readUnlike_36 : decode cX7_readUnlike 36 = .ok (.aload_n 0, 1) := by decide +kernel
theorem dX7_readUnlike_37 : decode cX7_readUnlike 37 = .ok (.dup, 1) := by decide +kernel
theorem dX7_readUnlike_38 : decode cX7_readUnlike 38 = .ok (.getfield 48, 3) := by decide +kernel
theorem dX7_readUnlike_41 : decode cX7_readUnlike 41 = .ok (.iconst 1, 1) := by decide +kernel
theorem dX7_readUnlike_42 : decode cX7_readUnlike 42 = .ok (.iadd, 1) := by decide +kernel
theorem dX7_readUnlike_43 : decode cX7_readUnlike 43 = .ok (.putfield 48, 3) := by decide +kernel
theorem dX7_readUnlike_46 : decode cX7_readUnlike 46 = .ok (.aload_n 0, 1) := by decide +kernel
theorem dX7_readUnlike_47 : decode cX7_readUnlike 47 = .ok (.aload_n 1, 1) := by decide +kernel
theorem dX7_readUnlike_48 : decode cX7_readUnlike 48 = .ok (.aload_n 2, 1) := by decide +kernel
theorem dX7_readUnlike_49 : decode cX7_readUnlike 49 = .ok (.iconst 0, 1) := by decide +kernel
theorem dX7_readUnlike_50 : decode cX7_readUnlike 50 = .ok (.invokevirtual 173, 3) := by decide +kernel
theorem dX7_readUnlike_53 : decode cX7_readUnlike 53 = .ok (.ireturn, 1) := by decide +kernel
theorem dX7_readAtom_0 : decode cX7_readAtom 0 = .ok (.aload_n 0, 1) := by decide +kernel
theorem dX7_readAtom_1 : decode cX7_readAtom 1 = .ok (.invokevirtual 63, 3) := by decide +kernel
theorem dX7_readAtom_4 : decode cX7_readAtom 4 = .ok (.iconst 2, 1) := by decide +kernel
theorem dX7_readAtom_5 : decode cX7_readAtom 5 = .ok (.if_icmp .ne 22, 3) := by decide +kernel
theorem dX7_readAtom_8 : decode cX7_readAtom 8 = .ok (.aload_n 0, 1) := by decide +kernel
theorem dX7_readAtom_9 : decode cX7_readAtom 9 = .ok (.getfield 12, 3) := by decide +kernel
theorem dX7_readAtom_12 : decode cX7_readAtom 12 = .ok (.getfield 167, 3) := by decide +kernel
theorem dX7_readAtom_15 : decode cX7_readAtom 15 = .ok (.aload_n 0, 1) := by decide +kernel
theorem dX7_readAtom_16 : decode cX7_readAtom 16 = .ok (.getfield 48, 3) := by decide +kernel
theorem dX7_readAtom_19 : decode cX7_readAtom 19 = .ok (.laload, 1) := by decide +kernel
theorem dX7_readAtom_20 : decode cX7_readAtom 20 = .ok (.ldc2_w 171, 3) := by decide +kernel
theorem dX7_readAtom_23 : decode cX7_readAtom 23 = .ok (.lcmp, 1) := by decide +kernel
theorem dX7_readAtom_24 : decode cX7_readAtom 24 = .ok (.ifCond .ne 13, 3) := by decide +kernel
theorem dX7_readAtom_27 : decode cX7_readAtom 27 = .ok (.aload_n 0, 1) := by decide +kernel
theorem dX7_readAtom_28 : decode cX7_readAtom 28 = .ok (.iconst 1, 1) := by decide +kernel
theorem dX7_readAtom_29 : decode cX7_readAtom 29 = .ok (.aload_n 0, 1) := by decide +kernel
theorem dX7_readAtom_30 : decode cX7_readAtom 30 = .ok (.invokevirtual 122, 3) := by decide +kernel
theorem dX7_readAtom_33 : decode cX7_readAtom 33 = .ok (.invokevirtual 104, 3) := by decide +kernel
theorem dX7_readAtom_36 : decode cX7_readAtom 36 = .ok (.ireturn, 1) := by decide +kernel
theorem dX7_readAtom_37 : decode cX7_readAtom 37 = .ok (.aload_n 0, 1) := by decide +kernel
theorem dX7_readAtom_38 : decode cX7_readAtom 38 = .ok (.getfield 22, 3) := by decide +kernel
theorem dX7_readAtom_41 : decode cX7_readAtom 41 = .ok (.getfield 26, 3) := by decide +kernel
theorem dX7_readAtom_44 : decode cX7_readAtom 44 = .ok (.getfield 32, 3) := by decide +kernel
theorem dX7_readAtom_47 : decode cX7_readAtom 47 = .ok (.istore_n 3, 1) := by decide +kernel
theorem dX7_readAtom_48 : decode cX7_readAtom 48 = .ok (.aload_n 2, 1) := by decide +kernel
theorem dX7_readAtom_49 : decode cX7_readAtom 49 = .ok (.aload_n 0, 1) := by decide +kernel
theorem dX7_readAtom_50 : decode cX7_readAtom 50 = .ok (.getfield 22, 3) := by decide +kernel
theorem dX7_readAtom_53 : decode cX7_readAtom 53 = .ok (.getfield 26, 3) := by decide +kernel
theorem dX7_readAtom_56 : decode cX7_readAtom 56 = .ok (.aload_n 0, 1) := by decide +kernel
theorem dX7_readAtom_57 : decode cX7_readAtom 57 = .ok (.getfield 12, 3) := by decide +kernel
theorem dX7_readAtom_60 : decode cX7_readAtom 60 = .ok (.getfield 167, 3) := by decide +kernel
theorem dX7_readAtom_63 : decode cX7_readAtom 63 = .ok (.aload_n 0, 1) := by decide +kernel
theorem dX7_readAtom_64 : decode cX7_readAtom 64 = .ok (.getfield 48, 3) := by decide +kernel
theorem dX7_readAtom_67 : decode cX7_readAtom 67 = .ok (.laload, 1) := by decide +kernel
theorem dX7_readAtom_68 : decode cX7_readAtom 68 = .ok (.invokevirtual 177, 3) := by decide +kernel
theorem dX7_readAtom_71 : decode cX7_readAtom 71 = .ok (.putfield 154, 3) := by decide +kernel
theorem dX7_readAtom_74 : decode cX7_readAtom 74 = .ok (.aload_n 2, 1) := by decide +kernel
theorem dX7_readAtom_75 : decode cX7_readAtom 75 = .ok (.aload_n 0, 1) := by decide +kernel
theorem dX7_readAtom_76 : decode cX7_readAtom 76 = .ok (.invokevirtual 122, 3) := by decide +kernel
theorem dX7_readAtom_79 : decode cX7_readAtom 79 = .ok (.putfield 99, 3) := by decide +kernel
theorem dX7_readAtom_82 : decode cX7_readAtom 82 = .ok (.aload_n 2, 1) := by decide +kernel
theorem dX7_readAtom_83 : decode cX7_readAtom 83 = .ok (.getfield 154, 3) := by decide +kernel
theorem dX7_readAtom_86 : decode cX7_readAtom 86 = .ok (.iconst (-1), 1) := by decide +kernel
theorem dX7_readAtom_87 : decode cX7_readAtom 87 = .ok (.if_icmp .ne 13, 3) := by decide +kernel
theorem dX7_readAtom_90 : decode cX7_readAtom 90 = .ok (.aload_n 0, 1) := by decide +kernel
theorem dX7_readAtom_91 : decode cX7_readAtom 91 = .ok (.iconst 4, 1) := by decide +kernel
theorem dX7_readAtom_92 : decode cX7_readAtom 92 = .ok (.aload_n 0, 1) := by decide +kernel
theorem dX7_readAtom_93 : decode cX7_readAtom 93 = .ok (.invokevirtual 122, 3) := by decide +kernel
theorem dX7_readAtom_96 : decode cX7_readAtom 96 = .ok (.invokevirtual 104, 3) := by decide +kernel
theorem dX7_readAtom_99 : decode cX7_readAtom 99 = .ok (.ireturn, 1) := by decide +kernel
theorem dX7_readAtom_100 : decode cX7_readAtom 100 = .ok (.aload_n 0, 1) := by decide +kernel
theorem dX7_readAtom_101 : decode cX7_readAtom 101 = .ok (.dup, 1) := by decide +kernel
theorem dX7_readAtom_102 : decode cX7_readAtom 102 = .ok (.getfield 48, 3) := by decide +kernel
theorem dX7_readAtom_105 : decode cX7_readAtom 105 = .ok (.iconst 1, 1) := by decide +kernel
theorem dX7_readAtom_106 : decode cX7_readAtom 106 = .ok (.iadd, 1) := by decide +kernel
theorem dX7_readAtom_107 : decode cX7_readAtom 107 = .ok (.putfield 48, 3) := by decide +kernel
theorem dX7_readAtom_110 : decode cX7_readAtom 110 = .ok (.aload_n 0, 1) := by decide +kernel
theorem dX7_readAtom_111 : decode cX7_readAtom 111 = .ok (.invokevirtual 63, 3) := by decide +kernel
theorem dX7_readAtom_114 : decode cX7_readAtom 114 = .ok (.bipush 40, 2) := by decide +kernel
theorem dX7_readAtom_116 : decode cX7_readAtom 116 = .ok (.if_icmp .ne 85, 3) := by decide +kernel
theorem dX7_readAtom_119 : decode cX7_readAtom 119 = .ok (.aload_n 0, 1) := by decide +kernel
theorem dX7_readAtom_120 : decode cX7_readAtom 120 = .ok (.dup, 1) := by decide +kernel
theorem dX7_readAtom_121 : decode cX7_readAtom 121 = .ok (.getfield 48, 3) := by decide +kernel
theorem dX7_readAtom_124 : decode cX7_readAtom 124 = .ok (.iconst 1, 1) := by decide +kernel
theorem dX7_readAtom_125 : decode cX7_readAtom 125 = .ok (.iadd, 1) := by decide +kernel
theorem dX7_readAtom_126 : decode cX7_readAtom 126 = .ok (.putfield 48, 3) := by decide +kernel
theorem dX7_readAtom_129 : decode cX7_readAtom 129 = .ok (.aload_n 0, 1) := by decide +kernel
theorem dX7_readAtom_130 : decode cX7_readAtom 130 = .ok (.aload_n 1, 1) := by decide +kernel
theorem dX7_readAtom_131 : decode cX7_readAtom 131 = .ok (.aload_n 2, 1) := by decide +kernel
theorem dX7_readAtom_132 : decode cX7_readAtom 132 = .ok (.iconst 1, 1) := by decide +kernel
theorem dX7_readAtom_133 : decode cX7_readAtom 133 = .ok (.invokevirtual 173, 3) := by decide +kernel
theorem dX7_readAtom_136 : decode cX7_readAtom 136 = .ok (.ifCond .ne 5, 3) := by decide +kernel
theorem dX7_readAtom_139 : decode cX7_readAtom 139 = .ok (.iconst 0, 1) := by decide +kernel
theorem dX7_readAtom_140 : decode cX7_readAtom 140 = .ok (.ireturn, 1) := by decide +kernel
theorem dX7_readAtom_141 : decode cX7_readAtom 141 = .ok (.aload_n 0, 1) := by decide +kernel
theorem dX7_readAtom_142 : decode cX7_readAtom 142 = .ok (.invokevirtual 63, 3) := by decide +kernel
theorem dX7_readAtom_145 : decode cX7_readAtom 145 = .ok (.bipush 44, 2) := by decide +kernel
theorem dX7_readAtom_147 : decode cX7_readAtom 147 = .ok (.if_icmp .ne 25, 3) := by decide +kernel
theorem dX7_readAtom_150 : decode cX7_readAtom 150 = .ok (.aload_n 0, 1) := by decide +kernel
theorem dX7_readAtom_151 : decode cX7_readAtom 151 = .ok (.dup, 1) := by decide +kernel
theorem dX7_readAtom_152 : decode cX7_readAtom 152 = .ok (.getfield 48, 3) := by decide +kernel
theorem dX7_readAtom_155 : decode cX7_readAtom 155 = .ok (.iconst 1, 1) := by decide +kernel
theorem dX7_readAtom_156 : decode cX7_readAtom 156 = .ok (.iadd, 1) := by decide +kernel
theorem dX7_readAtom_157 : decode cX7_readAtom 157 = .ok (.putfield 48, 3) := by decide +kernel
theorem dX7_readAtom_160 : decode cX7_readAtom 160 = .ok (.aload_n 0, 1) := by decide +kernel
theorem dX7_readAtom_161 : decode cX7_readAtom 161 = .ok (.aload_n 1, 1) := by decide +kernel
theorem dX7_readAtom_162 : decode cX7_readAtom 162 = .ok (.aload_n 2, 1) := by decide +kernel
theorem dX7_readAtom_163 : decode cX7_readAtom 163 = .ok (.iconst 0, 1) := by decide +kernel
theorem dX7_readAtom_164 : decode cX7_readAtom 164 = .ok (.invokevirtual 173, 3) := by decide +kernel
theorem dX7_readAtom_167 : decode cX7_readAtom 167 = .ok (.ifCond .ne 5, 3) := by decide +kernel
theorem dX7_readAtom_170 : decode cX7_readAtom 170 = .ok (.iconst 0, 1) := by decide +kernel
theorem dX7_readAtom_171 : decode cX7_readAtom 171 = .ok (.ireturn, 1) := by decide +kernel
theorem dX7_readAtom_172 : decode cX7_readAtom 172 = .ok (.aload_n 0, 1) := by decide +kernel
theorem dX7_readAtom_173 : decode cX7_readAtom 173 = .ok (.invokevirtual 63, 3) := by decide +kernel
theorem dX7_readAtom_176 : decode cX7_readAtom 176 = .ok (.bipush 41, 2) := by decide +kernel
theorem dX7_readAtom_178 : decode cX7_readAtom 178 = .ok (.if_icmp .eq 13, 3) := by decide +kernel
theorem dX7_readAtom_181 : decode cX7_readAtom 181 = .ok (.aload_n 0, 1) := by decide +kernel
theorem dX7_readAtom_182 : decode cX7_readAtom 182 = .ok (.iconst 1, 1) := by decide +kernel
theorem dX7_readAtom_183 : decode cX7_readAtom 183 = .ok (.aload_n 0, 1) := by decide +kernel
theorem dX7_readAtom_184 : decode cX7_readAtom 184 = .ok (.invokevirtual 122, 3) := by decide +kernel
theorem dX7_readAtom_187 : decode cX7_readAtom 187 = .ok (.invokevirtual 104, 3) := by decide +kernel
theorem dX7_readAtom_190 : decode cX7_readAtom 190 = .ok (.ireturn, 1) := by decide +kernel
theorem dX7_readAtom_191 : decode cX7_readAtom 191 = .ok (.aload_n 0, 1) := by decide +kernel
theorem dX7_readAtom_192 : decode cX7_readAtom 192 = .ok (.dup, 1) := by decide +kernel
theorem dX7_readAtom_193 : decode cX7_readAtom 193 = .ok (.getfield 48, 3) := by decide +kernel
theorem dX7_readAtom_196 : decode cX7_readAtom 196 = .ok (.iconst 1, 1) := by decide +kernel
theorem dX7_readAtom_197 : decode cX7_readAtom 197 = .ok (.iadd, 1) := by decide +kernel
theorem dX7_readAtom_198 : decode cX7_readAtom 198 = .ok (.putfield 48, 3) := by decide +kernel
theorem dX7_readAtom_201 : decode cX7_readAtom 201 = .ok (.aload_n 0, 1) := by decide +kernel
theorem dX7_readAtom_202 : decode cX7_readAtom 202 = .ok (.aload_n 2, 1) := by decide +kernel
theorem dX7_readAtom_203 : decode cX7_readAtom 203 = .ok (.aload_n 2, 1) := by decide +kernel
theorem dX7_readAtom_204 : decode cX7_readAtom 204 = .ok (.getfield 154, 3) := by decide +kernel
theorem dX7_readAtom_207 : decode cX7_readAtom 207 = .ok (.iload_n 3, 1) := by decide +kernel
theorem dX7_readAtom_208 : decode cX7_readAtom 208 = .ok (.if_icmp .ne 7, 3) := by decide +kernel
theorem dX7_readAtom_211 : decode cX7_readAtom 211 = .ok (.iconst 1, 1) := by decide +kernel
theorem dX7_readAtom_212 : decode cX7_readAtom 212 = .ok (.goto 4, 3) := by decide +kernel
theorem dX7_readAtom_215 : decode cX7_readAtom 215 = .ok (.iconst 0, 1) := by decide +kernel
theorem dX7_readAtom_216 : decode cX7_readAtom 216 = .ok (.invokevirtual 181, 3) := by decide +kernel
theorem dX7_readAtom_219 : decode cX7_readAtom 219 = .ok (.ireturn, 1) := by decide +kernel
theorem dX7_hasItsPlaces_0 : decode cX7_hasItsPlaces 0 = .ok (.aload_n 1, 1) := by decide +kernel
theorem dX7_hasItsPlaces_1 : decode cX7_hasItsPlaces 1 = .ok (.getfield 136, 3) := by decide +kernel
theorem dX7_hasItsPlaces_4 : decode cX7_hasItsPlaces 4 = .ok (.iconst (-1), 1) := by decide +kernel
theorem dX7_hasItsPlaces_5 : decode cX7_hasItsPlaces 5 = .ok (.if_icmp .ne 7, 3) := by decide +kernel
theorem dX7_hasItsPlaces_8 : decode cX7_hasItsPlaces 8 = .ok (.iconst 0, 1) := by decide +kernel
theorem dX7_hasItsPlaces_9 : decode cX7_hasItsPlaces 9 = .ok (.goto 16, 3) := by decide +kernel
theorem dX7_hasItsPlaces_12 : decode cX7_hasItsPlaces 12 = .ok (.aload_n 1, 1) := by decide +kernel
theorem dX7_hasItsPlaces_13 : decode cX7_hasItsPlaces 13 = .ok (.getfield 142, 3) := by decide +kernel
theorem dX7_hasItsPlaces_16 : decode cX7_hasItsPlaces 16 = .ok (.iconst (-1), 1) := by decide +kernel
theorem dX7_hasItsPlaces_17 : decode cX7_hasItsPlaces 17 = .ok (.if_icmp .ne 7, 3) := by decide +kernel
theorem dX7_hasItsPlaces_20 : decode cX7_hasItsPlaces 20 = .ok (.iconst 1, 1) := by decide +kernel
theorem dX7_hasItsPlaces_21 : decode cX7_hasItsPlaces 21 = .ok (.goto 4, 3) := by decide +kernel
theorem dX7_hasItsPlaces_24 : decode cX7_hasItsPlaces 24 = .ok (.iconst 2, 1) := by decide +kernel
theorem dX7_hasItsPlaces_25 : decode cX7_hasItsPlaces 25 = .ok (.istore_n 3, 1) := by decide +kernel
theorem dX7_hasItsPlaces_26 : decode cX7_hasItsPlaces 26 = .ok (.iload_n 2, 1) := by decide +kernel
theorem dX7_hasItsPlaces_27 : decode cX7_hasItsPlaces 27 = .ok (.ifCond .eq 16, 3) := by decide +kernel
theorem dX7_hasItsPlaces_30 : decode cX7_hasItsPlaces 30 = .ok (.aload_n 0, 1) := by decide +kernel
theorem dX7_hasItsPlaces_31 : decode cX7_hasItsPlaces 31 = .ok (.getfield 22, 3) := by decide +kernel
theorem dX7_hasItsPlaces_34 : decode cX7_hasItsPlaces 34 = .ok (.getfield 185, 3) := by decide +kernel
theorem dX7_hasItsPlaces_37 : decode cX7_hasItsPlaces 37 = .ok (.aload_n 1, 1) := by decide +kernel
theorem dX7_hasItsPlaces_38 : decode cX7_hasItsPlaces 38 = .ok (.getfield 154, 3) := by decide +kernel
theorem dX7_hasItsPlaces_41 : decode cX7_hasItsPlaces 41 = .ok (.iload_n 3, 1) := by decide +kernel
theorem dX7_hasItsPlaces_42 : decode cX7_hasItsPlaces 42 = .ok (.iastore, 1) := by decide +kernel
theorem dX7_hasItsPlaces_43 : decode cX7_hasItsPlaces 43 = .ok (.aload_n 0, 1) := by decide +kernel
theorem dX7_hasItsPlaces_44 : decode cX7_hasItsPlaces 44 = .ok (.getfield 22, 3) := by decide +kernel
theorem dX7_hasItsPlaces_47 : decode cX7_hasItsPlaces 47 = .ok (.getfield 185, 3) := by decide +kernel
theorem dX7_hasItsPlaces_50 : decode cX7_hasItsPlaces 50 = .ok (.aload_n 1, 1) := by decide +kernel
theorem dX7_hasItsPlaces_51 : decode cX7_hasItsPlaces 51 = .ok (.getfield 154, 3) := by decide +kernel
theorem dX7_hasItsPlaces_54 : decode cX7_hasItsPlaces 54 = .ok (.iaload, 1) := by decide +kernel
theorem dX7_hasItsPlaces_55 : decode cX7_hasItsPlaces 55 = .ok (.iload_n 3, 1) := by decide +kernel
theorem dX7_hasItsPlaces_56 : decode cX7_hasItsPlaces 56 = .ok (.if_icmp .eq 13, 3) := by decide +kernel
theorem dX7_hasItsPlaces_59 : decode cX7_hasItsPlaces 59 = .ok (.aload_n 0, 1) := by decide +kernel
theorem dX7_hasItsPlaces_60 : decode cX7_hasItsPlaces 60 = .ok (.iconst 2, 1) := by decide +kernel
theorem dX7_hasItsPlaces_61 : decode cX7_hasItsPlaces 61 = .ok (.aload_n 1, 1) := by decide +kernel
theorem dX7_hasItsPlaces_62 : decode cX7_hasItsPlaces 62 = .ok (.getfield 99, 3) := by decide +kernel
theorem dX7_hasItsPlaces_65 : decode cX7_hasItsPlaces 65 = .ok (.invokevirtual 104, 3) := by decide +kernel
theorem dX7_hasItsPlaces_68 : decode cX7_hasItsPlaces 68 = .ok (.ireturn, 1) := by decide +kernel
theorem dX7_hasItsPlaces_69 : decode cX7_hasItsPlaces 69 = .ok (.iconst 1, 1) := by decide +kernel
theorem dX7_hasItsPlaces_70 : decode cX7_hasItsPlaces 70 = .ok (.ireturn, 1) := by decide +kernel
theorem dX7_readArg_0 : decode cX7_readArg 0 = .ok (.aload_n 0, 1) := by decide +kernel
theorem dX7_readArg_1 : decode cX7_readArg 1 = .ok (.invokevirtual 63, 3) := by decide +kernel
theorem dX7_readArg_4 : decode cX7_readArg 4 = .ok (.iconst 2, 1) := by decide +kernel
theorem dX7_readArg_5 : decode cX7_readArg 5 = .ok (.if_icmp .ne 30, 3) := by decide +kernel
theorem dX7_readArg_8 : decode cX7_readArg 8 = .ok (.aload_n 0, 1) := by decide +kernel
theorem dX7_readArg_9 : decode cX7_readArg 9 = .ok (.getfield 22, 3) := by decide +kernel
theorem dX7_readArg_12 : decode cX7_readArg 12 = .ok (.getfield 38, 3) := by decide +kernel
theorem dX7_readArg_15 : decode cX7_readArg 15 = .ok (.aload_n 0, 1) := by decide +kernel
theorem dX7_readArg_16 : decode cX7_readArg 16 = .ok (.getfield 12, 3) := by decide +kernel
theorem dX7_readArg_19 : decode cX7_readArg 19 = .ok (.getfield 167, 3) := by decide +kernel
theorem dX7_readArg_22 : decode cX7_readArg 22 = .ok (.aload_n 0, 1) := by decide +kernel
theorem dX7_readArg_23 : decode cX7_readArg 23 = .ok (.getfield 48, 3) := by decide +kernel
theorem dX7_readArg_26 : decode cX7_readArg 26 = .ok (.laload, 1) := by decide +kernel
theorem dX7_readArg_27 : decode cX7_readArg 27 = .ok (.invokevirtual 177, 3) := by decide +kernel
theorem dX7_readArg_30 : decode cX7_readArg 30 = .ok (.istore 4, 2) := by decide +kernel
theorem dX7_readArg_32 : decode cX7_readArg 32 = .ok (.goto 43, 3) := by decide +kernel
theorem dX7_readArg_35 : decode cX7_readArg 35 = .ok (.aload_n 0, 1) := by decide +kernel
theorem dX7_readArg_36 : decode cX7_readArg 36 = .ok (.invokevirtual 63, 3) := by decide +kernel
theorem dX7_readArg_39 : decode cX7_readArg 39 = .ok (.iconst 3, 1) := by decide +kernel
theorem dX7_readArg_40 : decode cX7_readArg 40 = .ok (.if_icmp .ne 25, 3) := by decide +kernel
theorem dX7_readArg_43 : decode cX7_readArg 43 = .ok (.aload_n 1, 1) := by decide +kernel
theorem dX7_readArg_44 : decode cX7_readArg 44 = .ok (.aload_n 0, 1) := by decide +kernel
theorem dX7_readArg_45 : decode cX7_readArg 45 = .ok (.getfield 12, 3) := by decide +kernel
theorem dX7_readArg_48 : decode cX7_readArg 48 = .ok (.getfield 167, 3) := by decide +kernel
theorem dX7_readArg_51 : decode cX7_readArg 51 = .ok (.aload_n 0, 1) := by decide +kernel
theorem dX7_readArg_52 : decode cX7_readArg 52 = .ok (.getfield 48, 3) := by decide +kernel
theorem dX7_readArg_55 : decode cX7_readArg 55 = .ok (.laload, 1) := by decide +kernel
theorem dX7_readArg_56 : decode cX7_readArg 56 = .ok (.l2i, 1) := by decide +kernel
theorem dX7_readArg_57 : decode cX7_readArg 57 = .ok (.invokevirtual 188, 3) := by decide +kernel
theorem dX7_readArg_60 : decode cX7_readArg 60 = .ok (.istore 4, 2) := by decide +kernel
theorem dX7_readArg_62 : decode cX7_readArg 62 = .ok (.goto 13, 3) := by decide +kernel
theorem dX7_readArg_65 : decode cX7_readArg 65 = .ok (.aload_n 0, 1) := by decide +kernel
theorem dX7_readArg_66 : decode cX7_readArg 66 = .ok (.iconst 1, 1) := by decide +kernel
theorem dX7_readArg_67 : decode cX7_readArg 67 = .ok (.aload_n 0, 1) := by decide +kernel
theorem dX7_readArg_68 : decode cX7_readArg 68 = .ok (.invokevirtual 122, 3) := by decide +kernel
theorem dX7_readArg_71 : decode cX7_readArg 71 = .ok (.invokevirtual 104, 3) := by decide +kernel
theorem dX7_readArg_74 : decode cX7_readArg 74 = .ok (.ireturn, 1) := by decide +kernel
theorem dX7_readArg_75 : decode cX7_readArg 75 = .ok (.iload 4, 2) := by decide +kernel
theorem dX7_readArg_77 : decode cX7_readArg 77 = .ok (.iconst (-1), 1) := by decide +kernel
theorem dX7_readArg_78 : decode cX7_readArg 78 = .ok (.if_icmp .ne 13, 3) := by decide +kernel
theorem dX7_readArg_81 : decode cX7_readArg 81 = .ok (.aload_n 0, 1) := by decide +kernel
theorem dX7_readArg_82 : decode cX7_readArg 82 = .ok (.iconst 4, 1) := by decide +kernel
theorem dX7_readArg_83 : decode cX7_readArg 83 = .ok (.aload_n 0, 1) := by decide +kernel
theorem dX7_readArg_84 : decode cX7_readArg 84 = .ok (.invokevirtual 122, 3) := by decide +kernel
theorem dX7_readArg_87 : decode cX7_readArg 87 = .ok (.invokevirtual 104, 3) := by decide +kernel
theorem dX7_readArg_90 : decode cX7_readArg 90 = .ok (.ireturn, 1) := by decide +kernel
theorem dX7_readArg_91 : decode cX7_readArg 91 = .ok (.aload_n 2, 1) := by decide +kernel
theorem dX7_readArg_92 : decode cX7_readArg 92 = .ok (.iload_n 3, 1) := by decide +kernel
theorem dX7_readArg_93 : decode cX7_readArg 93 = .ok (.iload 4, 2) := by decide +kernel
theorem dX7_readArg_95 : decode cX7_readArg 95 = .ok (.aload_n 0, 1) := by decide +kernel
theorem dX7_readArg_96 : decode cX7_readArg 96 = .ok (.invokevirtual 122, 3) := by decide +kernel
theorem dX7_readArg_99 : decode cX7_readArg 99 = .ok (.invokevirtual 192, 3) := by decide +kernel
theorem dX7_readArg_102 : decode cX7_readArg 102 = .ok (.aload_n 0, 1) := by decide +kernel
theorem dX7_readArg_103 : decode cX7_readArg 103 = .ok (.dup, 1) := by decide +kernel
theorem dX7_readArg_104 : decode cX7_readArg 104 = .ok (.getfield 48, 3) := by decide +kernel
theorem dX7_readArg_107 : decode cX7_readArg 107 = .ok (.iconst 1, 1) := by decide +kernel
theorem dX7_readArg_108 : decode cX7_readArg 108 = .ok (.iadd, 1) := by decide +kernel
theorem dX7_readArg_109 : decode cX7_readArg 109 = .ok (.putfield 48, 3) := by decide +kernel
theorem dX7_readArg_112 : decode cX7_readArg 112 = .ok (.iconst 1, 1) := by decide +kernel
theorem dX7_readArg_113 : decode cX7_readArg 113 = .ok (.ireturn, 1) := by decide +kernel
theorem dX7_type_0 : decode cX7_type 0 = .ok (.aload_n 0, 1) := by decide +kernel
theorem dX7_type_1 : decode cX7_type 1 = .ok (.getfield 48, 3) := by decide +kernel
theorem dX7_type_4 : decode cX7_type 4 = .ok (.aload_n 0, 1) := by decide +kernel
theorem dX7_type_5 : decode cX7_type 5 = .ok (.getfield 12, 3) := by decide +kernel
theorem dX7_type_8 : decode cX7_type 8 = .ok (.getfield 196, 3) := by decide +kernel
theorem dX7_type_11 : decode cX7_type 11 = .ok (.if_icmp .ge 18, 3) := by decide +kernel
theorem dX7_type_14 : decode cX7_type 14 = .ok (.aload_n 0, 1) := by decide +kernel
theorem dX7_type_15 : decode cX7_type 15 = .ok (.getfield 12, 3) := by decide +kernel
theorem dX7_type_18 : decode cX7_type 18 = .ok (.getfield 197, 3) := by decide +kernel
theorem dX7_type_21 : decode cX7_type 21 = .ok (.aload_n 0, 1) := by decide +kernel
theorem dX7_type_22 : decode cX7_type 22 = .ok (.getfield 48, 3) := by decide +kernel
theorem dX7_type_25 : decode cX7_type 25 = .ok (.iaload, 1) := by decide +kernel
theorem dX7_type_26 : decode cX7_type 26 = .ok (.goto 4, 3) := by decide +kernel
theorem dX7_type_29 : decode cX7_type 29 = .ok (.iconst 0, 1) := by decide +kernel
theorem dX7_type_30 : decode cX7_type 30 = .ok (.ireturn, 1) := by decide +kernel
theorem dX7_nextType_0 : decode cX7_nextType 0 = .ok (.aload_n 0, 1) := by decide +kernel
theorem dX7_nextType_1 : decode cX7_nextType 1 = .ok (.getfield 48, 3) := by decide +kernel
theorem dX7_nextType_4 : decode cX7_nextType 4 = .ok (.iconst 1, 1) := by decide +kernel
theorem dX7_nextType_5 : decode cX7_nextType 5 = .ok (.iadd, 1) := by decide +kernel
theorem dX7_nextType_6 : decode cX7_nextType 6 = .ok (.aload_n 0, 1) := by decide +kernel
theorem dX7_nextType_7 : decode cX7_nextType 7 = .ok (.getfield 12, 3) := by decide +kernel
theorem dX7_nextType_10 : decode cX7_nextType 10 = .ok (.getfield 196, 3) := by decide +kernel
theorem dX7_nextType_13 : decode cX7_nextType 13 = .ok (.if_icmp .ge 20, 3) := by decide +kernel
theorem dX7_nextType_16 : decode cX7_nextType 16 = .ok (.aload_n 0, 1) := by decide +kernel
theorem dX7_nextType_17 : decode cX7_nextType 17 = .ok (.getfield 12, 3) := by decide +kernel
theorem dX7_nextType_20 : decode cX7_nextType 20 = .ok (.getfield 197, 3) := by decide +kernel
theorem dX7_nextType_23 : decode cX7_nextType 23 = .ok (.aload_n 0, 1) := by decide +kernel
theorem dX7_nextType_24 : decode cX7_nextType 24 = .ok (.getfield 48, 3) := by decide +kernel
theorem dX7_nextType_27 : decode cX7_nextType 27 = .ok (.iconst 1, 1) := by decide +kernel
theorem dX7_nextType_28 : decode cX7_nextType 28 = .ok (.iadd, 1) := by decide +kernel
theorem dX7_nextType_29 : decode cX7_nextType 29 = .ok (.iaload, 1) := by decide +kernel
theorem dX7_nextType_30 : decode cX7_nextType 30 = .ok (.goto 4, 3) := by decide +kernel
theorem dX7_nextType_33 : decode cX7_nextType 33 = .ok (.iconst 0, 1) := by decide +kernel
theorem dX7_nextType_34 : decode cX7_nextType 34 = .ok (.ireturn, 1) := by decide +kernel
theorem dX7_start_0 : decode cX7_start 0 = .ok (.aload_n 0, 1) := by decide +kernel
theorem dX7_start_1 : decode cX7_start 1 = .ok (.getfield 48, 3) := by decide +kernel
theorem dX7_start_4 : decode cX7_start 4 = .ok (.aload_n 0, 1) := by decide +kernel
theorem dX7_start_5 : decode cX7_start 5 = .ok (.getfield 12, 3) := by decide +kernel
theorem dX7_start_8 : decode cX7_start 8 = .ok (.getfield 196, 3) := by decide +kernel
theorem dX7_start_11 : decode cX7_start 11 = .ok (.if_icmp .ge 18, 3) := by decide +kernel
theorem dX7_start_14 : decode cX7_start 14 = .ok (.aload_n 0, 1) := by decide +kernel
theorem dX7_start_15 : decode cX7_start 15 = .ok (.getfield 12, 3) := by decide +kernel
theorem dX7_start_18 : decode cX7_start 18 = .ok (.getfield 200, 3) := by decide +kernel
theorem dX7_start_21 : decode cX7_start 21 = .ok (.aload_n 0, 1) := by decide +kernel
theorem dX7_start_22 : decode cX7_start 22 = .ok (.getfield 48, 3) := by decide +kernel
theorem dX7_start_25 : decode cX7_start 25 = .ok (.iaload, 1) := by decide +kernel
theorem dX7_start_26 : decode cX7_start 26 = .ok (.goto 4, 3) := by decide +kernel
theorem dX7_start_29 : decode cX7_start 29 = .ok (.iconst (-1), 1) := by decide +kernel
theorem dX7_start_30 : decode cX7_start 30 = .ok (.ireturn, 1) := by decide +kernel
theorem dX7_fail_0 : decode cX7_fail 0 = .ok (.aload_n 0, 1) := by decide +kernel
theorem dX7_fail_1 : decode cX7_fail 1 = .ok (.iload_n 1, 1) := by decide +kernel
theorem dX7_fail_2 : decode cX7_fail 2 = .ok (.putfield 57, 3) := by decide +kernel
theorem dX7_fail_5 : decode cX7_fail 5 = .ok (.aload_n 0, 1) := by decide +kernel
theorem dX7_fail_6 : decode cX7_fail 6 = .ok (.iload_n 2, 1) := by decide +kernel
theorem dX7_fail_7 : decode cX7_fail 7 = .ok (.putfield 60, 3) := by decide +kernel
theorem dX7_fail_10 : decode cX7_fail 10 = .ok (.iconst 0, 1) := by decide +kernel
theorem dX7_fail_11 : decode cX7_fail 11 = .ok (.ireturn, 1) := by decide +kernel
theorem dX8_init_0 : decode cX8_init 0 = .ok (.aload_n 0, 1) := by decide +kernel
theorem dX8_init_1 : decode cX8_init 1 = .ok (.invokespecial 3, 3) := by decide +kernel
theorem dX8_init_4 : decode cX8_init 4 = .ok (.aload_n 0, 1) := by decide +kernel
theorem dX8_init_5 : decode cX8_init 5 = .ok (.new 9, 3) := by decide +kernel
theorem dX8_init_8 : decode cX8_init 8 = .ok (.dup, 1) := by decide +kernel
theorem dX8_init_9 : decode cX8_init 9 = .ok (.invokespecial 11, 3) := by decide +kernel
theorem dX8_init_12 : decode cX8_init 12 = .ok (.putfield 12, 3) := by decide +kernel
theorem dX8_init_15 : decode cX8_init 15 = .ok (.aload_n 0, 1) := by decide +kernel
theorem dX8_init_16 : decode cX8_init 16 = .ok (.iconst 4, 1) := by decide +kernel
theorem dX8_init_17 : decode cX8_init 17 = .ok (.anewarray 9, 3) := by decide +kernel
theorem dX8_init_20 : decode cX8_init 20 = .ok (.putfield 18, 3) := by decide +kernel
theorem dX8_init_23 : decode cX8_init 23 = .ok (.aload_n 0, 1) := by decide +kernel
theorem dX8_init_24 : decode cX8_init 24 = .ok (.iconst 3, 1) := by decide +kernel
theorem dX8_init_25 : decode cX8_init 25 = .ok (.newarray .int, 2) := by decide +kernel
theorem dX8_init_27 : decode cX8_init 27 = .ok (.putfield 22, 3) := by decide +kernel
theorem dX8_init_30 : decode cX8_init 30 = .ok (.iconst 0, 1) := by decide +kernel
theorem dX8_init_31 : decode cX8_init 31 = .ok (.istore_n 1, 1) := by decide +kernel
theorem dX8_init_32 : decode cX8_init 32 = .ok (.iload_n 1, 1) := by decide +kernel
theorem dX8_init_33 : decode cX8_init 33 = .ok (.iconst 4, 1) := by decide +kernel
theorem dX8_init_34 : decode cX8_init 34 = .ok (.if_icmp .ge 22, 3) := by decide +kernel
theorem dX8_init_37 : decode cX8_init 37 = .ok (.aload_n 0, 1) := by decide +kernel
theorem dX8_init_38 : decode cX8_init 38 = .ok (.getfield 18, 3) := by decide +kernel
theorem dX8_init_41 : decode cX8_init 41 = .ok (.iload_n 1, 1) := by decide +kernel
theorem dX8_init_42 : decode cX8_init 42 = .ok (.new 9, 3) := by decide +kernel
theorem dX8_init_45 : decode cX8_init 45 = .ok (.dup, 1) := by decide +kernel
theorem dX8_init_46 : decode cX8_init 46 = .ok (.invokespecial 11, 3) := by decide +kernel
theorem dX8_init_49 : decode cX8_init 49 = .ok (.aastore, 1) := by decide +kernel
theorem dX8_init_50 : decode cX8_init 50 = .ok (.iinc 1 1, 3) := by decide +kernel
theorem dX8_init_53 : decode cX8_init 53 = .ok (.goto (-21), 3) := by decide +kernel
theorem dX8_init_56 : decode cX8_init 56 = .ok (.return_, 1) := by decide +kernel
theorem dX8_clear_0 : decode cX8_clear 0 = .ok (.aload_n 0, 1) := by decide +kernel
theorem dX8_clear_1 : decode cX8_clear 1 = .ok (.iconst 0, 1) := by decide +kernel
theorem dX8_clear_2 : decode cX8_clear 2 = .ok (.putfield 26, 3) := by decide +kernel
theorem dX8_clear_5 : decode cX8_clear 5 = .ok (.aload_n 0, 1) := by decide +kernel
theorem dX8_clear_6 : decode cX8_clear 6 = .ok (.iconst 0, 1) := by decide +kernel
theorem dX8_clear_7 : decode cX8_clear 7 = .ok (.putfield 30, 3) := by decide +kernel
theorem dX8_clear_10 : decode cX8_clear 10 = .ok (.return_, 1) := by decide +kernel
theorem dX8_findOrAddSign_0 : decode cX8_findOrAddSign 0 = .ok (.iconst 0, 1) := by decide +kernel
theorem dX8_findOrAddSign_1 : decode cX8_findOrAddSign 1 = .ok (.istore_n 2, 1) := by decide +kernel
theorem dX8_findOrAddSign_2 : decode cX8_findOrAddSign 2 = .ok (.iload_n 2, 1) := by decide +kernel
theorem dX8_findOrAddSign_3 : decode cX8_findOrAddSign 3 = .ok (.aload_n 0, 1) := by decide +kernel
theorem dX8_findOrAddSign_4 : decode cX8_findOrAddSign 4 = .ok (.getfield 30, 3) := by decide +kernel
theorem dX8_findOrAddSign_7 : decode cX8_findOrAddSign 7 = .ok (.if_icmp .ge 24, 3) := by decide +kernel
theorem dX8_findOrAddSign_10 : decode cX8_findOrAddSign 10 = .ok (.aload_n 0, 1) := by decide +kernel
theorem dX8_findOrAddSign_11 : decode cX8_findOrAddSign 11 = .ok (.getfield 22, 3) := by decide +kernel
theorem dX8_findOrAddSign_14 : decode cX8_findOrAddSign 14 = .ok (.iload_n 2, 1) := by decide +kernel
theorem dX8_findOrAddSign_15 : decode cX8_findOrAddSign 15 = .ok (.iaload, 1) := by decide +kernel
theorem dX8_findOrAddSign_16 : decode cX8_findOrAddSign 16 = .ok (.iload_n 1, 1) := by decide +kernel
theorem dX8_findOrAddSign_17 : decode cX8_findOrAddSign 17 = .ok (.if_icmp .ne 8, 3) := by decide +kernel
theorem dX8_findOrAddSign_20 : decode cX8_findOrAddSign 20 = .ok (.bipush 100, 2) := by decide +kernel
theorem dX8_findOrAddSign_22 : decode cX8_findOrAddSign 22 = .ok (.iload_n 2, 1) := by decide +kernel
theorem dX8_findOrAddSign_23 : decode cX8_findOrAddSign 23 = .ok (.iadd, 1) := by decide +kernel
theorem dX8_findOrAddSign_24 : decode cX8_findOrAddSign 24 = .ok (.ireturn, 1) := by decide +kernel
theorem dX8_findOrAddSign_25 : decode cX8_findOrAddSign 25 = .ok (.iinc 2 1, 3) := by decide +kernel
theorem dX8_findOrAddSign_28 : decode cX8_findOrAddSign 28 = .ok (.goto (-26), 3) := by decide +kernel
theorem dX8_findOrAddSign_31 : decode cX8_findOrAddSign 31 = .ok (.aload_n 0, 1) := by decide +kernel
theorem dX8_findOrAddSign_32 : decode cX8_findOrAddSign 32 = .ok (.getfield 30, 3) := by decide +kernel
theorem dX8_findOrAddSign_35 : decode cX8_findOrAddSign 35 = .ok (.iconst 3, 1) := by decide +kernel
theorem dX8_findOrAddSign_36 : decode cX8_findOrAddSign 36 = .ok (.if_icmp .lt 5, 3) := by decide +kernel
theorem dX8_findOrAddSign_39 : decode cX8_findOrAddSign 39 = .ok (.iconst (-1), 1) := by decide +kernel
theorem dX8_findOrAddSign_40 : decode cX8_findOrAddSign 40 = .ok (.ireturn, 1) := by decide +kernel
theorem dX8_findOrAddSign_41 : decode cX8_findOrAddSign 41 = .ok (.aload_n 0, 1) := by decide +kernel
theorem dX8_findOrAddSign_42 : decode cX8_findOrAddSign 42 = .ok (.getfield 22, 3) := by decide +kernel
theorem dX8_findOrAddSign_45 : decode cX8_findOrAddSign 45 = .ok (.aload_n 0, 1) := by decide +kernel
theorem dX8_findOrAddSign_46 : decode cX8_findOrAddSign 46 = .ok (.getfield 30, 3) := by decide +kernel
theorem dX8_findOrAddSign_49 : decode cX8_findOrAddSign 49 = .ok (.iload_n 1, 1) := by decide +kernel
theorem dX8_findOrAddSign_50 : decode cX8_findOrAddSign 50 = .ok (.iastore, 1) := by decide +kernel
theorem dX8_findOrAddSign_51 : decode cX8_findOrAddSign 51 = .ok (.aload_n 0, 1) := by decide +kernel
theorem dX8_findOrAddSign_52 : decode cX8_findOrAddSign 52 = .ok (.dup, 1) := by decide +kernel
theorem dX8_findOrAddSign_53 : decode cX8_findOrAddSign 53 = .ok (.getfield 30, 3) := by decide +kernel
theorem dX8_findOrAddSign_56 : decode cX8_findOrAddSign 56 = .ok (.iconst 1, 1) := by decide +kernel
theorem dX8_findOrAddSign_57 : decode cX8_findOrAddSign 57 = .ok (.iadd, 1) := by decide +kernel
theorem dX8_findOrAddSign_58 : decode cX8_findOrAddSign 58 = .ok (.putfield 30, 3) := by decide +kernel
theorem dX8_findOrAddSign_61 : decode cX8_findOrAddSign 61 = .ok (.bipush 100, 2) := by decide +kernel
theorem dX8_findOrAddSign_63 : decode cX8_findOrAddSign 63 = .ok (.aload_n 0, 1) := by decide +kernel
theorem dX8_findOrAddSign_64 : decode cX8_findOrAddSign 64 = .ok (.getfield 30, 3) := by decide +kernel
theorem dX8_findOrAddSign_67 : decode cX8_findOrAddSign 67 = .ok (.iadd, 1) := by decide +kernel
theorem dX8_findOrAddSign_68 : decode cX8_findOrAddSign 68 = .ok (.iconst 1, 1) := by decide +kernel
theorem dX8_findOrAddSign_69 : decode cX8_findOrAddSign 69 = .ok (.isub, 1) := by decide +kernel
theorem dX8_findOrAddSign_70 : decode cX8_findOrAddSign 70 = .ok (.ireturn, 1) := by decide +kernel
theorem dX8_loosePlace_0 : decode cX8_loosePlace 0 = .ok (.aload_n 0, 1) := by decide +kernel
theorem dX8_loosePlace_1 : decode cX8_loosePlace 1 = .ok (.aload_n 1, 1) := by decide +kernel
theorem dX8_loosePlace_2 : decode cX8_loosePlace 2 = .ok (.getfield 33, 3) := by decide +kernel
theorem dX8_loosePlace_5 : decode cX8_loosePlace 5 = .ok (.invokevirtual 36, 3) := by decide +kernel
theorem dX8_loosePlace_8 : decode cX8_loosePlace 8 = .ok (.ifCond .eq 8, 3) := by decide +kernel
theorem dX8_loosePlace_11 : decode cX8_loosePlace 11 = .ok (.aload_n 1, 1) := by decide +kernel
theorem dX8_loosePlace_12 : decode cX8_loosePlace 12 = .ok (.getfield 40, 3) := by decide +kernel
theorem dX8_loosePlace_15 : decode cX8_loosePlace 15 = .ok (.ireturn, 1) := by decide +kernel
theorem dX8_loosePlace_16 : decode cX8_loosePlace 16 = .ok (.aload_n 0, 1) := by decide +kernel
theorem dX8_loosePlace_17 : decode cX8_loosePlace 17 = .ok (.aload_n 1, 1) := by decide +kernel
theorem dX8_loosePlace_18 : decode cX8_loosePlace 18 = .ok (.getfield 43, 3) := by decide +kernel
theorem dX8_loosePlace_21 : decode cX8_loosePlace 21 = .ok (.invokevirtual 36, 3) := by decide +kernel
theorem dX8_loosePlace_24 : decode cX8_loosePlace 24 = .ok (.ifCond .eq 10, 3) := by decide +kernel
theorem dX8_loosePlace_27 : decode cX8_loosePlace 27 = .ok (.aload_n 1, 1) := by decide +kernel
theorem dX8_loosePlace_28 : decode cX8_loosePlace 28 = .ok (.getfield 46, 3) := by decide +kernel
theorem dX8_loosePlace_31 : decode cX8_loosePlace 31 = .ok (.goto 4, 3) := by decide +kernel
theorem dX8_loosePlace_34 : decode cX8_loosePlace 34 = .ok (.iconst (-1), 1) := by decide +kernel
theorem dX8_loosePlace_35 : decode cX8_loosePlace 35 = .ok (.ireturn, 1) := by decide +kernel
theorem dX8_isLoose_0 : decode cX8_isLoose 0 = .ok (.iload_n 1, 1) := by decide +kernel
theorem dX8_isLoose_1 : decode cX8_isLoose 1 = .ok (.bipush 100, 2) := by decide +kernel
theorem dX8_isLoose_3 : decode cX8_isLoose 3 = .ok (.if_icmp .ge 5, 3) := by decide +kernel
theorem dX8_isLoose_6 : decode cX8_isLoose 6 = .ok (.iconst 0, 1) := by decide +kernel
theorem dX8_isLoose_7 : decode cX8_isLoose 7 = .ok (.ireturn, 1) := by decide +kernel
theorem dX8_isLoose_8 : decode cX8_isLoose 8 = .ok (.iconst 0, 1) := by decide +kernel
theorem dX8_isLoose_9 : decode cX8_isLoose 9 = .ok (.istore_n 2, 1) := by decide +kernel
theorem dX8_isLoose_10 : decode cX8_isLoose 10 = .ok (.iload_n 2, 1) := by decide +kernel
theorem dX8_isLoose_11 : decode cX8_isLoose 11 = .ok (.aload_n 0, 1) := by decide +kernel
theorem dX8_isLoose_12 : decode cX8_isLoose 12 = .ok (.getfield 26, 3) := by decide +kernel
theorem dX8_isLoose_15 : decode cX8_isLoose 15 = .ok (.if_icmp .ge 41, 3) := by decide +kernel
theorem dX8_isLoose_18 : decode cX8_isLoose 18 = .ok (.aload_n 0, 1) := by decide +kernel
theorem dX8_isLoose_19 : decode cX8_isLoose 19 = .ok (.getfield 18, 3) := by decide +kernel
theorem dX8_isLoose_22 : decode cX8_isLoose 22 = .ok (.iload_n 2, 1) := by decide +kernel
theorem dX8_isLoose_23 : decode cX8_isLoose 23 = .ok (.aaload, 1) := by decide +kernel
theorem dX8_isLoose_24 : decode cX8_isLoose 24 = .ok (.astore_n 3, 1) := by decide +kernel
theorem dX8_isLoose_25 : decode cX8_isLoose 25 = .ok (.aload_n 3, 1) := by decide +kernel
theorem dX8_isLoose_26 : decode cX8_isLoose 26 = .ok (.getfield 49, 3) := by decide +kernel
theorem dX8_isLoose_29 : decode cX8_isLoose 29 = .ok (.ifCond .ne 21, 3) := by decide +kernel
theorem dX8_isLoose_32 : decode cX8_isLoose 32 = .ok (.aload_n 3, 1) := by decide +kernel
theorem dX8_isLoose_33 : decode cX8_isLoose 33 = .ok (.getfield 33, 3) := by decide +kernel
theorem dX8_isLoose_36 : decode cX8_isLoose 36 = .ok (.iload_n 1, 1) := by decide +kernel
theorem dX8_isLoose_37 : decode cX8_isLoose 37 = .ok (.if_icmp .eq 11, 3) := by decide +kernel
theorem dX8_isLoose_40 : decode cX8_isLoose 40 = .ok (.aload_n 3, 1) := by decide +kernel
theorem dX8_isLoose_41 : decode cX8_isLoose 41 = .ok (.getfield 43, 3) := by decide +kernel
theorem dX8_isLoose_44 : decode cX8_isLoose 44 = .ok (.iload_n 1, 1) := by decide +kernel
theorem dX8_isLoose_45 : decode cX8_isLoose 45 = .ok (.if_icmp .ne 5, 3) := by decide +kernel
theorem dX8_isLoose_48 : decode cX8_isLoose 48 = .ok (.iconst 0, 1) := by decide +kernel
theorem dX8_isLoose_49 : decode cX8_isLoose 49 = .ok (.ireturn, 1) := by decide +kernel
theorem dX8_isLoose_50 : decode cX8_isLoose 50 = .ok (.iinc 2 1, 3) := by decide +kernel
theorem dX8_isLoose_53 : decode cX8_isLoose 53 = .ok (.goto (-43), 3) := by decide +kernel
theorem dX8_isLoose_56 : decode cX8_isLoose 56 = .ok (.iconst 1, 1) := by decide +kernel
theorem dX8_isLoose_57 : decode cX8_isLoose 57 = .ok (.ireturn, 1) := by decide +kernel
theorem dX9_init_0 : decode cX9_init 0 = .ok (.aload_n 0, 1) := by decide +kernel
theorem dX9_init_1 : decode cX9_init 1 = .ok (.invokespecial 3, 3) := by decide +kernel
theorem dX9_init_4 : decode cX9_init 4 = .ok (.return_, 1) := by decide +kernel
theorem dX9_clear_0 : decode cX9_clear 0 = .ok (.aload_n 0, 1) := by decide +kernel
theorem dX9_clear_1 : decode cX9_clear 1 = .ok (.iload_n 1, 1) := by decide +kernel
theorem dX9_clear_2 : decode cX9_clear 2 = .ok (.putfield 9, 3) := by decide +kernel
theorem dX9_clear_5 : decode cX9_clear 5 = .ok (.aload_n 0, 1) := by decide +kernel
theorem dX9_clear_6 : decode cX9_clear 6 = .ok (.iconst (-1), 1) := by decide +kernel
theorem dX9_clear_7 : decode cX9_clear 7 = .ok (.putfield 15, 3) := by decide +kernel
theorem dX9_clear_10 : decode cX9_clear 10 = .ok (.aload_n 0, 1) := by decide +kernel
theorem dX9_clear_11 : decode cX9_clear 11 = .ok (.iconst (-1), 1) := by decide +kernel
theorem dX9_clear_12 : decode cX9_clear 12 = .ok (.putfield 18, 3) := by decide +kernel
theorem dX9_clear_15 : decode cX9_clear 15 = .ok (.aload_n 0, 1) := by decide +kernel
theorem dX9_clear_16 : decode cX9_clear 16 = .ok (.iconst (-1), 1) := by decide +kernel
theorem dX9_clear_17 : decode cX9_clear 17 = .ok (.putfield 21, 3) := by decide +kernel
theorem dX9_clear_20 : decode cX9_clear 20 = .ok (.return_, 1) := by decide +kernel
theorem dX9_setArg_0 : decode cX9_setArg 0 = .ok (.iload_n 1, 1) := by decide +kernel
theorem dX9_setArg_1 : decode cX9_setArg 1 = .ok (.ifCond .eq 16, 3) := by decide +kernel
theorem dX9_setArg_4 : decode cX9_setArg 4 = .ok (.aload_n 0, 1) := by decide +kernel
theorem dX9_setArg_5 : decode cX9_setArg 5 = .ok (.iload_n 2, 1) := by decide +kernel
theorem dX9_setArg_6 : decode cX9_setArg 6 = .ok (.putfield 18, 3) := by decide +kernel
theorem dX9_setArg_9 : decode cX9_setArg 9 = .ok (.aload_n 0, 1) := by decide +kernel
theorem dX9_setArg_10 : decode cX9_setArg 10 = .ok (.iload_n 3, 1) := by decide +kernel
theorem dX9_setArg_11 : decode cX9_setArg 11 = .ok (.putfield 24, 3) := by decide +kernel
theorem dX9_setArg_14 : decode cX9_setArg 14 = .ok (.goto 13, 3) := by decide +kernel
theorem dX9_setArg_17 : decode cX9_setArg 17 = .ok (.aload_n 0, 1) := by decide +kernel
theorem dX9_setArg_18 : decode cX9_setArg 18 = .ok (.iload_n 2, 1) := by decide +kernel
theorem dX9_setArg_19 : decode cX9_setArg 19 = .ok (.putfield 21, 3) := by decide +kernel
theorem dX9_setArg_22 : decode cX9_setArg 22 = .ok (.aload_n 0, 1) := by decide +kernel
theorem dX9_setArg_23 : decode cX9_setArg 23 = .ok (.iload_n 3, 1) := by decide +kernel
theorem dX9_setArg_24 : decode cX9_setArg 24 = .ok (.putfield 27, 3) := by decide +kernel
theorem dX9_setArg_27 : decode cX9_setArg 27 = .ok (.return_, 1) := by decide +kernel
theorem dX10_init_0 : decode cX10_init 0 = .ok (.aload_n 0, 1) := by decide +kernel
theorem dX10_init_1 : decode cX10_init 1 = .ok (.invokespecial 3, 3) := by decide +kernel
theorem dX10_init_4 : decode cX10_init 4 = .ok (.aload_n 0, 1) := by decide +kernel
theorem dX10_init_5 : decode cX10_init 5 = .ok (.sipush 401, 3) := by decide +kernel
theorem dX10_init_8 : decode cX10_init 8 = .ok (.newarray .int, 2) := by decide +kernel
theorem dX10_init_10 : decode cX10_init 10 = .ok (.putfield 9, 3) := by decide +kernel
theorem dX10_init_13 : decode cX10_init 13 = .ok (.aload_n 0, 1) := by decide +kernel
theorem dX10_init_14 : decode cX10_init 14 = .ok (.sipush 401, 3) := by decide +kernel
theorem dX10_init_17 : decode cX10_init 17 = .ok (.newarray .int, 2) := by decide +kernel
theorem dX10_init_19 : decode cX10_init 19 = .ok (.putfield 15, 3) := by decide +kernel
theorem dX10_init_22 : decode cX10_init 22 = .ok (.aload_n 0, 1) := by decide +kernel
theorem dX10_init_23 : decode cX10_init 23 = .ok (.sipush 401, 3) := by decide +kernel
theorem dX10_init_26 : decode cX10_init 26 = .ok (.newarray .long, 2) := by decide +kernel
theorem dX10_init_28 : decode cX10_init 28 = .ok (.putfield 18, 3) := by decide +kernel
theorem dX10_init_31 : decode cX10_init 31 = .ok (.return_, 1) := by decide +kernel
theorem dX10_read_0 : decode cX10_read 0 = .ok (.aload_n 0, 1) := by decide +kernel
theorem dX10_read_1 : decode cX10_read 1 = .ok (.iconst 0, 1) := by decide +kernel
theorem dX10_read_2 : decode cX10_read 2 = .ok (.putfield 22, 3) := by decide +kernel
theorem dX10_read_5 : decode cX10_read 5 = .ok (.iconst 0, 1) := by decide +kernel
theorem dX10_read_6 : decode cX10_read 6 = .ok (.istore_n 3, 1) := by decide +kernel
theorem dX10_read_7 : decode cX10_read 7 = .ok (.iconst 0, 1) := by decide +kernel
theorem dX10_read_8 : decode cX10_read 8 = .ok (.istore 4, 2) := by decide +kernel
theorem dX10_read_10 : decode cX10_read 10 = .ok (.iload 4, 2) := by decide +kernel
theorem dX10_read_12 : decode cX10_read 12 = .ok (.iload_n 2, 1) := by decide +kernel
theorem dX10_read_13 : decode cX10_read 13 = .ok (.if_icmp .ge 142, 3) := by decide +kernel
theorem dX10_read_16 : decode cX10_read 16 = .ok (.iload 4, 2) := by decide +kernel
theorem dX10_read_18 : decode cX10_read 18 = .ok (.sipush 400, 3) := by decide +kernel
theorem dX10_read_21 : decode cX10_read 21 = .ok (.if_icmp .ge 134, 3) := by decide +kernel
theorem dX10_read_24 : decode cX10_read 24 = .ok (.aload_n 1, 1) := by decide +kernel
theorem dX10_read_25 : decode cX10_read 25 = .ok (.iload 4, 2) := by decide +kernel
theorem dX10_read_27 : decode cX10_read 27 = .ok (.iaload, 1) := by decide +kernel
theorem dX10_read_28 : decode cX10_read 28 = .ok (.istore 5, 2) := by decide +kernel
theorem dX10_read_30 : decode cX10_read 30 = .ok (.iload 5, 2) := by decide +kernel
theorem dX10_read_32 : decode cX10_read 32 = .ok (.bipush 97, 2) := by decide +kernel
theorem dX10_read_34 : decode cX10_read 34 = .ok (.if_icmp .lt 69, 3) := by decide +kernel
theorem dX10_read_37 : decode cX10_read 37 = .ok (.iload 5, 2) := by decide +kernel
theorem dX10_read_39 : decode cX10_read 39 = .ok (.bipush 122, 2) := by decide +kernel
theorem dX10_read_41 : decode cX10_read 41 = .ok (.if_icmp .gt 62, 3) := by decide +kernel
theorem dX10_read_44 : decode cX10_read 44 = .ok (.iload_n 3, 1) := by decide +kernel
theorem dX10_read_45 : decode cX10_read 45 = .ok (.ifCond .ne 11, 3) := by decide +kernel
theorem dX10_read_48 : decode cX10_read 48 = .ok (.aload_n 0, 1) := by decide +kernel
theorem dX10_read_49 : decode cX10_read 49 = .ok (.iconst 2, 1) := by decide +kernel
theorem dX10_read_50 : decode cX10_read 50 = .ok (.iload 4, 2) := by decide +kernel
theorem dX10_read_52 : decode cX10_read 52 = .ok (.lconst 0, 1) := by decide +kernel
theorem dX10_read_53 : decode cX10_read 53 = .ok (.invokevirtual 26, 3) := by decide +kernel
theorem dX10_read_56 : decode cX10_read 56 = .ok (.iload_n 3, 1) := by decide +kernel
theorem dX10_read_57 : decode cX10_read 57 = .ok (.bipush 8, 2) := by decide +kernel
theorem dX10_read_59 : decode cX10_read 59 = .ok (.if_icmp .lt 16, 3) := by decide +kernel
theorem dX10_read_62 : decode cX10_read 62 = .ok (.aload_n 0, 1) := by decide +kernel
theorem dX10_read_63 : decode cX10_read 63 = .ok (.getfield 9, 3) := by decide +kernel
theorem dX10_read_66 : decode cX10_read 66 = .ok (.aload_n 0, 1) := by decide +kernel
theorem dX10_read_67 : decode cX10_read 67 = .ok (.getfield 22, 3) := by decide +kernel
theorem dX10_read_70 : decode cX10_read 70 = .ok (.iconst 1, 1) := by decide +kernel
theorem dX10_read_71 : decode cX10_read 71 = .ok (.isub, 1) := by decide +kernel
theorem dX10_read_72 : decode cX10_read 72 = .ok (.iconst 1, 1) := by decide +kernel
theorem dX10_read_73 : decode cX10_read 73 = .ok (.iastore, 1) := by decide +kernel
theorem dX10_read_74 : decode cX10_read 74 = .ok (.return_, 1) := by decide +kernel
theorem dX10_read_75 : decode cX10_read 75 = .ok (.aload_n 0, 1) := by decide +kernel
theorem dX10_read_76 : decode cX10_read 76 = .ok (.getfield 18, 3) := by decide +kernel
theorem dX10_read_79 : decode cX10_read 79 = .ok (.aload_n 0, 1) := by decide +kernel
theorem dX10_read_80 : decode cX10_read 80 = .ok (.getfield 22, 3) := by decide +kernel
theorem dX10_read_83 : decode cX10_read 83 = .ok (.iconst 1, 1) := by decide +kernel
theorem dX10_read_84 : decode cX10_read 84 = .ok (.isub, 1) := by decide +kernel
theorem dX10_read_85 : decode cX10_read 85 = .ok (.dup2, 1) := by decide +kernel
theorem dX10_read_86 : decode cX10_read 86 = .ok (.laload, 1) := by decide +kernel
theorem dX10_read_87 : decode cX10_read 87 = .ok (.iload 5, 2) := by decide +kernel
theorem dX10_read_89 : decode cX10_read 89 = .ok (.i2l, 1) := by decide +kernel
theorem dX10_read_90 : decode cX10_read 90 = .ok (.bipush 8, 2) := by decide +kernel
theorem dX10_read_92 : decode cX10_read 92 = .ok (.iload_n 3, 1) := by decide +kernel
theorem dX10_read_93 : decode cX10_read 93 = .ok (.imul, 1) := by decide +kernel
theorem dX10_read_94 : decode cX10_read 94 = .ok (.lshl, 1) := by decide +kernel
theorem dX10_read_95 : decode cX10_read 95 = .ok (.lor, 1) := by decide +kernel
theorem dX10_read_96 : decode cX10_read 96 = .ok (.lastore, 1) := by decide +kernel
theorem dX10_read_97 : decode cX10_read 97 = .ok (.iinc 3 1, 3) := by decide +kernel
theorem dX10_read_100 : decode cX10_read 100 = .ok (.goto 49, 3) := by decide +kernel
theorem dX10_read_103 : decode cX10_read 103 = .ok (.iconst 0, 1) := by decide +kernel
theorem dX10_read_104 : decode cX10_read 104 = .ok (.istore_n 3, 1) := by decide +kernel
theorem dX10_read_105 : decode cX10_read 105 = .ok (.iload 5, 2) := by decide +kernel
theorem dX10_read_107 : decode cX10_read 107 = .ok (.bipush 32, 2) := by decide +kernel
theorem dX10_read_109 : decode cX10_read 109 = .ok (.if_icmp .eq 40, 3) := by decide +kernel
theorem dX10_read_112 : decode cX10_read 112 = .ok (.iload 5, 2) := by decide +kernel
theorem dX10_read_114 : decode cX10_read 114 = .ok (.bipush 10, 2) := by decide +kernel
theorem dX10_read_116 : decode cX10_read 116 = .ok (.if_icmp .eq 33, 3) := by decide +kernel
theorem dX10_read_119 : decode cX10_read 119 = .ok (.aload_n 0, 1) := by decide +kernel
theorem dX10_read_120 : decode cX10_read 120 = .ok (.iload 5, 2) := by decide +kernel
theorem dX10_read_122 : decode cX10_read 122 = .ok (.invokestatic 30, 3) := by decide +kernel
theorem dX10_read_125 : decode cX10_read 125 = .ok (.iload 4, 2) := by decide +kernel
theorem dX10_read_127 : decode cX10_read 127 = .ok (.iload 5, 2) := by decide +kernel
theorem dX10_read_129 : decode cX10_read 129 = .ok (.i2l, 1) := by decide +kernel
theorem dX10_read_130 : decode cX10_read 130 = .ok (.invokevirtual 26, 3) := by decide +kernel
theorem dX10_read_133 : decode cX10_read 133 = .ok (.aload_n 0, 1) := by decide +kernel
theorem dX10_read_134 : decode cX10_read 134 = .ok (.getfield 9, 3) := by decide +kernel
theorem dX10_read_137 : decode cX10_read 137 = .ok (.aload_n 0, 1) := by decide +kernel
theorem dX10_read_138 : decode cX10_read 138 = .ok (.getfield 22, 3) := by decide +kernel
theorem dX10_read_141 : decode cX10_read 141 = .ok (.iconst 1, 1) := by decide +kernel
theorem dX10_read_142 : decode cX10_read 142 = .ok (.isub, 1) := by decide +kernel
theorem dX10_read_143 : decode cX10_read 143 = .ok (.iaload, 1) := by decide +kernel
theorem dX10_read_144 : decode cX10_read 144 = .ok (.iconst 1, 1) := by decide +kernel
theorem dX10_read_145 : decode cX10_read 145 = .ok (.if_icmp .ne 4, 3) := by decide +kernel
theorem dX10_read_148 : decode cX10_read 148 = .ok (.return_, 1) := by decide +kernel
theorem dX10_read_149 : decode cX10_read 149 = .ok (.iinc 4 1, 3) := by decide +kernel
theorem dX10_read_152 : decode cX10_read 152 = .ok (.goto (-142), 3) := by decide +kernel
theorem dX10_read_155 : decode cX10_read 155 = .ok (.aload_n 0, 1) := by decide +kernel
theorem dX10_read_156 : decode cX10_read 156 = .ok (.iconst 0, 1) := by decide +kernel
theorem dX10_read_157 : decode cX10_read 157 = .ok (.iload_n 2, 1) := by decide +kernel
theorem dX10_read_158 : decode cX10_read 158 = .ok (.lconst 0, 1) := by decide +kernel
theorem dX10_read_159 : decode cX10_read 159 = .ok (.invokevirtual 26, 3) := by decide +kernel
theorem dX10_read_162 : decode cX10_read 162 = .ok (.return_, 1) := by decide +kernel
theorem dX10_put_0 : decode cX10_put 0 = .ok (.aload_n 0, 1) := by decide +kernel
theorem dX10_put_1 : decode cX10_put 1 = .ok (.getfield 22, 3) := by decide +kernel
theorem dX10_put_4 : decode cX10_put 4 = .ok (.sipush 400, 3) := by decide +kernel
theorem dX10_put_7 : decode cX10_put 7 = .ok (.if_icmp .gt 43, 3) := by decide +kernel
theorem dX10_put_10 : decode cX10_put 10 = .ok (.aload_n 0, 1) := by decide +kernel
theorem dX10_put_11 : decode cX10_put 11 = .ok (.getfield 9, 3) := by decide +kernel
theorem dX10_put_14 : decode cX10_put 14 = .ok (.aload_n 0, 1) := by decide +kernel
theorem dX10_put_15 : decode cX10_put 15 = .ok (.getfield 22, 3) := by decide +kernel
theorem dX10_put_18 : decode cX10_put 18 = .ok (.iload_n 1, 1) := by decide +kernel
theorem dX10_put_19 : decode cX10_put 19 = .ok (.iastore, 1) := by decide +kernel
theorem dX10_put_20 : decode cX10_put 20 = .ok (.aload_n 0, 1) := by decide +kernel
theorem dX10_put_21 : decode cX10_put 21 = .ok (.getfield 15, 3) := by decide +kernel
theorem dX10_put_24 : decode cX10_put 24 = .ok (.aload_n 0, 1) := by decide +kernel
theorem dX10_put_25 : decode cX10_put 25 = .ok (.getfield 22, 3) := by decide +kernel
theorem dX10_put_28 : decode cX10_put 28 = .ok (.iload_n 2, 1) := by decide +kernel
theorem dX10_put_29 : decode cX10_put 29 = .ok (.iastore, 1) := by decide +kernel
theorem dX10_put_30 : decode cX10_put 30 = .ok (.aload_n 0, 1) := by decide +kernel
theorem dX10_put_31 : decode cX10_put 31 = .ok (.getfield 18, 3) := by decide +kernel
theorem dX10_put_34 : decode cX10_put 34 = .ok (.aload_n 0, 1) := by decide +kernel
theorem dX10_put_35 : decode cX10_put 35 = .ok (.getfield 22, 3) := by decide +kernel
theorem dX10_put_38 : decode cX10_put 38 = .ok (.lload_n 3, 1) := by decide +kernel
theorem dX10_put_39 : decode cX10_put 39 = .ok (.lastore, 1) := by decide +kernel
theorem dX10_put_40 : decode cX10_put 40 = .ok (.aload_n 0, 1) := by decide +kernel
theorem dX10_put_41 : decode cX10_put 41 = .ok (.dup, 1) := by decide +kernel
theorem dX10_put_42 : decode cX10_put 42 = .ok (.getfield 22, 3) := by decide +kernel
theorem dX10_put_45 : decode cX10_put 45 = .ok (.iconst 1, 1) := by decide +kernel
theorem dX10_put_46 : decode cX10_put 46 = .ok (.iadd, 1) := by decide +kernel
theorem dX10_put_47 : decode cX10_put 47 = .ok (.putfield 22, 3) := by decide +kernel
theorem dX10_put_50 : decode cX10_put 50 = .ok (.return_, 1) := by decide +kernel
theorem dX10_typeOf_0 : decode cX10_typeOf 0 = .ok (.iload_n 0, 1) := by decide +kernel
theorem dX10_typeOf_1 : decode cX10_typeOf 1 = .ok (.bipush 65, 2) := by decide +kernel
theorem dX10_typeOf_3 : decode cX10_typeOf 3 = .ok (.if_icmp .lt 11, 3) := by decide +kernel
theorem dX10_typeOf_6 : decode cX10_typeOf 6 = .ok (.iload_n 0, 1) := by decide +kernel
theorem dX10_typeOf_7 : decode cX10_typeOf 7 = .ok (.bipush 72, 2) := by decide +kernel
theorem dX10_typeOf_9 : decode cX10_typeOf 9 = .ok (.if_icmp .gt 5, 3) := by decide +kernel
theorem dX10_typeOf_12 : decode cX10_typeOf 12 = .ok (.iconst 3, 1) := by decide +kernel
theorem dX10_typeOf_13 : decode cX10_typeOf 13 = .ok (.ireturn, 1) := by decide +kernel
theorem dX10_typeOf_14 : decode cX10_typeOf 14 = .ok (.iload_n 0, 1) := by decide +kernel
theorem dX10_typeOf_15 : decode cX10_typeOf 15 = .ok (.bipush 40, 2) := by decide +kernel
theorem dX10_typeOf_17 : decode cX10_typeOf 17 = .ok (.if_icmp .eq 33, 3) := by decide +kernel
theorem dX10_typeOf_20 : decode cX10_typeOf 20 = .ok (.iload_n 0, 1) := by decide +kernel
theorem dX10_typeOf_21 : decode cX10_typeOf 21 = .ok (.bipush 41, 2) := by decide +kernel
theorem dX10_typeOf_23 : decode cX10_typeOf 23 = .ok (.if_icmp .eq 27, 3) := by decide +kernel
theorem dX10_typeOf_26 : decode cX10_typeOf 26 = .ok (.iload_n 0, 1) := by decide +kernel
theorem dX10_typeOf_27 : decode cX10_typeOf 27 = .ok (.bipush 44, 2) := by decide +kernel
theorem dX10_typeOf_29 : decode cX10_typeOf 29 = .ok (.if_icmp .eq 21, 3) := by decide +kernel
theorem dX10_typeOf_32 : decode cX10_typeOf 32 = .ok (.iload_n 0, 1) := by decide +kernel
theorem dX10_typeOf_33 : decode cX10_typeOf 33 = .ok (.bipush 46, 2) := by decide +kernel
theorem dX10_typeOf_35 : decode cX10_typeOf 35 = .ok (.if_icmp .eq 15, 3) := by decide +kernel
theorem dX10_typeOf_38 : decode cX10_typeOf 38 = .ok (.iload_n 0, 1) := by decide +kernel
theorem dX10_typeOf_39 : decode cX10_typeOf 39 = .ok (.bipush 58, 2) := by decide +kernel
theorem dX10_typeOf_41 : decode cX10_typeOf 41 = .ok (.if_icmp .eq 9, 3) := by decide +kernel
theorem dX10_typeOf_44 : decode cX10_typeOf 44 = .ok (.iload_n 0, 1) := by decide +kernel
theorem dX10_typeOf_45 : decode cX10_typeOf 45 = .ok (.bipush 35, 2) := by decide +kernel
theorem dX10_typeOf_47 : decode cX10_typeOf 47 = .ok (.if_icmp .ne 7, 3) := by decide +kernel
theorem dX10_typeOf_50 : decode cX10_typeOf 50 = .ok (.iconst 1, 1) := by decide +kernel
theorem dX10_typeOf_51 : decode cX10_typeOf 51 = .ok (.goto 4, 3) := by decide +kernel
theorem dX10_typeOf_54 : decode cX10_typeOf 54 = .ok (.iconst 0, 1) := by decide +kernel
theorem dX10_typeOf_55 : decode cX10_typeOf 55 = .ok (.istore_n 1, 1) := by decide +kernel
theorem dX10_typeOf_56 : decode cX10_typeOf 56 = .ok (.iload_n 1, 1) := by decide +kernel
theorem dX10_typeOf_57 : decode cX10_typeOf 57 = .ok (.ifCond .eq 7, 3) := by decide +kernel
theorem dX10_typeOf_60 : decode cX10_typeOf 60 = .ok (.iload_n 0, 1) := by decide +kernel
theorem dX10_typeOf_61 : decode cX10_typeOf 61 = .ok (.goto 4, 3) := by decide +kernel
theorem dX10_typeOf_64 : decode cX10_typeOf 64 = .ok (.iconst 1, 1) := by decide +kernel
theorem dX10_typeOf_65 : decode cX10_typeOf 65 = .ok (.ireturn, 1) := by decide +kernel
theorem dX11_init_0 : decode cX11_init 0 = .ok (.aload_n 0, 1) := by decide +kernel
theorem dX11_init_1 : decode cX11_init 1 = .ok (.invokespecial 3, 3) := by decide +kernel
theorem dX11_init_4 : decode cX11_init 4 = .ok (.aload_n 0, 1) := by decide +kernel
theorem dX11_init_5 : decode cX11_init 5 = .ok (.sipush 400, 3) := by decide +kernel
theorem dX11_init_8 : decode cX11_init 8 = .ok (.newarray .int, 2) := by decide +kernel
theorem dX11_init_10 : decode cX11_init 10 = .ok (.putfield 9, 3) := by decide +kernel
theorem dX11_init_13 : decode cX11_init 13 = .ok (.aload_n 0, 1) := by decide +kernel
theorem dX11_init_14 : decode cX11_init 14 = .ok (.new 13, 3) := by decide +kernel
theorem dX11_init_17 : decode cX11_init 17 = .ok (.dup, 1) := by decide +kernel
theorem dX11_init_18 : decode cX11_init 18 = .ok (.invokespecial 15, 3) := by decide +kernel
theorem dX11_init_21 : decode cX11_init 21 = .ok (.putfield 16, 3) := by decide +kernel
theorem dX11_init_24 : decode cX11_init 24 = .ok (.aload_n 0, 1) := by decide +kernel
theorem dX11_init_25 : decode cX11_init 25 = .ok (.new 20, 3) := by decide +kernel
theorem dX11_init_28 : decode cX11_init 28 = .ok (.dup, 1) := by decide +kernel
theorem dX11_init_29 : decode cX11_init 29 = .ok (.aload_n 0, 1) := by decide +kernel
theorem dX11_init_30 : decode cX11_init 30 = .ok (.getfield 16, 3) := by decide +kernel
theorem dX11_init_33 : decode cX11_init 33 = .ok (.invokespecial 22, 3) := by decide +kernel
theorem dX11_init_36 : decode cX11_init 36 = .ok (.putfield 25, 3) := by decide +kernel
theorem dX11_init_39 : decode cX11_init 39 = .ok (.aload_n 0, 1) := by decide +kernel
theorem dX11_init_40 : decode cX11_init 40 = .ok (.new 29, 3) := by decide +kernel
theorem dX11_init_43 : decode cX11_init 43 = .ok (.dup, 1) := by decide +kernel
theorem dX11_init_44 : decode cX11_init 44 = .ok (.aload_n 0, 1) := by decide +kernel
theorem dX11_init_45 : decode cX11_init 45 = .ok (.getfield 16, 3) := by decide +kernel
theorem dX11_init_48 : decode cX11_init 48 = .ok (.invokespecial 31, 3) := by decide +kernel
theorem dX11_init_51 : decode cX11_init 51 = .ok (.putfield 32, 3) := by decide +kernel
theorem dX11_init_54 : decode cX11_init 54 = .ok (.aload_n 0, 1) := by decide +kernel
theorem dX11_init_55 : decode cX11_init 55 = .ok (.new 36, 3) := by decide +kernel
theorem dX11_init_58 : decode cX11_init 58 = .ok (.dup, 1) := by decide +kernel
theorem dX11_init_59 : decode cX11_init 59 = .ok (.aload_n 0, 1) := by decide +kernel
theorem dX11_init_60 : decode cX11_init 60 = .ok (.getfield 16, 3) := by decide +kernel
theorem dX11_init_63 : decode cX11_init 63 = .ok (.aload_n 0, 1) := by decide +kernel
theorem dX11_init_64 : decode cX11_init 64 = .ok (.getfield 32, 3) := by decide +kernel
theorem dX11_init_67 : decode cX11_init 67 = .ok (.invokespecial 38, 3) := by decide +kernel
theorem dX11_init_70 : decode cX11_init 70 = .ok (.putfield 41, 3) := by decide +kernel
theorem dX11_init_73 : decode cX11_init 73 = .ok (.aload_n 0, 1) := by decide +kernel
theorem dX11_init_74 : decode cX11_init 74 = .ok (.new 45, 3) := by decide +kernel
theorem dX11_init_77 : decode cX11_init 77 = .ok (.dup, 1) := by decide +kernel
theorem dX11_init_78 : decode cX11_init 78 = .ok (.iconst 1, 1) := by decide +kernel
theorem dX11_init_79 : decode cX11_init 79 = .ok (.invokespecial 47, 3) := by decide +kernel
theorem dX11_init_82 : decode cX11_init 82 = .ok (.putfield 50, 3) := by decide +kernel
theorem dX11_init_85 : decode cX11_init 85 = .ok (.aload_n 0, 1) := by decide +kernel
theorem dX11_init_86 : decode cX11_init 86 = .ok (.new 45, 3) := by decide +kernel
theorem dX11_init_89 : decode cX11_init 89 = .ok (.dup, 1) := by decide +kernel
theorem dX11_init_90 : decode cX11_init 90 = .ok (.iconst 0, 1) := by decide +kernel
theorem dX11_init_91 : decode cX11_init 91 = .ok (.invokespecial 47, 3) := by decide +kernel
theorem dX11_init_94 : decode cX11_init 94 = .ok (.putfield 54, 3) := by decide +kernel
theorem dX11_init_97 : decode cX11_init 97 = .ok (.aload_n 0, 1) := by decide +kernel
theorem dX11_init_98 : decode cX11_init 98 = .ok (.new 57, 3) := by decide +kernel
theorem dX11_init_101 : decode cX11_init 101 = .ok (.dup, 1) := by decide +kernel
theorem dX11_init_102 : decode cX11_init 102 = .ok (.aload_n 0, 1) := by decide +kernel
theorem dX11_init_103 : decode cX11_init 103 = .ok (.getfield 16, 3) := by decide +kernel
theorem dX11_init_106 : decode cX11_init 106 = .ok (.aload_n 0, 1) := by decide +kernel
theorem dX11_init_107 : decode cX11_init 107 = .ok (.getfield 41, 3) := by decide +kernel
theorem dX11_init_110 : decode cX11_init 110 = .ok (.aload_n 0, 1) := by decide +kernel
theorem dX11_init_111 : decode cX11_init 111 = .ok (.getfield 54, 3) := by decide +kernel
theorem dX11_init_114 : decode cX11_init 114 = .ok (.invokespecial 59, 3) := by decide +kernel
theorem dX11_init_117 : decode cX11_init 117 = .ok (.putfield 62, 3) := by decide +kernel
theorem dX11_init_120 : decode cX11_init 120 = .ok (.aload_n 0, 1) := by decide +kernel
theorem dX11_init_121 : decode cX11_init 121 = .ok (.iconst 4, 1) := by decide +kernel
theorem dX11_init_122 : decode cX11_init 122 = .ok (.newarray .int, 2) := by decide +kernel
theorem dX11_init_124 : decode cX11_init 124 = .ok (.putfield 66, 3) := by decide +kernel
theorem dX11_init_127 : decode cX11_init 127 = .ok (.return_, 1) := by decide +kernel
theorem dX11_feed_0 : decode cX11_feed 0 = .ok (.aload_n 0, 1) := by decide +kernel
theorem dX11_feed_1 : decode cX11_feed 1 = .ok (.getfield 69, 3) := by decide +kernel
theorem dX11_feed_4 : decode cX11_feed 4 = .ok (.sipush 380, 3) := by decide +kernel
theorem dX11_feed_7 : decode cX11_feed 7 = .ok (.if_icmp .le 5, 3) := by decide +kernel
theorem dX11_feed_10 : decode cX11_feed 10 = .ok (.iconst (-1), 1) := by decide +kernel
theorem dX11_feed_11 : decode cX11_feed 11 = .ok (.ireturn, 1) := by decide +kernel
theorem dX11_feed_12 : decode cX11_feed 12 = .ok (.aload_n 0, 1) := by decide +kernel
theorem dX11_feed_13 : decode cX11_feed 13 = .ok (.iload_n 1, 1) := by decide +kernel
theorem dX11_feed_14 : decode cX11_feed 14 = .ok (.invokevirtual 73, 3) := by decide +kernel
theorem dX11_feed_17 : decode cX11_feed 17 = .ok (.aload_n 0, 1) := by decide +kernel
theorem dX11_feed_18 : decode cX11_feed 18 = .ok (.iload_n 2, 1) := by decide +kernel
theorem dX11_feed_19 : decode cX11_feed 19 = .ok (.invokevirtual 73, 3) := by decide +kernel
theorem dX11_feed_22 : decode cX11_feed 22 = .ok (.aload_n 0, 1) := by decide +kernel
theorem dX11_feed_23 : decode cX11_feed 23 = .ok (.iload_n 3, 1) := by decide +kernel
theorem dX11_feed_24 : decode cX11_feed 24 = .ok (.invokevirtual 73, 3) := by decide +kernel
theorem dX11_feed_27 : decode cX11_feed 27 = .ok (.aload_n 0, 1) := by decide +kernel
theorem dX11_feed_28 : decode cX11_feed 28 = .ok (.iload 4, 2) := by decide +kernel
theorem dX11_feed_30 : decode cX11_feed 30 = .ok (.invokevirtual 73, 3) := by decide +kernel
theorem dX11_feed_33 : decode cX11_feed 33 = .ok (.aload_n 0, 1) := by decide +kernel
theorem dX11_feed_34 : decode cX11_feed 34 = .ok (.iload 5, 2) := by decide +kernel
theorem dX11_feed_36 : decode cX11_feed 36 = .ok (.invokevirtual 73, 3) := by decide +kernel
theorem dX11_feed_39 : decode cX11_feed 39 = .ok (.aload_n 0, 1) := by decide +kernel
theorem dX11_feed_40 : decode cX11_feed 40 = .ok (.getfield 69, 3) := by decide +kernel
theorem dX11_feed_43 : decode cX11_feed 43 = .ok (.ireturn, 1) := by decide +kernel
theorem dX11_putBytes_0 : decode cX11_putBytes 0 = .ok (.bipush 24, 2) := by decide +kernel
theorem dX11_putBytes_2 : decode cX11_putBytes 2 = .ok (.istore_n 2, 1) := by decide +kernel
theorem dX11_putBytes_3 : decode cX11_putBytes 3 = .ok (.iload_n 2, 1) := by decide +kernel
theorem dX11_putBytes_4 : decode cX11_putBytes 4 = .ok (.ifCond .lt 45, 3) := by decide +kernel
theorem dX11_putBytes_7 : decode cX11_putBytes 7 = .ok (.aload_n 0, 1) := by decide +kernel
theorem dX11_putBytes_8 : decode cX11_putBytes 8 = .ok (.getfield 69, 3) := by decide +kernel
theorem dX11_putBytes_11 : decode cX11_putBytes 11 = .ok (.sipush 400, 3) := by decide +kernel
theorem dX11_putBytes_14 : decode cX11_putBytes 14 = .ok (.if_icmp .ge 35, 3) := by decide +kernel
theorem dX11_putBytes_17 : decode cX11_putBytes 17 = .ok (.aload_n 0, 1) := by decide +kernel
theorem dX11_putBytes_18 : decode cX11_putBytes 18 = .ok (.getfield 9, 3) := by decide +kernel
theorem dX11_putBytes_21 : decode cX11_putBytes 21 = .ok (.aload_n 0, 1) := by decide +kernel
theorem dX11_putBytes_22 : decode cX11_putBytes 22 = .ok (.getfield 69, 3) := by decide +kernel
theorem dX11_putBytes_25 : decode cX11_putBytes 25 = .ok (.iload_n 1, 1) := by decide +kernel
theorem dX11_putBytes_26 : decode cX11_putBytes 26 = .ok (.iload_n 2, 1) := by decide +kernel
theorem dX11_putBytes_27 : decode cX11_putBytes 27 = .ok (.iushr, 1) := by decide +kernel
theorem dX11_putBytes_28 : decode cX11_putBytes 28 = .ok (.sipush 255, 3) := by decide +kernel
theorem dX11_putBytes_31 : decode cX11_putBytes 31 = .ok (.iand, 1) := by decide +kernel
theorem dX11_putBytes_32 : decode cX11_putBytes 32 = .ok (.iastore, 1) := by decide +kernel
theorem dX11_putBytes_33 : decode cX11_putBytes 33 = .ok (.aload_n 0, 1) := by decide +kernel
theorem dX11_putBytes_34 : decode cX11_putBytes 34 = .ok (.dup, 1) := by decide +kernel
theorem dX11_putBytes_35 : decode cX11_putBytes 35 = .ok (.getfield 69, 3) := by decide +kernel
theorem dX11_putBytes_38 : decode cX11_putBytes 38 = .ok (.iconst 1, 1) := by decide +kernel
theorem dX11_putBytes_39 : decode cX11_putBytes 39 = .ok (.iadd, 1) := by decide +kernel
theorem dX11_putBytes_40 : decode cX11_putBytes 40 = .ok (.putfield 69, 3) := by decide +kernel
theorem dX11_putBytes_43 : decode cX11_putBytes 43 = .ok (.iinc 2 (-8), 3) := by decide +kernel
theorem dX11_putBytes_46 : decode cX11_putBytes 46 = .ok (.goto (-43), 3) := by decide +kernel
theorem dX11_putBytes_49 : decode cX11_putBytes 49 = .ok (.return_, 1) := by decide +kernel
theorem dX11_tell_0 : decode cX11_tell 0 = .ok (.iload_n 1, 1) := by decide +kernel
theorem dX11_tell_1 : decode cX11_tell 1 = .ok (.ifCond .lt 11, 3) := by decide +kernel
theorem dX11_tell_4 : decode cX11_tell 4 = .ok (.iload_n 1, 1) := by decide +kernel
theorem dX11_tell_5 : decode cX11_tell 5 = .ok (.aload_n 0, 1) := by decide +kernel
theorem dX11_tell_6 : decode cX11_tell 6 = .ok (.getfield 69, 3) := by decide +kernel
theorem dX11_tell_9 : decode cX11_tell 9 = .ok (.if_icmp .le 9, 3) := by decide +kernel
theorem dX11_tell_12 : decode cX11_tell 12 = .ok (.aload_n 0, 1) := by decide +kernel
theorem dX11_tell_13 : decode cX11_tell 13 = .ok (.iconst 2, 1) := by decide +kernel
theorem dX11_tell_14 : decode cX11_tell 14 = .ok (.invokevirtual 77, 3) := by decide +kernel
theorem dX11_tell_17 : decode cX11_tell 17 = .ok (.ireturn, 1) := by decide +kernel
theorem dX11_tell_18 : decode cX11_tell 18 = .ok (.aload_n 0, 1) := by decide +kernel
theorem dX11_tell_19 : decode cX11_tell 19 = .ok (.iconst 0, 1) := by decide +kernel
theorem dX11_tell_20 : decode cX11_tell 20 = .ok (.putfield 69, 3) := by decide +kernel
theorem dX11_tell_23 : decode cX11_tell 23 = .ok (.aload_n 0, 1) := by decide +kernel
theorem dX11_tell_24 : decode cX11_tell 24 = .ok (.getfield 25, 3) := by decide +kernel
theorem dX11_tell_27 : decode cX11_tell 27 = .ok (.aload_n 0, 1) := by decide +kernel
theorem dX11_tell_28 : decode cX11_tell 28 = .ok (.getfield 9, 3) := by decide +kernel
theorem dX11_tell_31 : decode cX11_tell 31 = .ok (.iload_n 1, 1) := by decide +kernel
theorem dX11_tell_32 : decode cX11_tell 32 = .ok (.invokevirtual 81, 3) := by decide +kernel
theorem dX11_tell_35 : decode cX11_tell 35 = .ok (.ifCond .ne 9, 3) := by decide +kernel
theorem dX11_tell_38 : decode cX11_tell 38 = .ok (.aload_n 0, 1) := by decide +kernel
theorem dX11_tell_39 : decode cX11_tell 39 = .ok (.iconst 4, 1) := by decide +kernel
theorem dX11_tell_40 : decode cX11_tell 40 = .ok (.invokevirtual 77, 3) := by decide +kernel
theorem dX11_tell_43 : decode cX11_tell 43 = .ok (.ireturn, 1) := by decide +kernel
theorem dX11_tell_44 : decode cX11_tell 44 = .ok (.aload_n 0, 1) := by decide +kernel
theorem dX11_tell_45 : decode cX11_tell 45 = .ok (.iconst 0, 1) := by decide +kernel
theorem dX11_tell_46 : decode cX11_tell 46 = .ok (.putfield 85, 3) := by decide +kernel
theorem dX11_tell_49 : decode cX11_tell 49 = .ok (.aload_n 0, 1) := by decide +kernel
theorem dX11_tell_50 : decode cX11_tell 50 = .ok (.iconst 0, 1) := by decide +kernel
theorem dX11_tell_51 : decode cX11_tell 51 = .ok (.putfield 89, 3) := by decide +kernel
theorem dX11_tell_54 : decode cX11_tell 54 = .ok (.aload_n 0, 1) := by decide +kernel
theorem dX11_tell_55 : decode cX11_tell 55 = .ok (.getfield 25, 3) := by decide +kernel
theorem dX11_tell_58 : decode cX11_tell 58 = .ok (.getfield 92, 3) := by decide +kernel
theorem dX11_tell_61 : decode cX11_tell 61 = .ok (.ireturn, 1) := by decide +kernel
theorem dX11_fault_0 : decode cX11_fault 0 = .ok (.aload_n 0, 1) := by decide +kernel
theorem dX11_fault_1 : decode cX11_fault 1 = .ok (.getfield 25, 3) := by decide +kernel
theorem dX11_fault_4 : decode cX11_fault 4 = .ok (.getfield 95, 3) := by decide +kernel
theorem dX11_fault_7 : decode cX11_fault 7 = .ok (.ireturn, 1) := by decide +kernel
theorem dX11_where_0 : decode cX11_where 0 = .ok (.aload_n 0, 1) := by decide +kernel
theorem dX11_where_1 : decode cX11_where 1 = .ok (.getfield 89, 3) := by decide +kernel
theorem dX11_where_4 : decode cX11_where 4 = .ok (.iconst 4, 1) := by decide +kernel
theorem dX11_where_5 : decode cX11_where 5 = .ok (.if_icmp .ne 13, 3) := by decide +kernel
theorem dX11_where_8 : decode cX11_where 8 = .ok (.aload_n 0, 1) := by decide +kernel
theorem dX11_where_9 : decode cX11_where 9 = .ok (.getfield 25, 3) := by decide +kernel
theorem dX11_where_12 : decode cX11_where 12 = .ok (.getfield 98, 3) := by decide +kernel
theorem dX11_where_15 : decode cX11_where 15 = .ok (.goto 4, 3) := by decide +kernel
theorem dX11_where_18 : decode cX11_where 18 = .ok (.iconst (-1), 1) := by decide +kernel
theorem dX11_where_19 : decode cX11_where 19 = .ok (.ireturn, 1) := by decide +kernel
theorem dX11_atom_0 : decode cX11_atom 0 = .ok (.aload_n 0, 1) := by decide +kernel
theorem dX11_atom_1 : decode cX11_atom 1 = .ok (.getfield 16, 3) := by decide +kernel
theorem dX11_atom_4 : decode cX11_atom 4 = .ok (.getfield 101, 3) := by decide +kernel
theorem dX11_atom_7 : decode cX11_atom 7 = .ok (.iload_n 1, 1) := by decide +kernel
theorem dX11_atom_8 : decode cX11_atom 8 = .ok (.invokevirtual 105, 3) := by decide +kernel
theorem dX11_atom_11 : decode cX11_atom 11 = .ok (.ifCond .ne 5, 3) := by decide +kernel
theorem dX11_atom_14 : decode cX11_atom 14 = .ok (.iconst (-1), 1) := by decide +kernel
theorem dX11_atom_15 : decode cX11_atom 15 = .ok (.ireturn, 1) := by decide +kernel
theorem dX11_atom_16 : decode cX11_atom 16 = .ok (.aload_n 0, 1) := by decide +kernel
theorem dX11_atom_17 : decode cX11_atom 17 = .ok (.getfield 16, 3) := by decide +kernel
theorem dX11_atom_20 : decode cX11_atom 20 = .ok (.getfield 111, 3) := by decide +kernel
theorem dX11_atom_23 : decode cX11_atom 23 = .ok (.getfield 114, 3) := by decide +kernel
theorem dX11_atom_26 : decode cX11_atom 26 = .ok (.iconst 1, 1) := by decide +kernel
theorem dX11_atom_27 : decode cX11_atom 27 = .ok (.isub, 1) := by decide +kernel
theorem dX11_atom_28 : decode cX11_atom 28 = .ok (.istore 4, 2) := by decide +kernel
theorem dX11_atom_30 : decode cX11_atom 30 = .ok (.aload_n 0, 1) := by decide +kernel
theorem dX11_atom_31 : decode cX11_atom 31 = .ok (.getfield 16, 3) := by decide +kernel
theorem dX11_atom_34 : decode cX11_atom 34 = .ok (.getfield 117, 3) := by decide +kernel
theorem dX11_atom_37 : decode cX11_atom 37 = .ok (.iload_n 1, 1) := by decide +kernel
theorem dX11_atom_38 : decode cX11_atom 38 = .ok (.iaload, 1) := by decide +kernel
theorem dX11_atom_39 : decode cX11_atom 39 = .ok (.ifCond .le 8, 3) := by decide +kernel
theorem dX11_atom_42 : decode cX11_atom 42 = .ok (.iload 4, 2) := by decide +kernel
theorem dX11_atom_44 : decode cX11_atom 44 = .ok (.goto 4, 3) := by decide +kernel
theorem dX11_atom_47 : decode cX11_atom 47 = .ok (.iconst 0, 1) := by decide +kernel
theorem dX11_atom_48 : decode cX11_atom 48 = .ok (.istore 5, 2) := by decide +kernel
theorem dX11_atom_50 : decode cX11_atom 50 = .ok (.aload_n 0, 1) := by decide +kernel
theorem dX11_atom_51 : decode cX11_atom 51 = .ok (.getfield 16, 3) := by decide +kernel
theorem dX11_atom_54 : decode cX11_atom 54 = .ok (.getfield 117, 3) := by decide +kernel
theorem dX11_atom_57 : decode cX11_atom 57 = .ok (.iload_n 1, 1) := by decide +kernel
theorem dX11_atom_58 : decode cX11_atom 58 = .ok (.iaload, 1) := by decide +kernel
theorem dX11_atom_59 : decode cX11_atom 59 = .ok (.iconst 1, 1) := by decide +kernel
theorem dX11_atom_60 : decode cX11_atom 60 = .ok (.if_icmp .le 8, 3) := by decide +kernel
theorem dX11_atom_63 : decode cX11_atom 63 = .ok (.iload 4, 2) := by decide +kernel
theorem dX11_atom_65 : decode cX11_atom 65 = .ok (.goto 4, 3) := by decide +kernel
theorem dX11_atom_68 : decode cX11_atom 68 = .ok (.iconst 0, 1) := by decide +kernel
theorem dX11_atom_69 : decode cX11_atom 69 = .ok (.istore 6, 2) := by decide +kernel
theorem dX11_atom_71 : decode cX11_atom 71 = .ok (.iload_n 2, 1) := by decide +kernel
theorem dX11_atom_72 : decode cX11_atom 72 = .ok (.ifCond .lt 19, 3) := by decide +kernel
theorem dX11_atom_75 : decode cX11_atom 75 = .ok (.iload_n 2, 1) := by decide +kernel
theorem dX11_atom_76 : decode cX11_atom 76 = .ok (.iload 5, 2) := by decide +kernel
theorem dX11_atom_78 : decode cX11_atom 78 = .ok (.if_icmp .gt 13, 3) := by decide +kernel
theorem dX11_atom_81 : decode cX11_atom 81 = .ok (.iload_n 3, 1) := by decide +kernel
theorem dX11_atom_82 : decode cX11_atom 82 = .ok (.ifCond .lt 9, 3) := by decide +kernel
theorem dX11_atom_85 : decode cX11_atom 85 = .ok (.iload_n 3, 1) := by decide +kernel
theorem dX11_atom_86 : decode cX11_atom 86 = .ok (.iload 6, 2) := by decide +kernel
theorem dX11_atom_88 : decode cX11_atom 88 = .ok (.if_icmp .le 5, 3) := by decide +kernel
theorem dX11_atom_91 : decode cX11_atom 91 = .ok (.iconst (-1), 1) := by decide +kernel
theorem dX11_atom_92 : decode cX11_atom 92 = .ok (.ireturn, 1) := by decide +kernel
theorem dX11_atom_93 : decode cX11_atom 93 = .ok (.iload_n 1, 1) := by decide +kernel
theorem dX11_atom_94 : decode cX11_atom 94 = .ok (.bipush 10, 2) := by decide +kernel
theorem dX11_atom_96 : decode cX11_atom 96 = .ok (.imul, 1) := by decide +kernel
theorem dX11_atom_97 : decode cX11_atom 97 = .ok (.iload_n 2, 1) := by decide +kernel
theorem dX11_atom_98 : decode cX11_atom 98 = .ok (.iadd, 1) := by decide +kernel
theorem dX11_atom_99 : decode cX11_atom 99 = .ok (.bipush 10, 2) := by decide +kernel
theorem dX11_atom_101 : decode cX11_atom 101 = .ok (.imul, 1) := by decide +kernel
theorem dX11_atom_102 : decode cX11_atom 102 = .ok (.iload_n 3, 1) := by decide +kernel
theorem dX11_atom_103 : decode cX11_atom 103 = .ok (.iadd, 1) := by decide +kernel
theorem dX11_atom_104 : decode cX11_atom 104 = .ok (.ireturn, 1) := by decide +kernel
theorem dX11_name_0 : decode cX11_name 0 = .ok (.iload_n 3, 1) := by decide +kernel
theorem dX11_name_1 : decode cX11_name 1 = .ok (.ifCond .eq 18, 3) := by decide +kernel
theorem dX11_name_4 : decode cX11_name 4 = .ok (.aload_n 0, 1) := by decide +kernel
theorem dX11_name_5 : decode cX11_name 5 = .ok (.getfield 16, 3) := by decide +kernel
theorem dX11_name_8 : decode cX11_name 8 = .ok (.getfield 101, 3) := by decide +kernel
theorem dX11_name_11 : decode cX11_name 11 = .ok (.iload_n 1, 1) := by decide +kernel
theorem dX11_name_12 : decode cX11_name 12 = .ok (.iload_n 2, 1) := by decide +kernel
theorem dX11_name_13 : decode cX11_name 13 = .ok (.invokevirtual 120, 3) := by decide +kernel
theorem dX11_name_16 : decode cX11_name 16 = .ok (.goto 15, 3) := by decide +kernel
theorem dX11_name_19 : decode cX11_name 19 = .ok (.aload_n 0, 1) := by decide +kernel
theorem dX11_name_20 : decode cX11_name 20 = .ok (.getfield 16, 3) := by decide +kernel
theorem dX11_name_23 : decode cX11_name 23 = .ok (.getfield 111, 3) := by decide +kernel
theorem dX11_name_26 : decode cX11_name 26 = .ok (.iload_n 1, 1) := by decide +kernel
theorem dX11_name_27 : decode cX11_name 27 = .ok (.iload_n 2, 1) := by decide +kernel
theorem dX11_name_28 : decode cX11_name 28 = .ok (.invokevirtual 120, 3) := by decide +kernel
theorem dX11_name_31 : decode cX11_name 31 = .ok (.istore 4, 2) := by decide +kernel
theorem dX11_name_33 : decode cX11_name 33 = .ok (.iload 4, 2) := by decide +kernel
theorem dX11_name_35 : decode cX11_name 35 = .ok (.iconst (-1), 1) := by decide +kernel
theorem dX11_name_36 : decode cX11_name 36 = .ok (.if_icmp .ne 13, 3) := by decide +kernel
theorem dX11_name_39 : decode cX11_name 39 = .ok (.new 124, 3) := by decide +kernel
theorem dX11_name_42 : decode cX11_name 42 = .ok (.dup, 1) := by decide +kernel
theorem dX11_name_43 : decode cX11_name 43 = .ok (.ldc 126, 2) := by decide +kernel
theorem dX11_name_45 : decode cX11_name 45 = .ok (.invokespecial 128, 3) := by decide +kernel
theorem dX11_name_48 : decode cX11_name 48 = .ok (.athrow, 1) := by decide +kernel
theorem dX11_name_49 : decode cX11_name 49 = .ok (.iload 4, 2) := by decide +kernel
theorem dX11_name_51 : decode cX11_name 51 = .ok (.ireturn, 1) := by decide +kernel
theorem dX11_places_0 : decode cX11_places 0 = .ok (.aload_n 0, 1) := by decide +kernel
theorem dX11_places_1 : decode cX11_places 1 = .ok (.getfield 16, 3) := by decide +kernel
theorem dX11_places_4 : decode cX11_places 4 = .ok (.getfield 101, 3) := by decide +kernel
theorem dX11_places_7 : decode cX11_places 7 = .ok (.iload_n 1, 1) := by decide +kernel
theorem dX11_places_8 : decode cX11_places 8 = .ok (.invokevirtual 105, 3) := by decide +kernel
theorem dX11_places_11 : decode cX11_places 11 = .ok (.ifCond .eq 15, 3) := by decide +kernel
theorem dX11_places_14 : decode cX11_places 14 = .ok (.aload_n 0, 1) := by decide +kernel
theorem dX11_places_15 : decode cX11_places 15 = .ok (.getfield 16, 3) := by decide +kernel
theorem dX11_places_18 : decode cX11_places 18 = .ok (.getfield 117, 3) := by decide +kernel
theorem dX11_places_21 : decode cX11_places 21 = .ok (.iload_n 1, 1) := by decide +kernel
theorem dX11_places_22 : decode cX11_places 22 = .ok (.iaload, 1) := by decide +kernel
theorem dX11_places_23 : decode cX11_places 23 = .ok (.goto 4, 3) := by decide +kernel
theorem dX11_places_26 : decode cX11_places 26 = .ok (.iconst (-1), 1) := by decide +kernel
theorem dX11_places_27 : decode cX11_places 27 = .ok (.ireturn, 1) := by decide +kernel
theorem dX11_layer_0 : decode cX11_layer 0 = .ok (.aload_n 0, 1) := by decide +kernel
theorem dX11_layer_1 : decode cX11_layer 1 = .ok (.getfield 16, 3) := by decide +kernel
theorem dX11_layer_4 : decode cX11_layer 4 = .ok (.getfield 101, 3) := by decide +kernel
theorem dX11_layer_7 : decode cX11_layer 7 = .ok (.iload_n 1, 1) := by decide +kernel
theorem dX11_layer_8 : decode cX11_layer 8 = .ok (.invokevirtual 105, 3) := by decide +kernel
theorem dX11_layer_11 : decode cX11_layer 11 = .ok (.ifCond .eq 18, 3) := by decide +kernel
theorem dX11_layer_14 : decode cX11_layer 14 = .ok (.aload_n 0, 1) := by decide +kernel
theorem dX11_layer_15 : decode cX11_layer 15 = .ok (.getfield 16, 3) := by decide +kernel
theorem dX11_layer_18 : decode cX11_layer 18 = .ok (.getfield 131, 3) := by decide +kernel
theorem dX11_layer_21 : decode cX11_layer 21 = .ok (.getfield 135, 3) := by decide +kernel
theorem dX11_layer_24 : decode cX11_layer 24 = .ok (.iload_n 1, 1) := by decide +kernel
theorem dX11_layer_25 : decode cX11_layer 25 = .ok (.iaload, 1) := by decide +kernel
theorem dX11_layer_26 : decode cX11_layer 26 = .ok (.goto 4, 3) := by decide +kernel
theorem dX11_layer_29 : decode cX11_layer 29 = .ok (.iconst (-1), 1) := by decide +kernel
theorem dX11_layer_30 : decode cX11_layer 30 = .ok (.ireturn, 1) := by decide +kernel
theorem dX11_fact_0 : decode cX11_fact 0 = .ok (.aload_n 0, 1) := by decide +kernel
theorem dX11_fact_1 : decode cX11_fact 1 = .ok (.getfield 16, 3) := by decide +kernel
theorem dX11_fact_4 : decode cX11_fact 4 = .ok (.iload_n 1, 1) := by decide +kernel
theorem dX11_fact_5 : decode cX11_fact 5 = .ok (.invokevirtual 140, 3) := by decide +kernel
theorem dX11_fact_8 : decode cX11_fact 8 = .ok (.ifCond .ne 9, 3) := by decide +kernel
theorem dX11_fact_11 : decode cX11_fact 11 = .ok (.aload_n 0, 1) := by decide +kernel
theorem dX11_fact_12 : decode cX11_fact 12 = .ok (.iconst 1, 1) := by decide +kernel
theorem dX11_fact_13 : decode cX11_fact 13 = .ok (.invokevirtual 77, 3) := by decide +kernel
theorem dX11_fact_16 : decode cX11_fact 16 = .ok (.ireturn, 1) := by decide +kernel
theorem dX11_fact_17 : decode cX11_fact 17 = .ok (.aload_n 0, 1) := by decide +kernel
theorem dX11_fact_18 : decode cX11_fact 18 = .ok (.iconst 0, 1) := by decide +kernel
theorem dX11_fact_19 : decode cX11_fact 19 = .ok (.putfield 89, 3) := by decide +kernel
theorem dX11_fact_22 : decode cX11_fact 22 = .ok (.aload_n 0, 1) := by decide +kernel
theorem dX11_fact_23 : decode cX11_fact 23 = .ok (.getfield 16, 3) := by decide +kernel
theorem dX11_fact_26 : decode cX11_fact 26 = .ok (.iload_n 1, 1) := by decide +kernel
theorem dX11_fact_27 : decode cX11_fact 27 = .ok (.iload_n 2, 1) := by decide +kernel
theorem dX11_fact_28 : decode cX11_fact 28 = .ok (.invokevirtual 143, 3) := by decide +kernel
theorem dX11_fact_31 : decode cX11_fact 31 = .ok (.ifCond .ne 5, 3) := by decide +kernel
theorem dX11_fact_34 : decode cX11_fact 34 = .ok (.iconst 0, 1) := by decide +kernel
theorem dX11_fact_35 : decode cX11_fact 35 = .ok (.ireturn, 1) := by decide +kernel
theorem dX11_fact_36 : decode cX11_fact 36 = .ok (.aload_n 0, 1) := by decide +kernel
theorem dX11_fact_37 : decode cX11_fact 37 = .ok (.iconst 0, 1) := by decide +kernel
theorem dX11_fact_38 : decode cX11_fact 38 = .ok (.putfield 85, 3) := by decide +kernel
theorem dX11_fact_41 : decode cX11_fact 41 = .ok (.iconst 1, 1) := by decide +kernel
theorem dX11_fact_42 : decode cX11_fact 42 = .ok (.ireturn, 1) := by decide +kernel
theorem dX11_drop_0 : decode cX11_drop 0 = .ok (.aload_n 0, 1) := by decide +kernel
theorem dX11_drop_1 : decode cX11_drop 1 = .ok (.getfield 16, 3) := by decide +kernel
theorem dX11_drop_4 : decode cX11_drop 4 = .ok (.iload_n 1, 1) := by decide +kernel
theorem dX11_drop_5 : decode cX11_drop 5 = .ok (.invokevirtual 147, 3) := by decide +kernel
theorem dX11_drop_8 : decode cX11_drop 8 = .ok (.ifCond .ne 10, 3) := by decide +kernel
theorem dX11_drop_11 : decode cX11_drop 11 = .ok (.aload_n 0, 1) := by decide +kernel
theorem dX11_drop_12 : decode cX11_drop 12 = .ok (.iconst 1, 1) := by decide +kernel
theorem dX11_drop_13 : decode cX11_drop 13 = .ok (.putfield 89, 3) := by decide +kernel
theorem dX11_drop_16 : decode cX11_drop 16 = .ok (.iconst 0, 1) := by decide +kernel
theorem dX11_drop_17 : decode cX11_drop 17 = .ok (.ireturn, 1) := by decide +kernel
theorem dX11_drop_18 : decode cX11_drop 18 = .ok (.aload_n 0, 1) := by decide +kernel
theorem dX11_drop_19 : decode cX11_drop 19 = .ok (.getfield 16, 3) := by decide +kernel
theorem dX11_drop_22 : decode cX11_drop 22 = .ok (.iload_n 1, 1) := by decide +kernel
theorem dX11_drop_23 : decode cX11_drop 23 = .ok (.invokevirtual 150, 3) := by decide +kernel
theorem dX11_drop_26 : decode cX11_drop 26 = .ok (.aload_n 0, 1) := by decide +kernel
theorem dX11_drop_27 : decode cX11_drop 27 = .ok (.iconst 0, 1) := by decide +kernel
theorem dX11_drop_28 : decode cX11_drop 28 = .ok (.putfield 85, 3) := by decide +kernel
theorem dX11_drop_31 : decode cX11_drop 31 = .ok (.aload_n 0, 1) := by decide +kernel
theorem dX11_drop_32 : decode cX11_drop 32 = .ok (.iconst 0, 1) := by decide +kernel
theorem dX11_drop_33 : decode cX11_drop 33 = .ok (.putfield 89, 3) := by decide +kernel
theorem dX11_drop_36 : decode cX11_drop 36 = .ok (.iconst 1, 1) := by decide +kernel
theorem dX11_drop_37 : decode cX11_drop 37 = .ok (.ireturn, 1) := by decide +kernel
theorem dX11_follows_0 : decode cX11_follows 0 = .ok (.aload_n 0, 1) := by decide +kernel
theorem dX11_follows_1 : decode cX11_follows 1 = .ok (.getfield 16, 3) := by decide +kernel
theorem dX11_follows_4 : decode cX11_follows 4 = .ok (.iload_n 1, 1) := by decide +kernel
theorem dX11_follows_5 : decode cX11_follows 5 = .ok (.invokevirtual 140, 3) := by decide +kernel
theorem dX11_follows_8 : decode cX11_follows 8 = .ok (.ifCond .ne 5, 3) := by decide +kernel
theorem dX11_follows_11 : decode cX11_follows 11 = .ok (.iconst (-1), 1) := by decide +kernel
theorem dX11_follows_12 : decode cX11_follows 12 = .ok (.ireturn, 1) := by decide +kernel
theorem dX11_follows_13 : decode cX11_follows 13 = .ok (.aload_n 0, 1) := by decide +kernel
theorem dX11_follows_14 : decode cX11_follows 14 = .ok (.getfield 16, 3) := by decide +kernel
theorem dX11_follows_17 : decode cX11_follows 17 = .ok (.iload_n 1, 1) := by decide +kernel
theorem dX11_follows_18 : decode cX11_follows 18 = .ok (.invokevirtual 153, 3) := by decide +kernel
theorem dX11_follows_21 : decode cX11_follows 21 = .ok (.ifCond .eq 5, 3) := by decide +kernel
theorem dX11_follows_24 : decode cX11_follows 24 = .ok (.iconst 2, 1) := by decide +kernel
theorem dX11_follows_25 : decode cX11_follows 25 = .ok (.ireturn, 1) := by decide +kernel
theorem dX11_follows_26 : decode cX11_follows 26 = .ok (.aload_n 0, 1) := by decide +kernel
theorem dX11_follows_27 : decode cX11_follows 27 = .ok (.invokevirtual 156, 3) := by decide +kernel
theorem dX11_follows_30 : decode cX11_follows 30 = .ok (.iload_n 1, 1) := by decide +kernel
theorem dX11_follows_31 : decode cX11_follows 31 = .ok (.invokevirtual 160, 3) := by decide +kernel
theorem dX11_follows_34 : decode cX11_follows 34 = .ok (.ifCond .eq 7, 3) := by decide +kernel
theorem dX11_follows_37 : decode cX11_follows 37 = .ok (.iconst 1, 1) := by decide +kernel
theorem dX11_follows_38 : decode cX11_follows 38 = .ok (.goto 4, 3) := by decide +kernel
theorem dX11_follows_41 : decode cX11_follows 41 = .ok (.iconst 0, 1) := by decide +kernel
theorem dX11_follows_42 : decode cX11_follows 42 = .ok (.ireturn, 1) := by decide +kernel
theorem dX11_many_0 : decode cX11_many 0 = .ok (.aload_n 0, 1) := by decide +kernel
theorem dX11_many_1 : decode cX11_many 1 = .ok (.getfield 16, 3) := by decide +kernel
theorem dX11_many_4 : decode cX11_many 4 = .ok (.getfield 101, 3) := by decide +kernel
theorem dX11_many_7 : decode cX11_many 7 = .ok (.iload_n 1, 1) := by decide +kernel
theorem dX11_many_8 : decode cX11_many 8 = .ok (.invokevirtual 105, 3) := by decide +kernel
theorem dX11_many_11 : decode cX11_many 11 = .ok (.ifCond .ne 5, 3) := by decide +kernel
theorem dX11_many_14 : decode cX11_many 14 = .ok (.iconst (-1), 1) := by decide +kernel
theorem dX11_many_15 : decode cX11_many 15 = .ok (.ireturn, 1) := by decide +kernel
theorem dX11_many_16 : decode cX11_many 16 = .ok (.aload_n 0, 1) := by decide +kernel
theorem dX11_many_17 : decode cX11_many 17 = .ok (.invokevirtual 156, 3) := by decide +kernel
theorem dX11_many_20 : decode cX11_many 20 = .ok (.astore_n 2, 1) := by decide +kernel
theorem dX11_many_21 : decode cX11_many 21 = .ok (.iconst 0, 1) := by decide +kernel
theorem dX11_many_22 : decode cX11_many 22 = .ok (.istore_n 3, 1) := by decide +kernel
theorem dX11_many_23 : decode cX11_many 23 = .ok (.iload_n 1, 1) := by decide +kernel
theorem dX11_many_24 : decode cX11_many 24 = .ok (.bipush 10, 2) := by decide +kernel
theorem dX11_many_26 : decode cX11_many 26 = .ok (.imul, 1) := by decide +kernel
theorem dX11_many_27 : decode cX11_many 27 = .ok (.istore 4, 2) := by decide +kernel
theorem dX11_many_29 : decode cX11_many 29 = .ok (.iload 4, 2) := by decide +kernel
theorem dX11_many_31 : decode cX11_many 31 = .ok (.iload_n 1, 1) := by decide +kernel
theorem dX11_many_32 : decode cX11_many 32 = .ok (.bipush 10, 2) := by decide +kernel
theorem dX11_many_34 : decode cX11_many 34 = .ok (.imul, 1) := by decide +kernel
theorem dX11_many_35 : decode cX11_many 35 = .ok (.bipush 10, 2) := by decide +kernel
theorem dX11_many_37 : decode cX11_many 37 = .ok (.iadd, 1) := by decide +kernel
theorem dX11_many_38 : decode cX11_many 38 = .ok (.if_icmp .ge 22, 3) := by decide +kernel
theorem dX11_many_41 : decode cX11_many 41 = .ok (.iload_n 3, 1) := by decide +kernel
theorem dX11_many_42 : decode cX11_many 42 = .ok (.aload_n 2, 1) := by decide +kernel
theorem dX11_many_43 : decode cX11_many 43 = .ok (.getfield 161, 3) := by decide +kernel
theorem dX11_many_46 : decode cX11_many 46 = .ok (.iload 4, 2) := by decide +kernel
theorem dX11_many_48 : decode cX11_many 48 = .ok (.iaload, 1) := by decide +kernel
theorem dX11_many_49 : decode cX11_many 49 = .ok (.invokestatic 164, 3) := by decide +kernel
theorem dX11_many_52 : decode cX11_many 52 = .ok (.iadd, 1) := by decide +kernel
theorem dX11_many_53 : decode cX11_many 53 = .ok (.istore_n 3, 1) := by decide +kernel
theorem dX11_many_54 : decode cX11_many 54 = .ok (.iinc 4 1, 3) := by decide +kernel
theorem dX11_many_57 : decode cX11_many 57 = .ok (.goto (-28), 3) := by decide +kernel
theorem dX11_many_60 : decode cX11_many 60 = .ok (.iload_n 3, 1) := by decide +kernel
theorem dX11_many_61 : decode cX11_many 61 = .ok (.ireturn, 1) := by decide +kernel
theorem dX11_one_0 : decode cX11_one 0 = .ok (.aload_n 0, 1) := by decide +kernel
theorem dX11_one_1 : decode cX11_one 1 = .ok (.getfield 16, 3) := by decide +kernel
theorem dX11_one_4 : decode cX11_one 4 = .ok (.getfield 101, 3) := by decide +kernel
theorem dX11_one_7 : decode cX11_one 7 = .ok (.iload_n 1, 1) := by decide +kernel
theorem dX11_one_8 : decode cX11_one 8 = .ok (.invokevirtual 105, 3) := by decide +kernel
theorem dX11_one_11 : decode cX11_one 11 = .ok (.ifCond .eq 7, 3) := by decide +kernel
theorem dX11_one_14 : decode cX11_one 14 = .ok (.iload_n 2, 1) := by decide +kernel
theorem dX11_one_15 : decode cX11_one 15 = .ok (.ifCond .ge 5, 3) := by decide +kernel
theorem dX11_one_18 : decode cX11_one 18 = .ok (.iconst (-1), 1) := by decide +kernel
theorem dX11_one_19 : decode cX11_one 19 = .ok (.ireturn, 1) := by decide +kernel
theorem dX11_one_20 : decode cX11_one 20 = .ok (.aload_n 0, 1) := by decide +kernel
theorem dX11_one_21 : decode cX11_one 21 = .ok (.invokevirtual 156, 3) := by decide +kernel
theorem dX11_one_24 : decode cX11_one 24 = .ok (.astore_n 3, 1) := by decide +kernel
theorem dX11_one_25 : decode cX11_one 25 = .ok (.iload_n 2, 1) := by decide +kernel
theorem dX11_one_26 : decode cX11_one 26 = .ok (.istore 4, 2) := by decide +kernel
theorem dX11_one_28 : decode cX11_one 28 = .ok (.iload_n 1, 1) := by decide +kernel
theorem dX11_one_29 : decode cX11_one 29 = .ok (.bipush 10, 2) := by decide +kernel
theorem dX11_one_31 : decode cX11_one 31 = .ok (.imul, 1) := by decide +kernel
theorem dX11_one_32 : decode cX11_one 32 = .ok (.bipush 10, 2) := by decide +kernel
theorem dX11_one_34 : decode cX11_one 34 = .ok (.imul, 1) := by decide +kernel
theorem dX11_one_35 : decode cX11_one 35 = .ok (.istore 5, 2) := by decide +kernel
theorem dX11_one_37 : decode cX11_one 37 = .ok (.iload 5, 2) := by decide +kernel
theorem dX11_one_39 : decode cX11_one 39 = .ok (.istore 6, 2) := by decide +kernel
theorem dX11_one_41 : decode cX11_one 41 = .ok (.iload 6, 2) := by decide +kernel
theorem dX11_one_43 : decode cX11_one 43 = .ok (.iload 5, 2) := by decide +kernel
theorem dX11_one_45 : decode cX11_one 45 = .ok (.bipush 100, 2) := by decide +kernel
theorem dX11_one_47 : decode cX11_one 47 = .ok (.iadd, 1) := by decide +kernel
theorem dX11_one_48 : decode cX11_one 48 = .ok (.if_icmp .ge 29, 3) := by decide +kernel
theorem dX11_one_51 : decode cX11_one 51 = .ok (.aload_n 3, 1) := by decide +kernel
theorem dX11_one_52 : decode cX11_one 52 = .ok (.iload 6, 2) := by decide +kernel
theorem dX11_one_54 : decode cX11_one 54 = .ok (.invokevirtual 160, 3) := by decide +kernel
theorem dX11_one_57 : decode cX11_one 57 = .ok (.ifCond .eq 14, 3) := by decide +kernel
theorem dX11_one_60 : decode cX11_one 60 = .ok (.iload 4, 2) := by decide +kernel
theorem dX11_one_62 : decode cX11_one 62 = .ok (.ifCond .ne 6, 3) := by decide +kernel
theorem dX11_one_65 : decode cX11_one 65 = .ok (.iload 6, 2) := by decide +kernel
theorem dX11_one_67 : decode cX11_one 67 = .ok (.ireturn, 1) := by decide +kernel
theorem dX11_one_68 : decode cX11_one 68 = .ok (.iinc 4 (-1), 3) := by decide +kernel
theorem dX11_one_71 : decode cX11_one 71 = .ok (.iinc 6 1, 3) := by decide +kernel
theorem dX11_one_74 : decode cX11_one 74 = .ok (.goto (-33), 3) := by decide +kernel
theorem dX11_one_77 : decode cX11_one 77 = .ok (.iconst (-1), 1) := by decide +kernel
theorem dX11_one_78 : decode cX11_one 78 = .ok (.ireturn, 1) := by decide +kernel
theorem dX11_steps_0 : decode cX11_steps 0 = .ok (.aload_n 0, 1) := by decide +kernel
theorem dX11_steps_1 : decode cX11_steps 1 = .ok (.getfield 16, 3) := by decide +kernel
theorem dX11_steps_4 : decode cX11_steps 4 = .ok (.iload_n 1, 1) := by decide +kernel
theorem dX11_steps_5 : decode cX11_steps 5 = .ok (.invokevirtual 140, 3) := by decide +kernel
theorem dX11_steps_8 : decode cX11_steps 8 = .ok (.ifCond .ne 5, 3) := by decide +kernel
theorem dX11_steps_11 : decode cX11_steps 11 = .ok (.iconst (-1), 1) := by decide +kernel
theorem dX11_steps_12 : decode cX11_steps 12 = .ok (.ireturn, 1) := by decide +kernel
theorem dX11_steps_13 : decode cX11_steps 13 = .ok (.aload_n 0, 1) := by decide +kernel
theorem dX11_steps_14 : decode cX11_steps 14 = .ok (.invokevirtual 156, 3) := by decide +kernel
theorem dX11_steps_17 : decode cX11_steps 17 = .ok (.astore_n 2, 1) := by decide +kernel
theorem dX11_steps_18 : decode cX11_steps 18 = .ok (.aload_n 2, 1) := by decide +kernel
theorem dX11_steps_19 : decode cX11_steps 19 = .ok (.iload_n 1, 1) := by decide +kernel
theorem dX11_steps_20 : decode cX11_steps 20 = .ok (.invokevirtual 160, 3) := by decide +kernel
theorem dX11_steps_23 : decode cX11_steps 23 = .ok (.ifCond .eq 12, 3) := by decide +kernel
theorem dX11_steps_26 : decode cX11_steps 26 = .ok (.aload_n 2, 1) := by decide +kernel
theorem dX11_steps_27 : decode cX11_steps 27 = .ok (.getfield 169, 3) := by decide +kernel
theorem dX11_steps_30 : decode cX11_steps 30 = .ok (.iload_n 1, 1) := by decide +kernel
theorem dX11_steps_31 : decode cX11_steps 31 = .ok (.iaload, 1) := by decide +kernel
theorem dX11_steps_32 : decode cX11_steps 32 = .ok (.goto 5, 3) := by decide +kernel
theorem dX11_steps_35 : decode cX11_steps 35 = .ok (.bipush (-2), 2) := by decide +kernel
theorem dX11_steps_37 : decode cX11_steps 37 = .ok (.ireturn, 1) := by decide +kernel
theorem dX11_why_0 : decode cX11_why 0 = .ok (.aload_n 0, 1) := by decide +kernel
theorem dX11_why_1 : decode cX11_why 1 = .ok (.getfield 16, 3) := by decide +kernel
theorem dX11_why_4 : decode cX11_why 4 = .ok (.iload_n 1, 1) := by decide +kernel
theorem dX11_why_5 : decode cX11_why 5 = .ok (.invokevirtual 140, 3) := by decide +kernel
theorem dX11_why_8 : decode cX11_why 8 = .ok (.ifCond .ne 9, 3) := by decide +kernel
theorem dX11_why_11 : decode cX11_why 11 = .ok (.aload_n 0, 1) := by decide +kernel
theorem dX11_why_12 : decode cX11_why 12 = .ok (.iconst 1, 1) := by decide +kernel
theorem dX11_why_13 : decode cX11_why 13 = .ok (.invokevirtual 77, 3) := by decide +kernel
theorem dX11_why_16 : decode cX11_why 16 = .ok (.ireturn, 1) := by decide +kernel
theorem dX11_why_17 : decode cX11_why 17 = .ok (.aload_n 0, 1) := by decide +kernel
theorem dX11_why_18 : decode cX11_why 18 = .ok (.invokevirtual 156, 3) := by decide +kernel
theorem dX11_why_21 : decode cX11_why 21 = .ok (.astore_n 2, 1) := by decide +kernel
theorem dX11_why_22 : decode cX11_why 22 = .ok (.aload_n 2, 1) := by decide +kernel
theorem dX11_why_23 : decode cX11_why 23 = .ok (.iload_n 1, 1) := by decide +kernel
theorem dX11_why_24 : decode cX11_why 24 = .ok (.invokevirtual 160, 3) := by decide +kernel
theorem dX11_why_27 : decode cX11_why 27 = .ok (.ifCond .ne 9, 3) := by decide +kernel
theorem dX11_why_30 : decode cX11_why 30 = .ok (.aload_n 0, 1) := by decide +kernel
theorem dX11_why_31 : decode cX11_why 31 = .ok (.iconst 5, 1) := by decide +kernel
theorem dX11_why_32 : decode cX11_why 32 = .ok (.invokevirtual 77, 3) := by decide +kernel
theorem dX11_why_35 : decode cX11_why 35 = .ok (.ireturn, 1) := by decide +kernel
theorem dX11_why_36 : decode cX11_why 36 = .ok (.aload_n 0, 1) := by decide +kernel
theorem dX11_why_37 : decode cX11_why 37 = .ok (.iconst 0, 1) := by decide +kernel
theorem dX11_why_38 : decode cX11_why 38 = .ok (.putfield 89, 3) := by decide +kernel
theorem dX11_why_41 : decode cX11_why 41 = .ok (.aload_n 0, 1) := by decide +kernel
theorem dX11_why_42 : decode cX11_why 42 = .ok (.getfield 16, 3) := by decide +kernel
theorem dX11_why_45 : decode cX11_why 45 = .ok (.iload_n 1, 1) := by decide +kernel
theorem dX11_why_46 : decode cX11_why 46 = .ok (.invokevirtual 153, 3) := by decide +kernel
theorem dX11_why_49 : decode cX11_why 49 = .ok (.ifCond .eq 6, 3) := by decide +kernel
theorem dX11_why_52 : decode cX11_why 52 = .ok (.bipush (-2), 2) := by decide +kernel
theorem dX11_why_54 : decode cX11_why 54 = .ok (.ireturn, 1) := by decide +kernel
theorem dX11_why_55 : decode cX11_why 55 = .ok (.iconst 0, 1) := by decide +kernel
theorem dX11_why_56 : decode cX11_why 56 = .ok (.istore_n 3, 1) := by decide +kernel
theorem dX11_why_57 : decode cX11_why 57 = .ok (.iload_n 3, 1) := by decide +kernel
theorem dX11_why_58 : decode cX11_why 58 = .ok (.aload_n 0, 1) := by decide +kernel
theorem dX11_why_59 : decode cX11_why 59 = .ok (.getfield 16, 3) := by decide +kernel
theorem dX11_why_62 : decode cX11_why 62 = .ok (.getfield 172, 3) := by decide +kernel
theorem dX11_why_65 : decode cX11_why 65 = .ok (.if_icmp .ge 45, 3) := by decide +kernel
theorem dX11_why_68 : decode cX11_why 68 = .ok (.aload_n 0, 1) := by decide +kernel
theorem dX11_why_69 : decode cX11_why 69 = .ok (.getfield 32, 3) := by decide +kernel
theorem dX11_why_72 : decode cX11_why 72 = .ok (.aload_n 2, 1) := by decide +kernel
theorem dX11_why_73 : decode cX11_why 73 = .ok (.aload_n 0, 1) := by decide +kernel
theorem dX11_why_74 : decode cX11_why 74 = .ok (.getfield 16, 3) := by decide +kernel
theorem dX11_why_77 : decode cX11_why 77 = .ok (.getfield 175, 3) := by decide +kernel
theorem dX11_why_80 : decode cX11_why 80 = .ok (.iload_n 3, 1) := by decide +kernel
theorem dX11_why_81 : decode cX11_why 81 = .ok (.aaload, 1) := by decide +kernel
theorem dX11_why_82 : decode cX11_why 82 = .ok (.iload_n 1, 1) := by decide +kernel
theorem dX11_why_83 : decode cX11_why 83 = .ok (.invokevirtual 179, 3) := by decide +kernel
theorem dX11_why_86 : decode cX11_why 86 = .ok (.ifCond .eq 18, 3) := by decide +kernel
theorem dX11_why_89 : decode cX11_why 89 = .ok (.aload_n 0, 1) := by decide +kernel
theorem dX11_why_90 : decode cX11_why 90 = .ok (.aload_n 0, 1) := by decide +kernel
theorem dX11_why_91 : decode cX11_why 91 = .ok (.getfield 16, 3) := by decide +kernel
theorem dX11_why_94 : decode cX11_why 94 = .ok (.getfield 175, 3) := by decide +kernel
theorem dX11_why_97 : decode cX11_why 97 = .ok (.iload_n 3, 1) := by decide +kernel
theorem dX11_why_98 : decode cX11_why 98 = .ok (.aaload, 1) := by decide +kernel
theorem dX11_why_99 : decode cX11_why 99 = .ok (.invokevirtual 183, 3) := by decide +kernel
theorem dX11_why_102 : decode cX11_why 102 = .ok (.iload_n 3, 1) := by decide +kernel
theorem dX11_why_103 : decode cX11_why 103 = .ok (.ireturn, 1) := by decide +kernel
theorem dX11_why_104 : decode cX11_why 104 = .ok (.iinc 3 1, 3) := by decide +kernel
theorem dX11_why_107 : decode cX11_why 107 = .ok (.goto (-50), 3) := by decide +kernel
theorem dX11_why_110 : decode cX11_why 110 = .ok (.iconst (-1), 1) := by decide +kernel
theorem dX11_why_111 : decode cX11_why 111 = .ok (.ireturn, 1) := by decide +kernel
theorem dX11_keepReasons_0 : decode cX11_keepReasons 0 = .ok (.aload_n 0, 1) := by decide +kernel
theorem dX11_keepReasons_1 : decode cX11_keepReasons 1 = .ok (.aload_n 1, 1) := by decide +kernel
theorem dX11_keepReasons_2 : decode cX11_keepReasons 2 = .ok (.getfield 187, 3) := by decide +kernel
theorem dX11_keepReasons_5 : decode cX11_keepReasons 5 = .ok (.putfield 190, 3) := by decide +kernel
theorem dX11_keepReasons_8 : decode cX11_keepReasons 8 = .ok (.iconst 0, 1) := by decide +kernel
theorem dX11_keepReasons_9 : decode cX11_keepReasons 9 = .ok (.istore_n 2, 1) := by decide +kernel
theorem dX11_keepReasons_10 : decode cX11_keepReasons 10 = .ok (.iload_n 2, 1) := by decide +kernel
theorem dX11_keepReasons_11 : decode cX11_keepReasons 11 = .ok (.aload_n 1, 1) := by decide +kernel
theorem dX11_keepReasons_12 : decode cX11_keepReasons 12 = .ok (.getfield 187, 3) := by decide +kernel
theorem dX11_keepReasons_15 : decode cX11_keepReasons 15 = .ok (.if_icmp .ge 43, 3) := by decide +kernel
theorem dX11_keepReasons_18 : decode cX11_keepReasons 18 = .ok (.aload_n 1, 1) := by decide +kernel
theorem dX11_keepReasons_19 : decode cX11_keepReasons 19 = .ok (.getfield 193, 3) := by decide +kernel
theorem dX11_keepReasons_22 : decode cX11_keepReasons 22 = .ok (.iload_n 2, 1) := by decide +kernel
theorem dX11_keepReasons_23 : decode cX11_keepReasons 23 = .ok (.aaload, 1) := by decide +kernel
theorem dX11_keepReasons_24 : decode cX11_keepReasons 24 = .ok (.astore_n 3, 1) := by decide +kernel
theorem dX11_keepReasons_25 : decode cX11_keepReasons 25 = .ok (.aload_n 0, 1) := by decide +kernel
theorem dX11_keepReasons_26 : decode cX11_keepReasons 26 = .ok (.getfield 66, 3) := by decide +kernel
theorem dX11_keepReasons_29 : decode cX11_keepReasons 29 = .ok (.iload_n 2, 1) := by decide +kernel
theorem dX11_keepReasons_30 : decode cX11_keepReasons 30 = .ok (.aload_n 3, 1) := by decide +kernel
theorem dX11_keepReasons_31 : decode cX11_keepReasons 31 = .ok (.getfield 197, 3) := by decide +kernel
theorem dX11_keepReasons_34 : decode cX11_keepReasons 34 = .ok (.iconst 2, 1) := by decide +kernel
theorem dX11_keepReasons_35 : decode cX11_keepReasons 35 = .ok (.if_icmp .ne 8, 3) := by decide +kernel
theorem dX11_keepReasons_38 : decode cX11_keepReasons 38 = .ok (.bipush (-2), 2) := by decide +kernel
theorem dX11_keepReasons_40 : decode cX11_keepReasons 40 = .ok (.goto 11, 3) := by decide +kernel
theorem dX11_keepReasons_43 : decode cX11_keepReasons 43 = .ok (.aload_n 0, 1) := by decide +kernel
theorem dX11_keepReasons_44 : decode cX11_keepReasons 44 = .ok (.getfield 32, 3) := by decide +kernel
theorem dX11_keepReasons_47 : decode cX11_keepReasons 47 = .ok (.aload_n 3, 1) := by decide +kernel
theorem dX11_keepReasons_48 : decode cX11_keepReasons 48 = .ok (.invokevirtual 202, 3) := by decide +kernel
theorem dX11_keepReasons_51 : decode cX11_keepReasons 51 = .ok (.iastore, 1) := by decide +kernel
theorem dX11_keepReasons_52 : decode cX11_keepReasons 52 = .ok (.iinc 2 1, 3) := by decide +kernel
theorem dX11_keepReasons_55 : decode cX11_keepReasons 55 = .ok (.goto (-45), 3) := by decide +kernel
theorem dX11_keepReasons_58 : decode cX11_keepReasons 58 = .ok (.return_, 1) := by decide +kernel
theorem dX11_because_0 : decode cX11_because 0 = .ok (.iload_n 1, 1) := by decide +kernel
theorem dX11_because_1 : decode cX11_because 1 = .ok (.ifCond .lt 20, 3) := by decide +kernel
theorem dX11_because_4 : decode cX11_because 4 = .ok (.iload_n 1, 1) := by decide +kernel
theorem dX11_because_5 : decode cX11_because 5 = .ok (.aload_n 0, 1) := by decide +kernel
theorem dX11_because_6 : decode cX11_because 6 = .ok (.getfield 190, 3) := by decide +kernel
theorem dX11_because_9 : decode cX11_because 9 = .ok (.if_icmp .ge 12, 3) := by decide +kernel
theorem dX11_because_12 : decode cX11_because 12 = .ok (.aload_n 0, 1) := by decide +kernel
theorem dX11_because_13 : decode cX11_because 13 = .ok (.getfield 66, 3) := by decide +kernel
theorem dX11_because_16 : decode cX11_because 16 = .ok (.iload_n 1, 1) := by decide +kernel
theorem dX11_because_17 : decode cX11_because 17 = .ok (.iaload, 1) := by decide +kernel
theorem dX11_because_18 : decode cX11_because 18 = .ok (.goto 4, 3) := by decide +kernel
theorem dX11_because_21 : decode cX11_because 21 = .ok (.iconst (-1), 1) := by decide +kernel
theorem dX11_because_22 : decode cX11_because 22 = .ok (.ireturn, 1) := by decide +kernel
theorem dX11_comes_0 : decode cX11_comes 0 = .ok (.aload_n 0, 1) := by decide +kernel
theorem dX11_comes_1 : decode cX11_comes 1 = .ok (.getfield 16, 3) := by decide +kernel
theorem dX11_comes_4 : decode cX11_comes 4 = .ok (.iload_n 1, 1) := by decide +kernel
theorem dX11_comes_5 : decode cX11_comes 5 = .ok (.invokevirtual 147, 3) := by decide +kernel
theorem dX11_comes_8 : decode cX11_comes 8 = .ok (.ifCond .eq 14, 3) := by decide +kernel
theorem dX11_comes_11 : decode cX11_comes 11 = .ok (.aload_n 0, 1) := by decide +kernel
theorem dX11_comes_12 : decode cX11_comes 12 = .ok (.getfield 16, 3) := by decide +kernel
theorem dX11_comes_15 : decode cX11_comes 15 = .ok (.iload_n 2, 1) := by decide +kernel
theorem dX11_comes_16 : decode cX11_comes 16 = .ok (.invokevirtual 140, 3) := by decide +kernel
theorem dX11_comes_19 : decode cX11_comes 19 = .ok (.ifCond .ne 9, 3) := by decide +kernel
theorem dX11_comes_22 : decode cX11_comes 22 = .ok (.aload_n 0, 1) := by decide +kernel
theorem dX11_comes_23 : decode cX11_comes 23 = .ok (.iconst 1, 1) := by decide +kernel
theorem dX11_comes_24 : decode cX11_comes 24 = .ok (.invokevirtual 77, 3) := by decide +kernel
theorem dX11_comes_27 : decode cX11_comes 27 = .ok (.ireturn, 1) := by decide +kernel
theorem dX11_comes_28 : decode cX11_comes 28 = .ok (.aload_n 0, 1) := by decide +kernel
theorem dX11_comes_29 : decode cX11_comes 29 = .ok (.getfield 16, 3) := by decide +kernel
theorem dX11_comes_32 : decode cX11_comes 32 = .ok (.getfield 175, 3) := by decide +kernel
theorem dX11_comes_35 : decode cX11_comes 35 = .ok (.iload_n 1, 1) := by decide +kernel
theorem dX11_comes_36 : decode cX11_comes 36 = .ok (.aaload, 1) := by decide +kernel
theorem dX11_comes_37 : decode cX11_comes 37 = .ok (.getfield 206, 3) := by decide +kernel
theorem dX11_comes_40 : decode cX11_comes 40 = .ok (.getfield 210, 3) := by decide +kernel
theorem dX11_comes_43 : decode cX11_comes 43 = .ok (.iload_n 2, 1) := by decide +kernel
theorem dX11_comes_44 : decode cX11_comes 44 = .ok (.bipush 100, 2) := by decide +kernel
theorem dX11_comes_46 : decode cX11_comes 46 = .ok (.idiv, 1) := by decide +kernel
theorem dX11_comes_47 : decode cX11_comes 47 = .ok (.if_icmp .eq 9, 3) := by decide +kernel
theorem dX11_comes_50 : decode cX11_comes 50 = .ok (.aload_n 0, 1) := by decide +kernel
theorem dX11_comes_51 : decode cX11_comes 51 = .ok (.iconst 1, 1) := by decide +kernel
theorem dX11_comes_52 : decode cX11_comes 52 = .ok (.invokevirtual 77, 3) := by decide +kernel
theorem dX11_comes_55 : decode cX11_comes 55 = .ok (.ireturn, 1) := by decide +kernel
theorem dX11_comes_56 : decode cX11_comes 56 = .ok (.aload_n 0, 1) := by decide +kernel
theorem dX11_comes_57 : decode cX11_comes 57 = .ok (.iconst 0, 1) := by decide +kernel
theorem dX11_comes_58 : decode cX11_comes 58 = .ok (.putfield 89, 3) := by decide +kernel
theorem dX11_comes_61 : decode cX11_comes 61 = .ok (.aload_n 0, 1) := by decide +kernel
theorem dX11_comes_62 : decode cX11_comes 62 = .ok (.getfield 32, 3) := by decide +kernel
theorem dX11_comes_65 : decode cX11_comes 65 = .ok (.aload_n 0, 1) := by decide +kernel
theorem dX11_comes_66 : decode cX11_comes 66 = .ok (.invokevirtual 156, 3) := by decide +kernel
theorem dX11_comes_69 : decode cX11_comes 69 = .ok (.aload_n 0, 1) := by decide +kernel
theorem dX11_comes_70 : decode cX11_comes 70 = .ok (.getfield 16, 3) := by decide +kernel
theorem dX11_comes_73 : decode cX11_comes 73 = .ok (.getfield 175, 3) := by decide +kernel
theorem dX11_comes_76 : decode cX11_comes 76 = .ok (.iload_n 1, 1) := by decide +kernel
theorem dX11_comes_77 : decode cX11_comes 77 = .ok (.aaload, 1) := by decide +kernel
theorem dX11_comes_78 : decode cX11_comes 78 = .ok (.iload_n 2, 1) := by decide +kernel
theorem dX11_comes_79 : decode cX11_comes 79 = .ok (.invokevirtual 213, 3) := by decide +kernel
theorem dX11_comes_82 : decode cX11_comes 82 = .ok (.ireturn, 1) := by decide +kernel
theorem dX11_rule_0 : decode cX11_rule 0 = .ok (.aload_n 0, 1) := by decide +kernel
theorem dX11_rule_1 : decode cX11_rule 1 = .ok (.getfield 16, 3) := by decide +kernel
theorem dX11_rule_4 : decode cX11_rule 4 = .ok (.iload_n 1, 1) := by decide +kernel
theorem dX11_rule_5 : decode cX11_rule 5 = .ok (.invokevirtual 147, 3) := by decide +kernel
theorem dX11_rule_8 : decode cX11_rule 8 = .ok (.ifCond .ne 5, 3) := by decide +kernel
theorem dX11_rule_11 : decode cX11_rule 11 = .ok (.iconst (-1), 1) := by decide +kernel
theorem dX11_rule_12 : decode cX11_rule 12 = .ok (.ireturn, 1) := by decide +kernel
theorem dX11_rule_13 : decode cX11_rule 13 = .ok (.aload_n 0, 1) := by decide +kernel
theorem dX11_rule_14 : decode cX11_rule 14 = .ok (.getfield 16, 3) := by decide +kernel
theorem dX11_rule_17 : decode cX11_rule 17 = .ok (.getfield 175, 3) := by decide +kernel
theorem dX11_rule_20 : decode cX11_rule 20 = .ok (.iload_n 1, 1) := by decide +kernel
theorem dX11_rule_21 : decode cX11_rule 21 = .ok (.aaload, 1) := by decide +kernel
theorem dX11_rule_22 : decode cX11_rule 22 = .ok (.astore_n 3, 1) := by decide +kernel
theorem dX11_rule_23 : decode cX11_rule 23 = .ok (.iload_n 2, 1) := by decide +kernel
theorem dX11_rule_24 : decode cX11_rule 24 = .ok (.tableswitch 97 0 4 #[36, 44, 49, 54, 79], 36) := by decide +kernel
theorem dX11_rule_60 : decode cX11_rule 60 = .ok (.aload_n 3, 1) := by decide +kernel
theorem dX11_rule_61 : decode cX11_rule 61 = .ok (.getfield 206, 3) := by decide +kernel
theorem dX11_rule_64 : decode cX11_rule 64 = .ok (.getfield 210, 3) := by decide +kernel
theorem dX11_rule_67 : decode cX11_rule 67 = .ok (.ireturn, 1) := by decide +kernel
theorem dX11_rule_68 : decode cX11_rule 68 = .ok (.aload_n 3, 1) := by decide +kernel
theorem dX11_rule_69 : decode cX11_rule 69 = .ok (.getfield 187, 3) := by decide +kernel
theorem dX11_rule_72 : decode cX11_rule 72 = .ok (.ireturn, 1) := by decide +kernel
theorem dX11_rule_73 : decode cX11_rule 73 = .ok (.aload_n 3, 1) := by decide +kernel
theorem dX11_rule_74 : decode cX11_rule 74 = .ok (.getfield 217, 3) := by decide +kernel
theorem dX11_rule_77 : decode cX11_rule 77 = .ok (.ireturn, 1) := by decide +kernel
theorem dX11_rule_78 : decode cX11_rule 78 = .ok (.aload_n 0, 1) := by decide +kernel
theorem dX11_rule_79 : decode cX11_rule 79 = .ok (.getfield 32, 3) := by decide +kernel
theorem dX11_rule_82 : decode cX11_rule 82 = .ok (.aload_n 0, 1) := by decide +kernel
theorem dX11_rule_83 : decode cX11_rule 83 = .ok (.invokevirtual 156, 3) := by decide +kernel
theorem dX11_rule_86 : decode cX11_rule 86 = .ok (.aload_n 3, 1) := by decide +kernel
theorem dX11_rule_87 : decode cX11_rule 87 = .ok (.invokevirtual 220, 3) := by decide +kernel
theorem dX11_rule_90 : decode cX11_rule 90 = .ok (.aload_n 3, 1) := by decide +kernel
theorem dX11_rule_91 : decode cX11_rule 91 = .ok (.getfield 187, 3) := by decide +kernel
theorem dX11_rule_94 : decode cX11_rule 94 = .ok (.if_icmp .ge 7, 3) := by decide +kernel
theorem dX11_rule_97 : decode cX11_rule 97 = .ok (.iconst 1, 1) := by decide +kernel
theorem dX11_rule_98 : decode cX11_rule 98 = .ok (.goto 4, 3) := by decide +kernel
theorem dX11_rule_101 : decode cX11_rule 101 = .ok (.iconst 0, 1) := by decide +kernel
theorem dX11_rule_102 : decode cX11_rule 102 = .ok (.ireturn, 1) := by decide +kernel
theorem dX11_rule_103 : decode cX11_rule 103 = .ok (.aload_n 0, 1) := by decide +kernel
theorem dX11_rule_104 : decode cX11_rule 104 = .ok (.iload_n 1, 1) := by decide +kernel
theorem dX11_rule_105 : decode cX11_rule 105 = .ok (.aload_n 0, 1) := by decide +kernel
theorem dX11_rule_106 : decode cX11_rule 106 = .ok (.invokevirtual 156, 3) := by decide +kernel
theorem dX11_rule_109 : decode cX11_rule 109 = .ok (.invokevirtual 224, 3) := by decide +kernel
theorem dX11_rule_112 : decode cX11_rule 112 = .ok (.ifCond .eq 7, 3) := by decide +kernel
theorem dX11_rule_115 : decode cX11_rule 115 = .ok (.iconst 1, 1) := by decide +kernel
theorem dX11_rule_116 : decode cX11_rule 116 = .ok (.goto 4, 3) := by decide +kernel
theorem dX11_rule_119 : decode cX11_rule 119 = .ok (.iconst 0, 1) := by decide +kernel
theorem dX11_rule_120 : decode cX11_rule 120 = .ok (.ireturn, 1) := by decide +kernel
theorem dX11_rule_121 : decode cX11_rule 121 = .ok (.iconst (-1), 1) := by decide +kernel
theorem dX11_rule_122 : decode cX11_rule 122 = .ok (.ireturn, 1) := by decide +kernel
theorem dX11_isSpare_0 : decode cX11_isSpare 0 = .ok (.aload_n 0, 1) := by decide +kernel
theorem dX11_isSpare_1 : decode cX11_isSpare 1 = .ok (.getfield 54, 3) := by decide +kernel
theorem dX11_isSpare_4 : decode cX11_isSpare 4 = .ok (.aload_n 0, 1) := by decide +kernel
theorem dX11_isSpare_5 : decode cX11_isSpare 5 = .ok (.getfield 16, 3) := by decide +kernel
theorem dX11_isSpare_8 : decode cX11_isSpare 8 = .ok (.getfield 228, 3) := by decide +kernel
theorem dX11_isSpare_11 : decode cX11_isSpare 11 = .ok (.invokevirtual 231, 3) := by decide +kernel
theorem dX11_isSpare_14 : decode cX11_isSpare 14 = .ok (.aload_n 0, 1) := by decide +kernel
theorem dX11_isSpare_15 : decode cX11_isSpare 15 = .ok (.getfield 41, 3) := by decide +kernel
theorem dX11_isSpare_18 : decode cX11_isSpare 18 = .ok (.aload_n 0, 1) := by decide +kernel
theorem dX11_isSpare_19 : decode cX11_isSpare 19 = .ok (.getfield 54, 3) := by decide +kernel
theorem dX11_isSpare_22 : decode cX11_isSpare 22 = .ok (.iload_n 1, 1) := by decide +kernel
theorem dX11_isSpare_23 : decode cX11_isSpare 23 = .ok (.sipush 1023, 3) := by decide +kernel
theorem dX11_isSpare_26 : decode cX11_isSpare 26 = .ok (.iconst (-1), 1) := by decide +kernel
theorem dX11_isSpare_27 : decode cX11_isSpare 27 = .ok (.invokevirtual 235, 3) := by decide +kernel
theorem dX11_isSpare_30 : decode cX11_isSpare 30 = .ok (.aload_n 0, 1) := by decide +kernel
theorem dX11_isSpare_31 : decode cX11_isSpare 31 = .ok (.getfield 54, 3) := by decide +kernel
theorem dX11_isSpare_34 : decode cX11_isSpare 34 = .ok (.aload_n 2, 1) := by decide +kernel
theorem dX11_isSpare_35 : decode cX11_isSpare 35 = .ok (.invokevirtual 239, 3) := by decide +kernel
theorem dX11_isSpare_38 : decode cX11_isSpare 38 = .ok (.ifCond .ne 18, 3) := by decide +kernel
theorem dX11_isSpare_41 : decode cX11_isSpare 41 = .ok (.aload_n 2, 1) := by decide +kernel
theorem dX11_isSpare_42 : decode cX11_isSpare 42 = .ok (.aload_n 0, 1) := by decide +kernel
theorem dX11_isSpare_43 : decode cX11_isSpare 43 = .ok (.getfield 54, 3) := by decide +kernel
theorem dX11_isSpare_46 : decode cX11_isSpare 46 = .ok (.invokevirtual 239, 3) := by decide +kernel
theorem dX11_isSpare_49 : decode cX11_isSpare 49 = .ok (.ifCond .ne 7, 3) := by decide +kernel
theorem dX11_isSpare_52 : decode cX11_isSpare 52 = .ok (.iconst 1, 1) := by decide +kernel
theorem dX11_isSpare_53 : decode cX11_isSpare 53 = .ok (.goto 4, 3) := by decide +kernel
theorem dX11_isSpare_56 : decode cX11_isSpare 56 = .ok (.iconst 0, 1) := by decide +kernel
theorem dX11_isSpare_57 : decode cX11_isSpare 57 = .ok (.ireturn, 1) := by decide +kernel
theorem dX11_term_0 : decode cX11_term 0 = .ok (.aload_n 0, 1) := by decide +kernel
theorem dX11_term_1 : decode cX11_term 1 = .ok (.getfield 16, 3) := by decide +kernel
theorem dX11_term_4 : decode cX11_term 4 = .ok (.iload_n 1, 1) := by decide +kernel
theorem dX11_term_5 : decode cX11_term 5 = .ok (.invokevirtual 147, 3) := by decide +kernel
theorem dX11_term_8 : decode cX11_term 8 = .ok (.ifCond .eq 23, 3) := by decide +kernel
theorem dX11_term_11 : decode cX11_term 11 = .ok (.iload_n 2, 1) := by decide +kernel
theorem dX11_term_12 : decode cX11_term 12 = .ok (.ifCond .lt 19, 3) := by decide +kernel
theorem dX11_term_15 : decode cX11_term 15 = .ok (.iload_n 2, 1) := by decide +kernel
theorem dX11_term_16 : decode cX11_term 16 = .ok (.aload_n 0, 1) := by decide +kernel
theorem dX11_term_17 : decode cX11_term 17 = .ok (.getfield 16, 3) := by decide +kernel
theorem dX11_term_20 : decode cX11_term 20 = .ok (.getfield 175, 3) := by decide +kernel
theorem dX11_term_23 : decode cX11_term 23 = .ok (.iload_n 1, 1) := by decide +kernel
theorem dX11_term_24 : decode cX11_term 24 = .ok (.aaload, 1) := by decide +kernel
theorem dX11_term_25 : decode cX11_term 25 = .ok (.getfield 187, 3) := by decide +kernel
theorem dX11_term_28 : decode cX11_term 28 = .ok (.if_icmp .lt 5, 3) := by decide +kernel
theorem dX11_term_31 : decode cX11_term 31 = .ok (.iconst (-1), 1) := by decide +kernel
theorem dX11_term_32 : decode cX11_term 32 = .ok (.ireturn, 1) := by decide +kernel
theorem dX11_term_33 : decode cX11_term 33 = .ok (.aload_n 0, 1) := by decide +kernel
theorem dX11_term_34 : decode cX11_term 34 = .ok (.getfield 16, 3) := by decide +kernel
theorem dX11_term_37 : decode cX11_term 37 = .ok (.getfield 175, 3) := by decide +kernel
theorem dX11_term_40 : decode cX11_term 40 = .ok (.iload_n 1, 1) := by decide +kernel
theorem dX11_term_41 : decode cX11_term 41 = .ok (.aaload, 1) := by decide +kernel
theorem dX11_term_42 : decode cX11_term 42 = .ok (.getfield 193, 3) := by decide +kernel
theorem dX11_term_45 : decode cX11_term 45 = .ok (.iload_n 2, 1) := by decide +kernel
theorem dX11_term_46 : decode cX11_term 46 = .ok (.aaload, 1) := by decide +kernel
theorem dX11_term_47 : decode cX11_term 47 = .ok (.astore 4, 2) := by decide +kernel
theorem dX11_term_49 : decode cX11_term 49 = .ok (.iload_n 3, 1) := by decide +kernel
theorem dX11_term_50 : decode cX11_term 50 = .ok (.tableswitch 54 0 3 #[30, 36, 42, 48], 30) := by decide +kernel
theorem dX11_term_80 : decode cX11_term 80 = .ok (.aload 4, 2) := by decide +kernel
theorem dX11_term_82 : decode cX11_term 82 = .ok (.getfield 197, 3) := by decide +kernel
theorem dX11_term_85 : decode cX11_term 85 = .ok (.ireturn, 1) := by decide +kernel
theorem dX11_term_86 : decode cX11_term 86 = .ok (.aload 4, 2) := by decide +kernel
theorem dX11_term_88 : decode cX11_term 88 = .ok (.getfield 210, 3) := by decide +kernel
theorem dX11_term_91 : decode cX11_term 91 = .ok (.ireturn, 1) := by decide +kernel
theorem dX11_term_92 : decode cX11_term 92 = .ok (.aload 4, 2) := by decide +kernel
theorem dX11_term_94 : decode cX11_term 94 = .ok (.getfield 243, 3) := by decide +kernel
theorem dX11_term_97 : decode cX11_term 97 = .ok (.ireturn, 1) := by decide +kernel
theorem dX11_term_98 : decode cX11_term 98 = .ok (.aload 4, 2) := by decide +kernel
theorem dX11_term_100 : decode cX11_term 100 = .ok (.getfield 246, 3) := by decide +kernel
theorem dX11_term_103 : decode cX11_term 103 = .ok (.ireturn, 1) := by decide +kernel
theorem dX11_term_104 : decode cX11_term 104 = .ok (.iconst (-1), 1) := by decide +kernel
theorem dX11_term_105 : decode cX11_term 105 = .ok (.ireturn, 1) := by decide +kernel
theorem dX11_go_0 : decode cX11_go 0 = .ok (.aload_n 0, 1) := by decide +kernel
theorem dX11_go_1 : decode cX11_go 1 = .ok (.getfield 16, 3) := by decide +kernel
theorem dX11_go_4 : decode cX11_go 4 = .ok (.iload_n 1, 1) := by decide +kernel
theorem dX11_go_5 : decode cX11_go 5 = .ok (.invokevirtual 140, 3) := by decide +kernel
theorem dX11_go_8 : decode cX11_go 8 = .ok (.ifCond .ne 9, 3) := by decide +kernel
theorem dX11_go_11 : decode cX11_go 11 = .ok (.aload_n 0, 1) := by decide +kernel
theorem dX11_go_12 : decode cX11_go 12 = .ok (.iconst 1, 1) := by decide +kernel
theorem dX11_go_13 : decode cX11_go 13 = .ok (.invokevirtual 77, 3) := by decide +kernel
theorem dX11_go_16 : decode cX11_go 16 = .ok (.ireturn, 1) := by decide +kernel
theorem dX11_go_17 : decode cX11_go 17 = .ok (.aload_n 0, 1) := by decide +kernel
theorem dX11_go_18 : decode cX11_go 18 = .ok (.invokevirtual 156, 3) := by decide +kernel
theorem dX11_go_21 : decode cX11_go 21 = .ok (.iload_n 1, 1) := by decide +kernel
theorem dX11_go_22 : decode cX11_go 22 = .ok (.invokevirtual 160, 3) := by decide +kernel
theorem dX11_go_25 : decode cX11_go 25 = .ok (.ifCond .ne 9, 3) := by decide +kernel
theorem dX11_go_28 : decode cX11_go 28 = .ok (.aload_n 0, 1) := by decide +kernel
theorem dX11_go_29 : decode cX11_go 29 = .ok (.iconst 5, 1) := by decide +kernel
theorem dX11_go_30 : decode cX11_go 30 = .ok (.invokevirtual 77, 3) := by decide +kernel
theorem dX11_go_33 : decode cX11_go 33 = .ok (.ireturn, 1) := by decide +kernel
theorem dX11_go_34 : decode cX11_go 34 = .ok (.aload_n 0, 1) := by decide +kernel
theorem dX11_go_35 : decode cX11_go 35 = .ok (.getfield 16, 3) := by decide +kernel
theorem dX11_go_38 : decode cX11_go 38 = .ok (.getfield 249, 3) := by decide +kernel
theorem dX11_go_41 : decode cX11_go 41 = .ok (.bipush 12, 2) := by decide +kernel
theorem dX11_go_43 : decode cX11_go 43 = .ok (.if_icmp .le 10, 3) := by decide +kernel
theorem dX11_go_46 : decode cX11_go 46 = .ok (.aload_n 0, 1) := by decide +kernel
theorem dX11_go_47 : decode cX11_go 47 = .ok (.bipush 6, 2) := by decide +kernel
theorem dX11_go_49 : decode cX11_go 49 = .ok (.invokevirtual 77, 3) := by decide +kernel
theorem dX11_go_52 : decode cX11_go 52 = .ok (.ireturn, 1) := by decide +kernel
theorem dX11_go_53 : decode cX11_go 53 = .ok (.aload_n 0, 1) := by decide +kernel
theorem dX11_go_54 : decode cX11_go 54 = .ok (.iconst 0, 1) := by decide +kernel
theorem dX11_go_55 : decode cX11_go 55 = .ok (.putfield 89, 3) := by decide +kernel
theorem dX11_go_58 : decode cX11_go 58 = .ok (.aload_n 0, 1) := by decide +kernel
theorem dX11_go_59 : decode cX11_go 59 = .ok (.getfield 62, 3) := by decide +kernel
theorem dX11_go_62 : decode cX11_go 62 = .ok (.iload_n 1, 1) := by decide +kernel
theorem dX11_go_63 : decode cX11_go 63 = .ok (.invokevirtual 252, 3) := by decide +kernel
theorem dX11_go_66 : decode cX11_go 66 = .ok (.iconst 1, 1) := by decide +kernel
theorem dX11_go_67 : decode cX11_go 67 = .ok (.istore_n 2, 1) := by decide +kernel
theorem dX11_go_68 : decode cX11_go 68 = .ok (.iload_n 2, 1) := by decide +kernel
theorem dX11_go_69 : decode cX11_go 69 = .ok (.iconst 3, 1) := by decide +kernel
theorem dX11_go_70 : decode cX11_go 70 = .ok (.if_icmp .gt 22, 3) := by decide +kernel
theorem dX11_go_73 : decode cX11_go 73 = .ok (.aload_n 0, 1) := by decide +kernel
theorem dX11_go_74 : decode cX11_go 74 = .ok (.getfield 62, 3) := by decide +kernel
theorem dX11_go_77 : decode cX11_go 77 = .ok (.iload_n 2, 1) := by decide +kernel
theorem dX11_go_78 : decode cX11_go 78 = .ok (.invokevirtual 255, 3) := by decide +kernel
theorem dX11_go_81 : decode cX11_go 81 = .ok (.ifCond .eq 5, 3) := by decide +kernel
theorem dX11_go_84 : decode cX11_go 84 = .ok (.iload_n 2, 1) := by decide +kernel
theorem dX11_go_85 : decode cX11_go 85 = .ok (.ireturn, 1) := by decide +kernel
theorem dX11_go_86 : decode cX11_go 86 = .ok (.iinc 2 1, 3) := by decide +kernel
theorem dX11_go_89 : decode cX11_go 89 = .ok (.goto (-21), 3) := by decide +kernel
theorem dX11_go_92 : decode cX11_go 92 = .ok (.bipush (-2), 2) := by decide +kernel
theorem dX11_go_94 : decode cX11_go 94 = .ok (.ireturn, 1) := by decide +kernel
theorem dX11_gone_0 : decode cX11_gone 0 = .ok (.iload_n 1, 1) := by decide +kernel
theorem dX11_gone_1 : decode cX11_gone 1 = .ok (.ifCond .lt 26, 3) := by decide +kernel
theorem dX11_gone_4 : decode cX11_gone 4 = .ok (.iload_n 1, 1) := by decide +kernel
theorem dX11_gone_5 : decode cX11_gone 5 = .ok (.aload_n 0, 1) := by decide +kernel
theorem dX11_gone_6 : decode cX11_gone 6 = .ok (.getfield 62, 3) := by decide +kernel
theorem dX11_gone_9 : decode cX11_gone 9 = .ok (.getfield 258, 3) := by decide +kernel
theorem dX11_gone_12 : decode cX11_gone 12 = .ok (.if_icmp .ge 15, 3) := by decide +kernel
theorem dX11_gone_15 : decode cX11_gone 15 = .ok (.aload_n 0, 1) := by decide +kernel
theorem dX11_gone_16 : decode cX11_gone 16 = .ok (.getfield 62, 3) := by decide +kernel
theorem dX11_gone_19 : decode cX11_gone 19 = .ok (.getfield 261, 3) := by decide +kernel
theorem dX11_gone_22 : decode cX11_gone 22 = .ok (.iload_n 1, 1) := by decide +kernel
theorem dX11_gone_23 : decode cX11_gone 23 = .ok (.iaload, 1) := by decide +kernel
theorem dX11_gone_24 : decode cX11_gone 24 = .ok (.goto 4, 3) := by decide +kernel
theorem dX11_gone_27 : decode cX11_gone 27 = .ok (.iconst (-1), 1) := by decide +kernel
theorem dX11_gone_28 : decode cX11_gone 28 = .ok (.ireturn, 1) := by decide +kernel
theorem dX11_derived_0 : decode cX11_derived 0 = .ok (.aload_n 0, 1) := by decide +kernel
theorem dX11_derived_1 : decode cX11_derived 1 = .ok (.invokevirtual 156, 3) := by decide +kernel
theorem dX11_derived_4 : decode cX11_derived 4 = .ok (.astore_n 1, 1) := by decide +kernel
theorem dX11_derived_5 : decode cX11_derived 5 = .ok (.iconst 0, 1) := by decide +kernel
theorem dX11_derived_6 : decode cX11_derived 6 = .ok (.istore_n 2, 1) := by decide +kernel
theorem dX11_derived_7 : decode cX11_derived 7 = .ok (.iconst 0, 1) := by decide +kernel
theorem dX11_derived_8 : decode cX11_derived 8 = .ok (.istore_n 3, 1) := by decide +kernel
theorem dX11_derived_9 : decode cX11_derived 9 = .ok (.iload_n 3, 1) := by decide +kernel
theorem dX11_derived_10 : decode cX11_derived 10 = .ok (.bipush 100, 2) := by decide +kernel
theorem dX11_derived_12 : decode cX11_derived 12 = .ok (.if_icmp .ge 33, 3) := by decide +kernel
theorem dX11_derived_15 : decode cX11_derived 15 = .ok (.iload_n 2, 1) := by decide +kernel
theorem dX11_derived_16 : decode cX11_derived 16 = .ok (.aload_n 1, 1) := by decide +kernel
theorem dX11_derived_17 : decode cX11_derived 17 = .ok (.getfield 161, 3) := by decide +kernel
theorem dX11_derived_20 : decode cX11_derived 20 = .ok (.iload_n 3, 1) := by decide +kernel
theorem dX11_derived_21 : decode cX11_derived 21 = .ok (.iaload, 1) := by decide +kernel
theorem dX11_derived_22 : decode cX11_derived 22 = .ok (.aload_n 0, 1) := by decide +kernel
theorem dX11_derived_23 : decode cX11_derived 23 = .ok (.getfield 16, 3) := by decide +kernel
theorem dX11_derived_26 : decode cX11_derived 26 = .ok (.getfield 228, 3) := by decide +kernel
theorem dX11_derived_29 : decode cX11_derived 29 = .ok (.iload_n 3, 1) := by decide +kernel
theorem dX11_derived_30 : decode cX11_derived 30 = .ok (.iaload, 1) := by decide +kernel
theorem dX11_derived_31 : decode cX11_derived 31 = .ok (.iconst (-1), 1) := by decide +kernel
theorem dX11_derived_32 : decode cX11_derived 32 = .ok (.ixor, 1) := by decide +kernel
theorem dX11_derived_33 : decode cX11_derived 33 = .ok (.iand, 1) := by decide +kernel
theorem dX11_derived_34 : decode cX11_derived 34 = .ok (.invokestatic 164, 3) := by decide +kernel
theorem dX11_derived_37 : decode cX11_derived 37 = .ok (.iadd, 1) := by decide +kernel
theorem dX11_derived_38 : decode cX11_derived 38 = .ok (.istore_n 2, 1) := by decide +kernel
theorem dX11_derived_39 : decode cX11_derived 39 = .ok (.iinc 3 1, 3) := by decide +kernel
theorem dX11_derived_42 : decode cX11_derived 42 = .ok (.goto (-33), 3) := by decide +kernel
theorem dX11_derived_45 : decode cX11_derived 45 = .ok (.iload_n 2, 1) := by decide +kernel
theorem dX11_derived_46 : decode cX11_derived 46 = .ok (.ireturn, 1) := by decide +kernel
theorem dX11_deepest_0 : decode cX11_deepest 0 = .ok (.aload_n 0, 1) := by decide +kernel
theorem dX11_deepest_1 : decode cX11_deepest 1 = .ok (.invokevirtual 156, 3) := by decide +kernel
theorem dX11_deepest_4 : decode cX11_deepest 4 = .ok (.astore_n 1, 1) := by decide +kernel
theorem dX11_deepest_5 : decode cX11_deepest 5 = .ok (.iconst 0, 1) := by decide +kernel
theorem dX11_deepest_6 : decode cX11_deepest 6 = .ok (.istore_n 2, 1) := by decide +kernel
theorem dX11_deepest_7 : decode cX11_deepest 7 = .ok (.iconst 0, 1) := by decide +kernel
theorem dX11_deepest_8 : decode cX11_deepest 8 = .ok (.istore_n 3, 1) := by decide +kernel
theorem dX11_deepest_9 : decode cX11_deepest 9 = .ok (.iload_n 3, 1) := by decide +kernel
theorem dX11_deepest_10 : decode cX11_deepest 10 = .ok (.aload_n 0, 1) := by decide +kernel
theorem dX11_deepest_11 : decode cX11_deepest 11 = .ok (.getfield 16, 3) := by decide +kernel
theorem dX11_deepest_14 : decode cX11_deepest 14 = .ok (.getfield 101, 3) := by decide +kernel
theorem dX11_deepest_17 : decode cX11_deepest 17 = .ok (.getfield 114, 3) := by decide +kernel
theorem dX11_deepest_20 : decode cX11_deepest 20 = .ok (.bipush 10, 2) := by decide +kernel
theorem dX11_deepest_22 : decode cX11_deepest 22 = .ok (.imul, 1) := by decide +kernel
theorem dX11_deepest_23 : decode cX11_deepest 23 = .ok (.bipush 10, 2) := by decide +kernel
theorem dX11_deepest_25 : decode cX11_deepest 25 = .ok (.imul, 1) := by decide +kernel
theorem dX11_deepest_26 : decode cX11_deepest 26 = .ok (.if_icmp .ge 28, 3) := by decide +kernel
theorem dX11_deepest_29 : decode cX11_deepest 29 = .ok (.aload_n 1, 1) := by decide +kernel
theorem dX11_deepest_30 : decode cX11_deepest 30 = .ok (.iload_n 3, 1) := by decide +kernel
theorem dX11_deepest_31 : decode cX11_deepest 31 = .ok (.invokevirtual 160, 3) := by decide +kernel
theorem dX11_deepest_34 : decode cX11_deepest 34 = .ok (.ifCond .eq 14, 3) := by decide +kernel
theorem dX11_deepest_37 : decode cX11_deepest 37 = .ok (.iload_n 2, 1) := by decide +kernel
theorem dX11_deepest_38 : decode cX11_deepest 38 = .ok (.aload_n 1, 1) := by decide +kernel
theorem dX11_deepest_39 : decode cX11_deepest 39 = .ok (.getfield 169, 3) := by decide +kernel
theorem dX11_deepest_42 : decode cX11_deepest 42 = .ok (.iload_n 3, 1) := by decide +kernel
theorem dX11_deepest_43 : decode cX11_deepest 43 = .ok (.iaload, 1) := by decide +kernel
theorem dX11_deepest_44 : decode cX11_deepest 44 = .ok (.invokestatic 264, 3) := by decide +kernel
theorem dX11_deepest_47 : decode cX11_deepest 47 = .ok (.istore_n 2, 1) := by decide +kernel
theorem dX11_deepest_48 : decode cX11_deepest 48 = .ok (.iinc 3 1, 3) := by decide +kernel
theorem dX11_deepest_51 : decode cX11_deepest 51 = .ok (.goto (-42), 3) := by decide +kernel
theorem dX11_deepest_54 : decode cX11_deepest 54 = .ok (.iload_n 2, 1) := by decide +kernel
theorem dX11_deepest_55 : decode cX11_deepest 55 = .ok (.ireturn, 1) := by decide +kernel
theorem dX11_turned_0 : decode cX11_turned 0 = .ok (.aload_n 0, 1) := by decide +kernel
theorem dX11_turned_1 : decode cX11_turned 1 = .ok (.getfield 16, 3) := by decide +kernel
theorem dX11_turned_4 : decode cX11_turned 4 = .ok (.iload_n 1, 1) := by decide +kernel
theorem dX11_turned_5 : decode cX11_turned 5 = .ok (.invokevirtual 140, 3) := by decide +kernel
theorem dX11_turned_8 : decode cX11_turned 8 = .ok (.ifCond .ne 9, 3) := by decide +kernel
theorem dX11_turned_11 : decode cX11_turned 11 = .ok (.aload_n 0, 1) := by decide +kernel
theorem dX11_turned_12 : decode cX11_turned 12 = .ok (.iconst 1, 1) := by decide +kernel
theorem dX11_turned_13 : decode cX11_turned 13 = .ok (.invokevirtual 77, 3) := by decide +kernel
theorem dX11_turned_16 : decode cX11_turned 16 = .ok (.ireturn, 1) := by decide +kernel
theorem dX11_turned_17 : decode cX11_turned 17 = .ok (.aload_n 0, 1) := by decide +kernel
theorem dX11_turned_18 : decode cX11_turned 18 = .ok (.iconst 0, 1) := by decide +kernel
theorem dX11_turned_19 : decode cX11_turned 19 = .ok (.putfield 89, 3) := by decide +kernel
theorem dX11_turned_22 : decode cX11_turned 22 = .ok (.aload_n 0, 1) := by decide +kernel
theorem dX11_turned_23 : decode cX11_turned 23 = .ok (.invokevirtual 156, 3) := by decide +kernel
theorem dX11_turned_26 : decode cX11_turned 26 = .ok (.astore_n 3, 1) := by decide +kernel
theorem dX11_turned_27 : decode cX11_turned 27 = .ok (.aload_n 0, 1) := by decide +kernel
theorem dX11_turned_28 : decode cX11_turned 28 = .ok (.getfield 54, 3) := by decide +kernel
theorem dX11_turned_31 : decode cX11_turned 31 = .ok (.aload_n 0, 1) := by decide +kernel
theorem dX11_turned_32 : decode cX11_turned 32 = .ok (.getfield 16, 3) := by decide +kernel
theorem dX11_turned_35 : decode cX11_turned 35 = .ok (.getfield 228, 3) := by decide +kernel
theorem dX11_turned_38 : decode cX11_turned 38 = .ok (.invokevirtual 231, 3) := by decide +kernel
theorem dX11_turned_41 : decode cX11_turned 41 = .ok (.aload_n 0, 1) := by decide +kernel
theorem dX11_turned_42 : decode cX11_turned 42 = .ok (.getfield 54, 3) := by decide +kernel
theorem dX11_turned_45 : decode cX11_turned 45 = .ok (.iload_n 1, 1) := by decide +kernel
theorem dX11_turned_46 : decode cX11_turned 46 = .ok (.invokevirtual 269, 3) := by decide +kernel
theorem dX11_turned_49 : decode cX11_turned 49 = .ok (.aload_n 0, 1) := by decide +kernel
theorem dX11_turned_50 : decode cX11_turned 50 = .ok (.getfield 41, 3) := by decide +kernel
theorem dX11_turned_53 : decode cX11_turned 53 = .ok (.aload_n 0, 1) := by decide +kernel
theorem dX11_turned_54 : decode cX11_turned 54 = .ok (.getfield 54, 3) := by decide +kernel
theorem dX11_turned_57 : decode cX11_turned 57 = .ok (.iconst (-1), 1) := by decide +kernel
theorem dX11_turned_58 : decode cX11_turned 58 = .ok (.sipush 1023, 3) := by decide +kernel
theorem dX11_turned_61 : decode cX11_turned 61 = .ok (.iconst (-1), 1) := by decide +kernel
theorem dX11_turned_62 : decode cX11_turned 62 = .ok (.invokevirtual 235, 3) := by decide +kernel
theorem dX11_turned_65 : decode cX11_turned 65 = .ok (.iload_n 2, 1) := by decide +kernel
theorem dX11_turned_66 : decode cX11_turned 66 = .ok (.ifCond .eq 14, 3) := by decide +kernel
theorem dX11_turned_69 : decode cX11_turned 69 = .ok (.aload_n 3, 1) := by decide +kernel
theorem dX11_turned_70 : decode cX11_turned 70 = .ok (.aload_n 0, 1) := by decide +kernel
theorem dX11_turned_71 : decode cX11_turned 71 = .ok (.getfield 54, 3) := by decide +kernel
theorem dX11_turned_74 : decode cX11_turned 74 = .ok (.invokevirtual 239, 3) := by decide +kernel
theorem dX11_turned_77 : decode cX11_turned 77 = .ok (.goto 11, 3) := by decide +kernel
theorem dX11_turned_80 : decode cX11_turned 80 = .ok (.aload_n 0, 1) := by decide +kernel
theorem dX11_turned_81 : decode cX11_turned 81 = .ok (.getfield 54, 3) := by decide +kernel
theorem dX11_turned_84 : decode cX11_turned 84 = .ok (.aload_n 3, 1) := by decide +kernel
theorem dX11_turned_85 : decode cX11_turned 85 = .ok (.invokevirtual 239, 3) := by decide +kernel
theorem dX11_turned_88 : decode cX11_turned 88 = .ok (.ireturn, 1) := by decide +kernel
theorem dX11_count_0 : decode cX11_count 0 = .ok (.iload_n 1, 1) := by decide +kernel
theorem dX11_count_1 : decode cX11_count 1 = .ok (.tableswitch 90 0 5 #[39, 50, 61, 69, 77, 82], 39) := by decide +kernel
theorem dX11_count_40 : decode cX11_count 40 = .ok (.aload_n 0, 1) := by decide +kernel
theorem dX11_count_41 : decode cX11_count 41 = .ok (.getfield 16, 3) := by decide +kernel
theorem dX11_count_44 : decode cX11_count 44 = .ok (.getfield 111, 3) := by decide +kernel
theorem dX11_count_47 : decode cX11_count 47 = .ok (.getfield 114, 3) := by decide +kernel
theorem dX11_count_50 : decode cX11_count 50 = .ok (.ireturn, 1) := by decide +kernel
theorem dX11_count_51 : decode cX11_count 51 = .ok (.aload_n 0, 1) := by decide +kernel
theorem dX11_count_52 : decode cX11_count 52 = .ok (.getfield 16, 3) := by decide +kernel
theorem dX11_count_55 : decode cX11_count 55 = .ok (.getfield 101, 3) := by decide +kernel
theorem dX11_count_58 : decode cX11_count 58 = .ok (.getfield 114, 3) := by decide +kernel
theorem dX11_count_61 : decode cX11_count 61 = .ok (.ireturn, 1) := by decide +kernel
theorem dX11_count_62 : decode cX11_count 62 = .ok (.aload_n 0, 1) := by decide +kernel
theorem dX11_count_63 : decode cX11_count 63 = .ok (.getfield 16, 3) := by decide +kernel
theorem dX11_count_66 : decode cX11_count 66 = .ok (.getfield 172, 3) := by decide +kernel
theorem dX11_count_69 : decode cX11_count 69 = .ok (.ireturn, 1) := by decide +kernel
theorem dX11_count_70 : decode cX11_count 70 = .ok (.aload_n 0, 1) := by decide +kernel
theorem dX11_count_71 : decode cX11_count 71 = .ok (.getfield 16, 3) := by decide +kernel
theorem dX11_count_74 : decode cX11_count 74 = .ok (.getfield 249, 3) := by decide +kernel
theorem dX11_count_77 : decode cX11_count 77 = .ok (.ireturn, 1) := by decide +kernel
theorem dX11_count_78 : decode cX11_count 78 = .ok (.aload_n 0, 1) := by decide +kernel
theorem dX11_count_79 : decode cX11_count 79 = .ok (.getfield 69, 3) := by decide +kernel
theorem dX11_count_82 : decode cX11_count 82 = .ok (.ireturn, 1) := by decide +kernel
theorem dX11_count_83 : decode cX11_count 83 = .ok (.aload_n 0, 1) := by decide +kernel
theorem dX11_count_84 : decode cX11_count 84 = .ok (.getfield 16, 3) := by decide +kernel
theorem dX11_count_87 : decode cX11_count 87 = .ok (.invokevirtual 272, 3) := by decide +kernel
theorem dX11_count_90 : decode cX11_count 90 = .ok (.ireturn, 1) := by decide +kernel
theorem dX11_count_91 : decode cX11_count 91 = .ok (.iconst (-1), 1) := by decide +kernel
theorem dX11_count_92 : decode cX11_count 92 = .ok (.ireturn, 1) := by decide +kernel
theorem dX11_trouble_0 : decode cX11_trouble 0 = .ok (.aload_n 0, 1) := by decide +kernel
theorem dX11_trouble_1 : decode cX11_trouble 1 = .ok (.getfield 89, 3) := by decide +kernel
theorem dX11_trouble_4 : decode cX11_trouble 4 = .ok (.ireturn, 1) := by decide +kernel
theorem dX11_refuse_0 : decode cX11_refuse 0 = .ok (.aload_n 0, 1) := by decide +kernel
theorem dX11_refuse_1 : decode cX11_refuse 1 = .ok (.iload_n 1, 1) := by decide +kernel
theorem dX11_refuse_2 : decode cX11_refuse 2 = .ok (.putfield 89, 3) := by decide +kernel
theorem dX11_refuse_5 : decode cX11_refuse 5 = .ok (.iconst (-1), 1) := by decide +kernel
theorem dX11_refuse_6 : decode cX11_refuse 6 = .ok (.ireturn, 1) := by decide +kernel
theorem dX11_settled_0 : decode cX11_settled 0 = .ok (.aload_n 0, 1) := by decide +kernel
theorem dX11_settled_1 : decode cX11_settled 1 = .ok (.getfield 85, 3) := by decide +kernel
theorem dX11_settled_4 : decode cX11_settled 4 = .ok (.ifCond .ne 38, 3) := by decide +kernel
theorem dX11_settled_7 : decode cX11_settled 7 = .ok (.aload_n 0, 1) := by decide +kernel
theorem dX11_settled_8 : decode cX11_settled 8 = .ok (.getfield 50, 3) := by decide +kernel
theorem dX11_settled_11 : decode cX11_settled 11 = .ok (.aload_n 0, 1) := by decide +kernel
theorem dX11_settled_12 : decode cX11_settled 12 = .ok (.getfield 16, 3) := by decide +kernel
theorem dX11_settled_15 : decode cX11_settled 15 = .ok (.getfield 228, 3) := by decide +kernel
theorem dX11_settled_18 : decode cX11_settled 18 = .ok (.invokevirtual 231, 3) := by decide +kernel
theorem dX11_settled_21 : decode cX11_settled 21 = .ok (.aload_n 0, 1) := by decide +kernel
theorem dX11_settled_22 : decode cX11_settled 22 = .ok (.getfield 41, 3) := by decide +kernel
theorem dX11_settled_25 : decode cX11_settled 25 = .ok (.aload_n 0, 1) := by decide +kernel
theorem dX11_settled_26 : decode cX11_settled 26 = .ok (.getfield 50, 3) := by decide +kernel
theorem dX11_settled_29 : decode cX11_settled 29 = .ok (.iconst (-1), 1) := by decide +kernel
theorem dX11_settled_30 : decode cX11_settled 30 = .ok (.sipush 1023, 3) := by decide +kernel
theorem dX11_settled_33 : decode cX11_settled 33 = .ok (.iconst (-1), 1) := by decide +kernel
theorem dX11_settled_34 : decode cX11_settled 34 = .ok (.invokevirtual 235, 3) := by decide +kernel
theorem dX11_settled_37 : decode cX11_settled 37 = .ok (.aload_n 0, 1) := by decide +kernel
theorem dX11_settled_38 : decode cX11_settled 38 = .ok (.iconst 1, 1) := by decide +kernel
theorem dX11_settled_39 : decode cX11_settled 39 = .ok (.putfield 85, 3) := by decide +kernel
theorem dX11_settled_42 : decode cX11_settled 42 = .ok (.aload_n 0, 1) := by decide +kernel
theorem dX11_settled_43 : decode cX11_settled 43 = .ok (.getfield 50, 3) := by decide +kernel
theorem dX11_settled_46 : decode cX11_settled 46 = .ok (.areturn, 1) := by decide +kernel
theorem dX12_init_0 : decode cX12_init 0 = .ok (.aload_n 0, 1) := by decide +kernel
theorem dX12_init_1 : decode cX12_init 1 = .ok (.invokespecial 3, 3) := by decide +kernel
theorem dX12_init_4 : decode cX12_init 4 = .ok (.aload_n 0, 1) := by decide +kernel
theorem dX12_init_5 : decode cX12_init 5 = .ok (.iconst 5, 1) := by decide +kernel
theorem dX12_init_6 : decode cX12_init 6 = .ok (.newarray .int, 2) := by decide +kernel
theorem dX12_init_8 : decode cX12_init 8 = .ok (.putfield 9, 3) := by decide +kernel
theorem dX12_init_11 : decode cX12_init 11 = .ok (.aload_n 0, 1) := by decide +kernel
theorem dX12_init_12 : decode cX12_init 12 = .ok (.iconst 5, 1) := by decide +kernel
theorem dX12_init_13 : decode cX12_init 13 = .ok (.newarray .int, 2) := by decide +kernel
theorem dX12_init_15 : decode cX12_init 15 = .ok (.putfield 15, 3) := by decide +kernel
theorem dX12_init_18 : decode cX12_init 18 = .ok (.aload_n 0, 1) := by decide +kernel
theorem dX12_init_19 : decode cX12_init 19 = .ok (.iconst 5, 1) := by decide +kernel
theorem dX12_init_20 : decode cX12_init 20 = .ok (.newarray .int, 2) := by decide +kernel
theorem dX12_init_22 : decode cX12_init 22 = .ok (.putfield 18, 3) := by decide +kernel
theorem dX12_init_25 : decode cX12_init 25 = .ok (.aload_n 0, 1) := by decide +kernel
theorem dX12_init_26 : decode cX12_init 26 = .ok (.iconst 5, 1) := by decide +kernel
theorem dX12_init_27 : decode cX12_init 27 = .ok (.newarray .int, 2) := by decide +kernel
theorem dX12_init_29 : decode cX12_init 29 = .ok (.putfield 21, 3) := by decide +kernel
theorem dX12_init_32 : decode cX12_init 32 = .ok (.aload_n 0, 1) := by decide +kernel
theorem dX12_init_33 : decode cX12_init 33 = .ok (.iconst 3, 1) := by decide +kernel
theorem dX12_init_34 : decode cX12_init 34 = .ok (.newarray .int, 2) := by decide +kernel
theorem dX12_init_36 : decode cX12_init 36 = .ok (.putfield 24, 3) := by decide +kernel
theorem dX12_init_39 : decode cX12_init 39 = .ok (.return_, 1) := by decide +kernel
theorem dX12_signOf_0 : decode cX12_signOf 0 = .ok (.iconst 0, 1) := by decide +kernel
theorem dX12_signOf_1 : decode cX12_signOf 1 = .ok (.istore_n 2, 1) := by decide +kernel
theorem dX12_signOf_2 : decode cX12_signOf 2 = .ok (.iload_n 2, 1) := by decide +kernel
theorem dX12_signOf_3 : decode cX12_signOf 3 = .ok (.aload_n 0, 1) := by decide +kernel
theorem dX12_signOf_4 : decode cX12_signOf 4 = .ok (.getfield 27, 3) := by decide +kernel
theorem dX12_signOf_7 : decode cX12_signOf 7 = .ok (.if_icmp .ge 19, 3) := by decide +kernel
theorem dX12_signOf_10 : decode cX12_signOf 10 = .ok (.aload_n 0, 1) := by decide +kernel
theorem dX12_signOf_11 : decode cX12_signOf 11 = .ok (.getfield 24, 3) := by decide +kernel
theorem dX12_signOf_14 : decode cX12_signOf 14 = .ok (.iload_n 2, 1) := by decide +kernel
theorem dX12_signOf_15 : decode cX12_signOf 15 = .ok (.iaload, 1) := by decide +kernel
theorem dX12_signOf_16 : decode cX12_signOf 16 = .ok (.iload_n 1, 1) := by decide +kernel
theorem dX12_signOf_17 : decode cX12_signOf 17 = .ok (.if_icmp .eq 9, 3) := by decide +kernel
theorem dX12_signOf_20 : decode cX12_signOf 20 = .ok (.iinc 2 1, 3) := by decide +kernel
theorem dX12_signOf_23 : decode cX12_signOf 23 = .ok (.goto (-21), 3) := by decide +kernel
theorem dX12_signOf_26 : decode cX12_signOf 26 = .ok (.iload_n 2, 1) := by decide +kernel
theorem dX12_signOf_27 : decode cX12_signOf 27 = .ok (.aload_n 0, 1) := by decide +kernel
theorem dX12_signOf_28 : decode cX12_signOf 28 = .ok (.getfield 27, 3) := by decide +kernel
theorem dX12_signOf_31 : decode cX12_signOf 31 = .ok (.if_icmp .ge 7, 3) := by decide +kernel
theorem dX12_signOf_34 : decode cX12_signOf 34 = .ok (.iload_n 2, 1) := by decide +kernel
theorem dX12_signOf_35 : decode cX12_signOf 35 = .ok (.goto 4, 3) := by decide +kernel
theorem dX12_signOf_38 : decode cX12_signOf 38 = .ok (.iconst (-1), 1) := by decide +kernel
theorem dX12_signOf_39 : decode cX12_signOf 39 = .ok (.ireturn, 1) := by decide +kernel
theorem dX13_init_0 : decode cX13_init 0 = .ok (.aload_n 0, 1) := by decide +kernel
theorem dX13_init_1 : decode cX13_init 1 = .ok (.aconst_null, 1) := by decide +kernel
theorem dX13_init_2 : decode cX13_init 2 = .ok (.aconst_null, 1) := by decide +kernel
theorem dX13_init_3 : decode cX13_init 3 = .ok (.iconst 0, 1) := by decide +kernel
theorem dX13_init_4 : decode cX13_init 4 = .ok (.iconst 0, 1) := by decide +kernel
theorem dX13_init_5 : decode cX13_init 5 = .ok (.invokespecial 1, 3) := by decide +kernel
theorem dX13_init_8 : decode cX13_init 8 = .ok (.return_, 1) := by decide +kernel
theorem dX14_init_0 : decode cX14_init 0 = .ok (.aload_n 0, 1) := by decide +kernel
theorem dX14_init_1 : decode cX14_init 1 = .ok (.invokespecial 1, 3) := by decide +kernel
theorem dX14_init_4 : decode cX14_init 4 = .ok (.aload_n 0, 1) := by decide +kernel
theorem dX14_init_5 : decode cX14_init 5 = .ok (.iconst (-1), 1) := by decide +kernel
theorem dX14_init_6 : decode cX14_init 6 = .ok (.putfield 9, 3) := by decide +kernel
theorem dX14_init_9 : decode cX14_init 9 = .ok (.aload_n 0, 1) := by decide +kernel
theorem dX14_init_10 : decode cX14_init 10 = .ok (.bipush 10, 2) := by decide +kernel
theorem dX14_init_12 : decode cX14_init 12 = .ok (.newarray .long, 2) := by decide +kernel
theorem dX14_init_14 : decode cX14_init 14 = .ok (.putfield 13, 3) := by decide +kernel
theorem dX14_init_17 : decode cX14_init 17 = .ok (.aload_n 0, 1) := by decide +kernel
theorem dX14_init_18 : decode cX14_init 18 = .ok (.bipush 10, 2) := by decide +kernel
theorem dX14_init_20 : decode cX14_init 20 = .ok (.newarray .long, 2) := by decide +kernel
theorem dX14_init_22 : decode cX14_init 22 = .ok (.putfield 17, 3) := by decide +kernel
theorem dX14_init_25 : decode cX14_init 25 = .ok (.aload_n 0, 1) := by decide +kernel
theorem dX14_init_26 : decode cX14_init 26 = .ok (.bipush 10, 2) := by decide +kernel
theorem dX14_init_28 : decode cX14_init 28 = .ok (.newarray .int, 2) := by decide +kernel
theorem dX14_init_30 : decode cX14_init 30 = .ok (.putfield 20, 3) := by decide +kernel
theorem dX14_init_33 : decode cX14_init 33 = .ok (.aload_n 0, 1) := by decide +kernel
theorem dX14_init_34 : decode cX14_init 34 = .ok (.bipush 10, 2) := by decide +kernel
theorem dX14_init_36 : decode cX14_init 36 = .ok (.newarray .int, 2) := by decide +kernel
theorem dX14_init_38 : decode cX14_init 38 = .ok (.putfield 24, 3) := by decide +kernel
theorem dX14_init_41 : decode cX14_init 41 = .ok (.aload_n 0, 1) := by decide +kernel
theorem dX14_init_42 : decode cX14_init 42 = .ok (.bipush 10, 2) := by decide +kernel
theorem dX14_init_44 : decode cX14_init 44 = .ok (.newarray .int, 2) := by decide +kernel
theorem dX14_init_46 : decode cX14_init 46 = .ok (.putfield 27, 3) := by decide +kernel
theorem dX14_init_49 : decode cX14_init 49 = .ok (.aload_n 0, 1) := by decide +kernel
theorem dX14_init_50 : decode cX14_init 50 = .ok (.bipush 10, 2) := by decide +kernel
theorem dX14_init_52 : decode cX14_init 52 = .ok (.newarray .int, 2) := by decide +kernel
theorem dX14_init_54 : decode cX14_init 54 = .ok (.putfield 30, 3) := by decide +kernel
theorem dX14_init_57 : decode cX14_init 57 = .ok (.aload_n 0, 1) := by decide +kernel
theorem dX14_init_58 : decode cX14_init 58 = .ok (.sipush 1000, 3) := by decide +kernel
theorem dX14_init_61 : decode cX14_init 61 = .ok (.newarray .boolean, 2) := by decide +kernel
theorem dX14_init_63 : decode cX14_init 63 = .ok (.putfield 33, 3) := by decide +kernel
theorem dX14_init_66 : decode cX14_init 66 = .ok (.aload_n 0, 1) := by decide +kernel
theorem dX14_init_67 : decode cX14_init 67 = .ok (.sipush 1000, 3) := by decide +kernel
theorem dX14_init_70 : decode cX14_init 70 = .ok (.newarray .boolean, 2) := by decide +kernel
theorem dX14_init_72 : decode cX14_init 72 = .ok (.putfield 37, 3) := by decide +kernel
theorem dX14_init_75 : decode cX14_init 75 = .ok (.aload_n 0, 1) := by decide +kernel
theorem dX14_init_76 : decode cX14_init 76 = .ok (.bipush 20, 2) := by decide +kernel
theorem dX14_init_78 : decode cX14_init 78 = .ok (.anewarray 40, 3) := by decide +kernel
theorem dX14_init_81 : decode cX14_init 81 = .ok (.putfield 42, 3) := by decide +kernel
theorem dX14_init_84 : decode cX14_init 84 = .ok (.aload_n 0, 1) := by decide +kernel
theorem dX14_init_85 : decode cX14_init 85 = .ok (.new 46, 3) := by decide +kernel
theorem dX14_init_88 : decode cX14_init 88 = .ok (.dup, 1) := by decide +kernel
theorem dX14_init_89 : decode cX14_init 89 = .ok (.invokespecial 48, 3) := by decide +kernel
theorem dX14_init_92 : decode cX14_init 92 = .ok (.putfield 49, 3) := by decide +kernel
theorem dX14_init_95 : decode cX14_init 95 = .ok (.aload_n 0, 1) := by decide +kernel
theorem dX14_init_96 : decode cX14_init 96 = .ok (.sipush 400, 3) := by decide +kernel
theorem dX14_init_99 : decode cX14_init 99 = .ok (.newarray .byte, 2) := by decide +kernel
theorem dX14_init_101 : decode cX14_init 101 = .ok (.putfield 53, 3) := by decide +kernel
theorem dX14_init_104 : decode cX14_init 104 = .ok (.aload_n 0, 1) := by decide +kernel
theorem dX14_init_105 : decode cX14_init 105 = .ok (.bipush 10, 2) := by decide +kernel
theorem dX14_init_107 : decode cX14_init 107 = .ok (.newarray .int, 2) := by decide +kernel
theorem dX14_init_109 : decode cX14_init 109 = .ok (.putfield 57, 3) := by decide +kernel
theorem dX14_init_112 : decode cX14_init 112 = .ok (.aload_n 0, 1) := by decide +kernel
theorem dX14_init_113 : decode cX14_init 113 = .ok (.bipush 10, 2) := by decide +kernel
theorem dX14_init_115 : decode cX14_init 115 = .ok (.newarray .int, 2) := by decide +kernel
