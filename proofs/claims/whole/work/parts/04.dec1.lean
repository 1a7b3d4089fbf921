theorem dX0_init_0 : decode cX0_init 0 = .ok (.aload_n 0, 1) := by decide +kernel
theorem dX0_init_1 : decode cX0_init 1 = .ok (.invokespecial 3, 3) := by decide +kernel
theorem dX0_init_4 : decode cX0_init 4 = .ok (.aload_n 0, 1) := by decide +kernel
theorem dX0_init_5 : decode cX0_init 5 = .ok (.new 9, 3) := by decide +kernel
theorem dX0_init_8 : decode cX0_init 8 = .ok (.dup, 1) := by decide +kernel
theorem dX0_init_9 : decode cX0_init 9 = .ok (.invokespecial 11, 3) := by decide +kernel
theorem dX0_init_12 : decode cX0_init 12 = .ok (.putfield 12, 3) := by decide +kernel
theorem dX0_init_15 : decode cX0_init 15 = .ok (.aload_n 0, 1) := by decide +kernel
theorem dX0_init_16 : decode cX0_init 16 = .ok (.new 9, 3) := by decide +kernel
theorem dX0_init_19 : decode cX0_init 19 = .ok (.dup, 1) := by decide +kernel
theorem dX0_init_20 : decode cX0_init 20 = .ok (.invokespecial 11, 3) := by decide +kernel
theorem dX0_init_23 : decode cX0_init 23 = .ok (.putfield 18, 3) := by decide +kernel
theorem dX0_init_26 : decode cX0_init 26 = .ok (.aload_n 0, 1) := by decide +kernel
theorem dX0_init_27 : decode cX0_init 27 = .ok (.bipush 10, 2) := by decide +kernel
theorem dX0_init_29 : decode cX0_init 29 = .ok (.newarray .int, 2) := by decide +kernel
theorem dX0_init_31 : decode cX0_init 31 = .ok (.putfield 21, 3) := by decide +kernel
theorem dX0_init_34 : decode cX0_init 34 = .ok (.aload_n 0, 1) := by decide +kernel
theorem dX0_init_35 : decode cX0_init 35 = .ok (.new 25, 3) := by decide +kernel
theorem dX0_init_38 : decode cX0_init 38 = .ok (.dup, 1) := by decide +kernel
theorem dX0_init_39 : decode cX0_init 39 = .ok (.invokespecial 27, 3) := by decide +kernel
theorem dX0_init_42 : decode cX0_init 42 = .ok (.putfield 28, 3) := by decide +kernel
theorem dX0_init_45 : decode cX0_init 45 = .ok (.aload_n 0, 1) := by decide +kernel
theorem dX0_init_46 : decode cX0_init 46 = .ok (.bipush 21, 2) := by decide +kernel
theorem dX0_init_48 : decode cX0_init 48 = .ok (.anewarray 32, 3) := by decide +kernel
theorem dX0_init_51 : decode cX0_init 51 = .ok (.putfield 34, 3) := by decide +kernel
theorem dX0_init_54 : decode cX0_init 54 = .ok (.aload_n 0, 1) := by decide +kernel
theorem dX0_init_55 : decode cX0_init 55 = .ok (.bipush 100, 2) := by decide +kernel
theorem dX0_init_57 : decode cX0_init 57 = .ok (.newarray .int, 2) := by decide +kernel
theorem dX0_init_59 : decode cX0_init 59 = .ok (.putfield 38, 3) := by decide +kernel
theorem dX0_init_62 : decode cX0_init 62 = .ok (.iconst 0, 1) := by decide +kernel
theorem dX0_init_63 : decode cX0_init 63 = .ok (.istore_n 1, 1) := by decide +kernel
theorem dX0_init_64 : decode cX0_init 64 = .ok (.iload_n 1, 1) := by decide +kernel
theorem dX0_init_65 : decode cX0_init 65 = .ok (.bipush 20, 2) := by decide +kernel
theorem dX0_init_67 : decode cX0_init 67 = .ok (.if_icmp .gt 22, 3) := by decide +kernel
theorem dX0_init_70 : decode cX0_init 70 = .ok (.aload_n 0, 1) := by decide +kernel
theorem dX0_init_71 : decode cX0_init 71 = .ok (.getfield 34, 3) := by decide +kernel
theorem dX0_init_74 : decode cX0_init 74 = .ok (.iload_n 1, 1) := by decide +kernel
theorem dX0_init_75 : decode cX0_init 75 = .ok (.new 32, 3) := by decide +kernel
theorem dX0_init_78 : decode cX0_init 78 = .ok (.dup, 1) := by decide +kernel
theorem dX0_init_79 : decode cX0_init 79 = .ok (.invokespecial 41, 3) := by decide +kernel
theorem dX0_init_82 : decode cX0_init 82 = .ok (.aastore, 1) := by decide +kernel
theorem dX0_init_83 : decode cX0_init 83 = .ok (.iinc 1 1, 3) := by decide +kernel
theorem dX0_init_86 : decode cX0_init 86 = .ok (.goto (-22), 3) := by decide +kernel
theorem dX0_init_89 : decode cX0_init 89 = .ok (.return_, 1) := by decide +kernel
theorem dX0_hasRule_0 : decode cX0_hasRule 0 = .ok (.iload_n 1, 1) := by decide +kernel
theorem dX0_hasRule_1 : decode cX0_hasRule 1 = .ok (.ifCond .lt 15, 3) := by decide +kernel
theorem dX0_hasRule_4 : decode cX0_hasRule 4 = .ok (.iload_n 1, 1) := by decide +kernel
theorem dX0_hasRule_5 : decode cX0_hasRule 5 = .ok (.aload_n 0, 1) := by decide +kernel
theorem dX0_hasRule_6 : decode cX0_hasRule 6 = .ok (.getfield 42, 3) := by decide +kernel
theorem dX0_hasRule_9 : decode cX0_hasRule 9 = .ok (.if_icmp .ge 7, 3) := by decide +kernel
theorem dX0_hasRule_12 : decode cX0_hasRule 12 = .ok (.iconst 1, 1) := by decide +kernel
theorem dX0_hasRule_13 : decode cX0_hasRule 13 = .ok (.goto 4, 3) := by decide +kernel
theorem dX0_hasRule_16 : decode cX0_hasRule 16 = .ok (.iconst 0, 1) := by decide +kernel
theorem dX0_hasRule_17 : decode cX0_hasRule 17 = .ok (.ireturn, 1) := by decide +kernel
theorem dX0_hasAtom_0 : decode cX0_hasAtom 0 = .ok (.iload_n 1, 1) := by decide +kernel
theorem dX0_hasAtom_1 : decode cX0_hasAtom 1 = .ok (.ifCond .lt 17, 3) := by decide +kernel
theorem dX0_hasAtom_4 : decode cX0_hasAtom 4 = .ok (.aload_n 0, 1) := by decide +kernel
theorem dX0_hasAtom_5 : decode cX0_hasAtom 5 = .ok (.getfield 12, 3) := by decide +kernel
theorem dX0_hasAtom_8 : decode cX0_hasAtom 8 = .ok (.iload_n 1, 1) := by decide +kernel
theorem dX0_hasAtom_9 : decode cX0_hasAtom 9 = .ok (.bipush 100, 2) := by decide +kernel
theorem dX0_hasAtom_11 : decode cX0_hasAtom 11 = .ok (.idiv, 1) := by decide +kernel
theorem dX0_hasAtom_12 : decode cX0_hasAtom 12 = .ok (.invokevirtual 46, 3) := by decide +kernel
theorem dX0_hasAtom_15 : decode cX0_hasAtom 15 = .ok (.ifCond .ne 5, 3) := by decide +kernel
theorem dX0_hasAtom_18 : decode cX0_hasAtom 18 = .ok (.iconst 0, 1) := by decide +kernel
theorem dX0_hasAtom_19 : decode cX0_hasAtom 19 = .ok (.ireturn, 1) := by decide +kernel
theorem dX0_hasAtom_20 : decode cX0_hasAtom 20 = .ok (.aload_n 0, 1) := by decide +kernel
theorem dX0_hasAtom_21 : decode cX0_hasAtom 21 = .ok (.getfield 21, 3) := by decide +kernel
theorem dX0_hasAtom_24 : decode cX0_hasAtom 24 = .ok (.iload_n 1, 1) := by decide +kernel
theorem dX0_hasAtom_25 : decode cX0_hasAtom 25 = .ok (.bipush 100, 2) := by decide +kernel
theorem dX0_hasAtom_27 : decode cX0_hasAtom 27 = .ok (.idiv, 1) := by decide +kernel
theorem dX0_hasAtom_28 : decode cX0_hasAtom 28 = .ok (.iaload, 1) := by decide +kernel
theorem dX0_hasAtom_29 : decode cX0_hasAtom 29 = .ok (.istore_n 2, 1) := by decide +kernel
theorem dX0_hasAtom_30 : decode cX0_hasAtom 30 = .ok (.iload_n 1, 1) := by decide +kernel
theorem dX0_hasAtom_31 : decode cX0_hasAtom 31 = .ok (.bipush 10, 2) := by decide +kernel
theorem dX0_hasAtom_33 : decode cX0_hasAtom 33 = .ok (.idiv, 1) := by decide +kernel
theorem dX0_hasAtom_34 : decode cX0_hasAtom 34 = .ok (.bipush 10, 2) := by decide +kernel
theorem dX0_hasAtom_36 : decode cX0_hasAtom 36 = .ok (.irem, 1) := by decide +kernel
theorem dX0_hasAtom_37 : decode cX0_hasAtom 37 = .ok (.istore_n 3, 1) := by decide +kernel
theorem dX0_hasAtom_38 : decode cX0_hasAtom 38 = .ok (.iload_n 1, 1) := by decide +kernel
theorem dX0_hasAtom_39 : decode cX0_hasAtom 39 = .ok (.bipush 10, 2) := by decide +kernel
theorem dX0_hasAtom_41 : decode cX0_hasAtom 41 = .ok (.irem, 1) := by decide +kernel
theorem dX0_hasAtom_42 : decode cX0_hasAtom 42 = .ok (.istore 4, 2) := by decide +kernel
theorem dX0_hasAtom_44 : decode cX0_hasAtom 44 = .ok (.iload_n 2, 1) := by decide +kernel
theorem dX0_hasAtom_45 : decode cX0_hasAtom 45 = .ok (.ifCond .le 17, 3) := by decide +kernel
theorem dX0_hasAtom_48 : decode cX0_hasAtom 48 = .ok (.iload_n 3, 1) := by decide +kernel
theorem dX0_hasAtom_49 : decode cX0_hasAtom 49 = .ok (.aload_n 0, 1) := by decide +kernel
theorem dX0_hasAtom_50 : decode cX0_hasAtom 50 = .ok (.getfield 18, 3) := by decide +kernel
theorem dX0_hasAtom_53 : decode cX0_hasAtom 53 = .ok (.getfield 50, 3) := by decide +kernel
theorem dX0_hasAtom_56 : decode cX0_hasAtom 56 = .ok (.if_icmp .ge 39, 3) := by decide +kernel
theorem dX0_hasAtom_59 : decode cX0_hasAtom 59 = .ok (.goto 7, 3) := by decide +kernel
theorem dX0_hasAtom_62 : decode cX0_hasAtom 62 = .ok (.iload_n 3, 1) := by decide +kernel
theorem dX0_hasAtom_63 : decode cX0_hasAtom 63 = .ok (.ifCond .ne 32, 3) := by decide +kernel
theorem dX0_hasAtom_66 : decode cX0_hasAtom 66 = .ok (.iload_n 2, 1) := by decide +kernel
theorem dX0_hasAtom_67 : decode cX0_hasAtom 67 = .ok (.iconst 1, 1) := by decide +kernel
theorem dX0_hasAtom_68 : decode cX0_hasAtom 68 = .ok (.if_icmp .le 18, 3) := by decide +kernel
theorem dX0_hasAtom_71 : decode cX0_hasAtom 71 = .ok (.iload 4, 2) := by decide +kernel
theorem dX0_hasAtom_73 : decode cX0_hasAtom 73 = .ok (.aload_n 0, 1) := by decide +kernel
theorem dX0_hasAtom_74 : decode cX0_hasAtom 74 = .ok (.getfield 18, 3) := by decide +kernel
theorem dX0_hasAtom_77 : decode cX0_hasAtom 77 = .ok (.getfield 50, 3) := by decide +kernel
theorem dX0_hasAtom_80 : decode cX0_hasAtom 80 = .ok (.if_icmp .ge 15, 3) := by decide +kernel
theorem dX0_hasAtom_83 : decode cX0_hasAtom 83 = .ok (.goto 8, 3) := by decide +kernel
theorem dX0_hasAtom_86 : decode cX0_hasAtom 86 = .ok (.iload 4, 2) := by decide +kernel
theorem dX0_hasAtom_88 : decode cX0_hasAtom 88 = .ok (.ifCond .ne 7, 3) := by decide +kernel
theorem dX0_hasAtom_91 : decode cX0_hasAtom 91 = .ok (.iconst 1, 1) := by decide +kernel
theorem dX0_hasAtom_92 : decode cX0_hasAtom 92 = .ok (.goto 4, 3) := by decide +kernel
theorem dX0_hasAtom_95 : decode cX0_hasAtom 95 = .ok (.iconst 0, 1) := by decide +kernel
theorem dX0_hasAtom_96 : decode cX0_hasAtom 96 = .ok (.ireturn, 1) := by decide +kernel
theorem dX0_isFact_0 : decode cX0_isFact 0 = .ok (.aload_n 0, 1) := by decide +kernel
theorem dX0_isFact_1 : decode cX0_isFact 1 = .ok (.getfield 38, 3) := by decide +kernel
theorem dX0_isFact_4 : decode cX0_isFact 4 = .ok (.iload_n 1, 1) := by decide +kernel
theorem dX0_isFact_5 : decode cX0_isFact 5 = .ok (.bipush 10, 2) := by decide +kernel
theorem dX0_isFact_7 : decode cX0_isFact 7 = .ok (.idiv, 1) := by decide +kernel
theorem dX0_isFact_8 : decode cX0_isFact 8 = .ok (.iaload, 1) := by decide +kernel
theorem dX0_isFact_9 : decode cX0_isFact 9 = .ok (.iload_n 1, 1) := by decide +kernel
theorem dX0_isFact_10 : decode cX0_isFact 10 = .ok (.bipush 10, 2) := by decide +kernel
theorem dX0_isFact_12 : decode cX0_isFact 12 = .ok (.irem, 1) := by decide +kernel
theorem dX0_isFact_13 : decode cX0_isFact 13 = .ok (.ishr, 1) := by decide +kernel
theorem dX0_isFact_14 : decode cX0_isFact 14 = .ok (.iconst 1, 1) := by decide +kernel
theorem dX0_isFact_15 : decode cX0_isFact 15 = .ok (.iand, 1) := by decide +kernel
theorem dX0_isFact_16 : decode cX0_isFact 16 = .ok (.ifCond .eq 7, 3) := by decide +kernel
theorem dX0_isFact_19 : decode cX0_isFact 19 = .ok (.iconst 1, 1) := by decide +kernel
theorem dX0_isFact_20 : decode cX0_isFact 20 = .ok (.goto 4, 3) := by decide +kernel
theorem dX0_isFact_23 : decode cX0_isFact 23 = .ok (.iconst 0, 1) := by decide +kernel
theorem dX0_isFact_24 : decode cX0_isFact 24 = .ok (.ireturn, 1) := by decide +kernel
theorem dX0_setFact_0 : decode cX0_setFact 0 = .ok (.aload_n 0, 1) := by decide +kernel
theorem dX0_setFact_1 : decode cX0_setFact 1 = .ok (.iload_n 1, 1) := by decide +kernel
theorem dX0_setFact_2 : decode cX0_setFact 2 = .ok (.invokevirtual 53, 3) := by decide +kernel
theorem dX0_setFact_5 : decode cX0_setFact 5 = .ok (.iload_n 2, 1) := by decide +kernel
theorem dX0_setFact_6 : decode cX0_setFact 6 = .ok (.if_icmp .ne 5, 3) := by decide +kernel
theorem dX0_setFact_9 : decode cX0_setFact 9 = .ok (.iconst 0, 1) := by decide +kernel
theorem dX0_setFact_10 : decode cX0_setFact 10 = .ok (.ireturn, 1) := by decide +kernel
theorem dX0_setFact_11 : decode cX0_setFact 11 = .ok (.aload_n 0, 1) := by decide +kernel
theorem dX0_setFact_12 : decode cX0_setFact 12 = .ok (.getfield 38, 3) := by decide +kernel
theorem dX0_setFact_15 : decode cX0_setFact 15 = .ok (.iload_n 1, 1) := by decide +kernel
theorem dX0_setFact_16 : decode cX0_setFact 16 = .ok (.bipush 10, 2) := by decide +kernel
theorem dX0_setFact_18 : decode cX0_setFact 18 = .ok (.idiv, 1) := by decide +kernel
theorem dX0_setFact_19 : decode cX0_setFact 19 = .ok (.dup2, 1) := by decide +kernel
theorem dX0_setFact_20 : decode cX0_setFact 20 = .ok (.iaload, 1) := by decide +kernel
theorem dX0_setFact_21 : decode cX0_setFact 21 = .ok (.iconst 1, 1) := by decide +kernel
theorem dX0_setFact_22 : decode cX0_setFact 22 = .ok (.iload_n 1, 1) := by decide +kernel
theorem dX0_setFact_23 : decode cX0_setFact 23 = .ok (.bipush 10, 2) := by decide +kernel
theorem dX0_setFact_25 : decode cX0_setFact 25 = .ok (.irem, 1) := by decide +kernel
theorem dX0_setFact_26 : decode cX0_setFact 26 = .ok (.ishl, 1) := by decide +kernel
theorem dX0_setFact_27 : decode cX0_setFact 27 = .ok (.ixor, 1) := by decide +kernel
theorem dX0_setFact_28 : decode cX0_setFact 28 = .ok (.iastore, 1) := by decide +kernel
theorem dX0_setFact_29 : decode cX0_setFact 29 = .ok (.aload_n 0, 1) := by decide +kernel
theorem dX0_setFact_30 : decode cX0_setFact 30 = .ok (.dup, 1) := by decide +kernel
theorem dX0_setFact_31 : decode cX0_setFact 31 = .ok (.getfield 56, 3) := by decide +kernel
theorem dX0_setFact_34 : decode cX0_setFact 34 = .ok (.iload_n 2, 1) := by decide +kernel
theorem dX0_setFact_35 : decode cX0_setFact 35 = .ok (.ifCond .eq 7, 3) := by decide +kernel
theorem dX0_setFact_38 : decode cX0_setFact 38 = .ok (.iconst 1, 1) := by decide +kernel
theorem dX0_setFact_39 : decode cX0_setFact 39 = .ok (.goto 4, 3) := by decide +kernel
theorem dX0_setFact_42 : decode cX0_setFact 42 = .ok (.iconst (-1), 1) := by decide +kernel
theorem dX0_setFact_43 : decode cX0_setFact 43 = .ok (.iadd, 1) := by decide +kernel
theorem dX0_setFact_44 : decode cX0_setFact 44 = .ok (.putfield 56, 3) := by decide +kernel
theorem dX0_setFact_47 : decode cX0_setFact 47 = .ok (.iconst 1, 1) := by decide +kernel
theorem dX0_setFact_48 : decode cX0_setFact 48 = .ok (.ireturn, 1) := by decide +kernel
theorem dX0_removeRule_0 : decode cX0_removeRule 0 = .ok (.aload_n 0, 1) := by decide +kernel
theorem dX0_removeRule_1 : decode cX0_removeRule 1 = .ok (.getfield 34, 3) := by decide +kernel
theorem dX0_removeRule_4 : decode cX0_removeRule 4 = .ok (.iload_n 1, 1) := by decide +kernel
theorem dX0_removeRule_5 : decode cX0_removeRule 5 = .ok (.aaload, 1) := by decide +kernel
theorem dX0_removeRule_6 : decode cX0_removeRule 6 = .ok (.astore_n 2, 1) := by decide +kernel
theorem dX0_removeRule_7 : decode cX0_removeRule 7 = .ok (.iload_n 1, 1) := by decide +kernel
theorem dX0_removeRule_8 : decode cX0_removeRule 8 = .ok (.istore_n 3, 1) := by decide +kernel
theorem dX0_removeRule_9 : decode cX0_removeRule 9 = .ok (.iload_n 3, 1) := by decide +kernel
theorem dX0_removeRule_10 : decode cX0_removeRule 10 = .ok (.aload_n 0, 1) := by decide +kernel
theorem dX0_removeRule_11 : decode cX0_removeRule 11 = .ok (.getfield 42, 3) := by decide +kernel
theorem dX0_removeRule_14 : decode cX0_removeRule 14 = .ok (.iconst 1, 1) := by decide +kernel
theorem dX0_removeRule_15 : decode cX0_removeRule 15 = .ok (.isub, 1) := by decide +kernel
theorem dX0_removeRule_16 : decode cX0_removeRule 16 = .ok (.if_icmp .ge 23, 3) := by decide +kernel
theorem dX0_removeRule_19 : decode cX0_removeRule 19 = .ok (.aload_n 0, 1) := by decide +kernel
theorem dX0_removeRule_20 : decode cX0_removeRule 20 = .ok (.getfield 34, 3) := by decide +kernel
theorem dX0_removeRule_23 : decode cX0_removeRule 23 = .ok (.iload_n 3, 1) := by decide +kernel
theorem dX0_removeRule_24 : decode cX0_removeRule 24 = .ok (.aload_n 0, 1) := by decide +kernel
theorem dX0_removeRule_25 : decode cX0_removeRule 25 = .ok (.getfield 34, 3) := by decide +kernel
theorem dX0_removeRule_28 : decode cX0_removeRule 28 = .ok (.iload_n 3, 1) := by decide +kernel
theorem dX0_removeRule_29 : decode cX0_removeRule 29 = .ok (.iconst 1, 1) := by decide +kernel
theorem dX0_removeRule_30 : decode cX0_removeRule 30 = .ok (.iadd, 1) := by decide +kernel
theorem dX0_removeRule_31 : decode cX0_removeRule 31 = .ok (.aaload, 1) := by decide +kernel
theorem dX0_removeRule_32 : decode cX0_removeRule 32 = .ok (.aastore, 1) := by decide +kernel
theorem dX0_removeRule_33 : decode cX0_removeRule 33 = .ok (.iinc 3 1, 3) := by decide +kernel
theorem dX0_removeRule_36 : decode cX0_removeRule 36 = .ok (.goto (-27), 3) := by decide +kernel
theorem dX0_removeRule_39 : decode cX0_removeRule 39 = .ok (.aload_n 0, 1) := by decide +kernel
theorem dX0_removeRule_40 : decode cX0_removeRule 40 = .ok (.dup, 1) := by decide +kernel
theorem dX0_removeRule_41 : decode cX0_removeRule 41 = .ok (.getfield 42, 3) := by decide +kernel
theorem dX0_removeRule_44 : decode cX0_removeRule 44 = .ok (.iconst 1, 1) := by decide +kernel
theorem dX0_removeRule_45 : decode cX0_removeRule 45 = .ok (.isub, 1) := by decide +kernel
theorem dX0_removeRule_46 : decode cX0_removeRule 46 = .ok (.putfield 42, 3) := by decide +kernel
theorem dX0_removeRule_49 : decode cX0_removeRule 49 = .ok (.aload_n 0, 1) := by decide +kernel
theorem dX0_removeRule_50 : decode cX0_removeRule 50 = .ok (.getfield 34, 3) := by decide +kernel
theorem dX0_removeRule_53 : decode cX0_removeRule 53 = .ok (.aload_n 0, 1) := by decide +kernel
theorem dX0_removeRule_54 : decode cX0_removeRule 54 = .ok (.getfield 42, 3) := by decide +kernel
theorem dX0_removeRule_57 : decode cX0_removeRule 57 = .ok (.aload_n 2, 1) := by decide +kernel
theorem dX0_removeRule_58 : decode cX0_removeRule 58 = .ok (.aastore, 1) := by decide +kernel
theorem dX0_removeRule_59 : decode cX0_removeRule 59 = .ok (.aload_n 0, 1) := by decide +kernel
theorem dX0_removeRule_60 : decode cX0_removeRule 60 = .ok (.getfield 28, 3) := by decide +kernel
theorem dX0_removeRule_63 : decode cX0_removeRule 63 = .ok (.aload_n 0, 1) := by decide +kernel
theorem dX0_removeRule_64 : decode cX0_removeRule 64 = .ok (.getfield 34, 3) := by decide +kernel
theorem dX0_removeRule_67 : decode cX0_removeRule 67 = .ok (.aload_n 0, 1) := by decide +kernel
theorem dX0_removeRule_68 : decode cX0_removeRule 68 = .ok (.getfield 42, 3) := by decide +kernel
theorem dX0_removeRule_71 : decode cX0_removeRule 71 = .ok (.invokevirtual 59, 3) := by decide +kernel
theorem dX0_removeRule_74 : decode cX0_removeRule 74 = .ok (.pop, 1) := by decide +kernel
theorem dX0_removeRule_75 : decode cX0_removeRule 75 = .ok (.return_, 1) := by decide +kernel
theorem dX0_layerCount_0 : decode cX0_layerCount 0 = .ok (.iconst 0, 1) := by decide +kernel
theorem dX0_layerCount_1 : decode cX0_layerCount 1 = .ok (.istore_n 1, 1) := by decide +kernel
theorem dX0_layerCount_2 : decode cX0_layerCount 2 = .ok (.iconst 0, 1) := by decide +kernel
theorem dX0_layerCount_3 : decode cX0_layerCount 3 = .ok (.istore_n 2, 1) := by decide +kernel
theorem dX0_layerCount_4 : decode cX0_layerCount 4 = .ok (.iload_n 2, 1) := by decide +kernel
theorem dX0_layerCount_5 : decode cX0_layerCount 5 = .ok (.aload_n 0, 1) := by decide +kernel
theorem dX0_layerCount_6 : decode cX0_layerCount 6 = .ok (.getfield 12, 3) := by decide +kernel
theorem dX0_layerCount_9 : decode cX0_layerCount 9 = .ok (.getfield 50, 3) := by decide +kernel
theorem dX0_layerCount_12 : decode cX0_layerCount 12 = .ok (.if_icmp .ge 25, 3) := by decide +kernel
theorem dX0_layerCount_15 : decode cX0_layerCount 15 = .ok (.iload_n 1, 1) := by decide +kernel
theorem dX0_layerCount_16 : decode cX0_layerCount 16 = .ok (.aload_n 0, 1) := by decide +kernel
theorem dX0_layerCount_17 : decode cX0_layerCount 17 = .ok (.getfield 28, 3) := by decide +kernel
theorem dX0_layerCount_20 : decode cX0_layerCount 20 = .ok (.getfield 63, 3) := by decide +kernel
theorem dX0_layerCount_23 : decode cX0_layerCount 23 = .ok (.iload_n 2, 1) := by decide +kernel
theorem dX0_layerCount_24 : decode cX0_layerCount 24 = .ok (.iaload, 1) := by decide +kernel
theorem dX0_layerCount_25 : decode cX0_layerCount 25 = .ok (.iconst 1, 1) := by decide +kernel
theorem dX0_layerCount_26 : decode cX0_layerCount 26 = .ok (.iadd, 1) := by decide +kernel
theorem dX0_layerCount_27 : decode cX0_layerCount 27 = .ok (.invokestatic 66, 3) := by decide +kernel
theorem dX0_layerCount_30 : decode cX0_layerCount 30 = .ok (.istore_n 1, 1) := by decide +kernel
theorem dX0_layerCount_31 : decode cX0_layerCount 31 = .ok (.iinc 2 1, 3) := by decide +kernel
theorem dX0_layerCount_34 : decode cX0_layerCount 34 = .ok (.goto (-30), 3) := by decide +kernel
theorem dX0_layerCount_37 : decode cX0_layerCount 37 = .ok (.iload_n 1, 1) := by decide +kernel
theorem dX0_layerCount_38 : decode cX0_layerCount 38 = .ok (.ireturn, 1) := by decide +kernel
theorem dX0_kindsBehind_0 : decode cX0_kindsBehind 0 = .ok (.iconst 1, 1) := by decide +kernel
theorem dX0_kindsBehind_1 : decode cX0_kindsBehind 1 = .ok (.iload_n 1, 1) := by decide +kernel
theorem dX0_kindsBehind_2 : decode cX0_kindsBehind 2 = .ok (.ishl, 1) := by decide +kernel
theorem dX0_kindsBehind_3 : decode cX0_kindsBehind 3 = .ok (.istore_n 2, 1) := by decide +kernel
theorem dX0_kindsBehind_4 : decode cX0_kindsBehind 4 = .ok (.iconst 0, 1) := by decide +kernel
theorem dX0_kindsBehind_5 : decode cX0_kindsBehind 5 = .ok (.istore_n 3, 1) := by decide +kernel
theorem dX0_kindsBehind_6 : decode cX0_kindsBehind 6 = .ok (.iload_n 3, 1) := by decide +kernel
theorem dX0_kindsBehind_7 : decode cX0_kindsBehind 7 = .ok (.bipush 10, 2) := by decide +kernel
theorem dX0_kindsBehind_9 : decode cX0_kindsBehind 9 = .ok (.if_icmp .ge 60, 3) := by decide +kernel
theorem dX0_kindsBehind_12 : decode cX0_kindsBehind 12 = .ok (.iconst 0, 1) := by decide +kernel
theorem dX0_kindsBehind_13 : decode cX0_kindsBehind 13 = .ok (.istore 4, 2) := by decide +kernel
theorem dX0_kindsBehind_15 : decode cX0_kindsBehind 15 = .ok (.iload 4, 2) := by decide +kernel
theorem dX0_kindsBehind_17 : decode cX0_kindsBehind 17 = .ok (.aload_n 0, 1) := by decide +kernel
theorem dX0_kindsBehind_18 : decode cX0_kindsBehind 18 = .ok (.getfield 42, 3) := by decide +kernel
theorem dX0_kindsBehind_21 : decode cX0_kindsBehind 21 = .ok (.if_icmp .ge 42, 3) := by decide +kernel
theorem dX0_kindsBehind_24 : decode cX0_kindsBehind 24 = .ok (.iload_n 2, 1) := by decide +kernel
theorem dX0_kindsBehind_25 : decode cX0_kindsBehind 25 = .ok (.aload_n 0, 1) := by decide +kernel
theorem dX0_kindsBehind_26 : decode cX0_kindsBehind 26 = .ok (.getfield 34, 3) := by decide +kernel
theorem dX0_kindsBehind_29 : decode cX0_kindsBehind 29 = .ok (.iload 4, 2) := by decide +kernel
theorem dX0_kindsBehind_31 : decode cX0_kindsBehind 31 = .ok (.aaload, 1) := by decide +kernel
theorem dX0_kindsBehind_32 : decode cX0_kindsBehind 32 = .ok (.getfield 72, 3) := by decide +kernel
theorem dX0_kindsBehind_35 : decode cX0_kindsBehind 35 = .ok (.getfield 76, 3) := by decide +kernel
theorem dX0_kindsBehind_38 : decode cX0_kindsBehind 38 = .ok (.ishr, 1) := by decide +kernel
theorem dX0_kindsBehind_39 : decode cX0_kindsBehind 39 = .ok (.iconst 1, 1) := by decide +kernel
theorem dX0_kindsBehind_40 : decode cX0_kindsBehind 40 = .ok (.iand, 1) := by decide +kernel
theorem dX0_kindsBehind_41 : decode cX0_kindsBehind 41 = .ok (.ifCond .eq 16, 3) := by decide +kernel
theorem dX0_kindsBehind_44 : decode cX0_kindsBehind 44 = .ok (.iload_n 2, 1) := by decide +kernel
theorem dX0_kindsBehind_45 : decode cX0_kindsBehind 45 = .ok (.aload_n 0, 1) := by decide +kernel
theorem dX0_kindsBehind_46 : decode cX0_kindsBehind 46 = .ok (.getfield 34, 3) := by decide +kernel
theorem dX0_kindsBehind_49 : decode cX0_kindsBehind 49 = .ok (.iload 4, 2) := by decide +kernel
theorem dX0_kindsBehind_51 : decode cX0_kindsBehind 51 = .ok (.aaload, 1) := by decide +kernel
theorem dX0_kindsBehind_52 : decode cX0_kindsBehind 52 = .ok (.invokestatic 81, 3) := by decide +kernel
theorem dX0_kindsBehind_55 : decode cX0_kindsBehind 55 = .ok (.ior, 1) := by decide +kernel
theorem dX0_kindsBehind_56 : decode cX0_kindsBehind 56 = .ok (.istore_n 2, 1) := by decide +kernel
theorem dX0_kindsBehind_57 : decode cX0_kindsBehind 57 = .ok (.iinc 4 1, 3) := by decide +kernel
theorem dX0_kindsBehind_60 : decode cX0_kindsBehind 60 = .ok (.goto (-45), 3) := by decide +kernel
theorem dX0_kindsBehind_63 : decode cX0_kindsBehind 63 = .ok (.iinc 3 1, 3) := by decide +kernel
theorem dX0_kindsBehind_66 : decode cX0_kindsBehind 66 = .ok (.goto (-60), 3) := by decide +kernel
theorem dX0_kindsBehind_69 : decode cX0_kindsBehind 69 = .ok (.iload_n 2, 1) := by decide +kernel
theorem dX0_kindsBehind_70 : decode cX0_kindsBehind 70 = .ok (.ireturn, 1) := by decide +kernel
theorem dX0_kindsIn_0 : decode cX0_kindsIn 0 = .ok (.iconst 0, 1) := by decide +kernel
theorem dX0_kindsIn_1 : decode cX0_kindsIn 1 = .ok (.istore_n 1, 1) := by decide +kernel
theorem dX0_kindsIn_2 : decode cX0_kindsIn 2 = .ok (.iconst 0, 1) := by decide +kernel
theorem dX0_kindsIn_3 : decode cX0_kindsIn 3 = .ok (.istore_n 2, 1) := by decide +kernel
theorem dX0_kindsIn_4 : decode cX0_kindsIn 4 = .ok (.iload_n 2, 1) := by decide +kernel
theorem dX0_kindsIn_5 : decode cX0_kindsIn 5 = .ok (.aload_n 0, 1) := by decide +kernel
theorem dX0_kindsIn_6 : decode cX0_kindsIn 6 = .ok (.getfield 85, 3) := by decide +kernel
theorem dX0_kindsIn_9 : decode cX0_kindsIn 9 = .ok (.if_icmp .ge 36, 3) := by decide +kernel
theorem dX0_kindsIn_12 : decode cX0_kindsIn 12 = .ok (.aload_n 0, 1) := by decide +kernel
theorem dX0_kindsIn_13 : decode cX0_kindsIn 13 = .ok (.getfield 86, 3) := by decide +kernel
theorem dX0_kindsIn_16 : decode cX0_kindsIn 16 = .ok (.iload_n 2, 1) := by decide +kernel
theorem dX0_kindsIn_17 : decode cX0_kindsIn 17 = .ok (.aaload, 1) := by decide +kernel
theorem dX0_kindsIn_18 : decode cX0_kindsIn 18 = .ok (.getfield 90, 3) := by decide +kernel
theorem dX0_kindsIn_21 : decode cX0_kindsIn 21 = .ok (.iconst 2, 1) := by decide +kernel
theorem dX0_kindsIn_22 : decode cX0_kindsIn 22 = .ok (.if_icmp .eq 17, 3) := by decide +kernel
theorem dX0_kindsIn_25 : decode cX0_kindsIn 25 = .ok (.iload_n 1, 1) := by decide +kernel
theorem dX0_kindsIn_26 : decode cX0_kindsIn 26 = .ok (.iconst 1, 1) := by decide +kernel
theorem dX0_kindsIn_27 : decode cX0_kindsIn 27 = .ok (.aload_n 0, 1) := by decide +kernel
theorem dX0_kindsIn_28 : decode cX0_kindsIn 28 = .ok (.getfield 86, 3) := by decide +kernel
theorem dX0_kindsIn_31 : decode cX0_kindsIn 31 = .ok (.iload_n 2, 1) := by decide +kernel
theorem dX0_kindsIn_32 : decode cX0_kindsIn 32 = .ok (.aaload, 1) := by decide +kernel
theorem dX0_kindsIn_33 : decode cX0_kindsIn 33 = .ok (.getfield 76, 3) := by decide +kernel
theorem dX0_kindsIn_36 : decode cX0_kindsIn 36 = .ok (.ishl, 1) := by decide +kernel
theorem dX0_kindsIn_37 : decode cX0_kindsIn 37 = .ok (.ior, 1) := by decide +kernel
theorem dX0_kindsIn_38 : decode cX0_kindsIn 38 = .ok (.istore_n 1, 1) := by decide +kernel
theorem dX0_kindsIn_39 : decode cX0_kindsIn 39 = .ok (.iinc 2 1, 3) := by decide +kernel
theorem dX0_kindsIn_42 : decode cX0_kindsIn 42 = .ok (.goto (-38), 3) := by decide +kernel
theorem dX0_kindsIn_45 : decode cX0_kindsIn 45 = .ok (.iload_n 1, 1) := by decide +kernel
theorem dX0_kindsIn_46 : decode cX0_kindsIn 46 = .ok (.ireturn, 1) := by decide +kernel
theorem dX1_init_0 : decode cX1_init 0 = .ok (.aload_n 0, 1) := by decide +kernel
theorem dX1_init_1 : decode cX1_init 1 = .ok (.invokespecial 3, 3) := by decide +kernel
theorem dX1_init_4 : decode cX1_init 4 = .ok (.aload_n 0, 1) := by decide +kernel
theorem dX1_init_5 : decode cX1_init 5 = .ok (.bipush 12, 2) := by decide +kernel
theorem dX1_init_7 : decode cX1_init 7 = .ok (.newarray .int, 2) := by decide +kernel
theorem dX1_init_9 : decode cX1_init 9 = .ok (.putfield 9, 3) := by decide +kernel
theorem dX1_init_12 : decode cX1_init 12 = .ok (.aload_n 0, 1) := by decide +kernel
theorem dX1_init_13 : decode cX1_init 13 = .ok (.iconst 3, 1) := by decide +kernel
theorem dX1_init_14 : decode cX1_init 14 = .ok (.newarray .int, 2) := by decide +kernel
theorem dX1_init_16 : decode cX1_init 16 = .ok (.putfield 15, 3) := by decide +kernel
theorem dX1_init_19 : decode cX1_init 19 = .ok (.aload_n 0, 1) := by decide +kernel
theorem dX1_init_20 : decode cX1_init 20 = .ok (.iconst 3, 1) := by decide +kernel
theorem dX1_init_21 : decode cX1_init 21 = .ok (.newarray .int, 2) := by decide +kernel
theorem dX1_init_23 : decode cX1_init 23 = .ok (.putfield 18, 3) := by decide +kernel
theorem dX1_init_26 : decode cX1_init 26 = .ok (.aload_n 0, 1) := by decide +kernel
theorem dX1_init_27 : decode cX1_init 27 = .ok (.aload_n 1, 1) := by decide +kernel
theorem dX1_init_28 : decode cX1_init 28 = .ok (.putfield 21, 3) := by decide +kernel
theorem dX1_init_31 : decode cX1_init 31 = .ok (.aload_n 0, 1) := by decide +kernel
theorem dX1_init_32 : decode cX1_init 32 = .ok (.aload_n 2, 1) := by decide +kernel
theorem dX1_init_33 : decode cX1_init 33 = .ok (.putfield 25, 3) := by decide +kernel
theorem dX1_init_36 : decode cX1_init 36 = .ok (.aload_n 0, 1) := by decide +kernel
theorem dX1_init_37 : decode cX1_init 37 = .ok (.aload_n 3, 1) := by decide +kernel
theorem dX1_init_38 : decode cX1_init 38 = .ok (.putfield 29, 3) := by decide +kernel
theorem dX1_init_41 : decode cX1_init 41 = .ok (.return_, 1) := by decide +kernel
theorem dX1_aimAt_0 : decode cX1_aimAt 0 = .ok (.aload_n 0, 1) := by decide +kernel
theorem dX1_aimAt_1 : decode cX1_aimAt 1 = .ok (.iload_n 1, 1) := by decide +kernel
theorem dX1_aimAt_2 : decode cX1_aimAt 2 = .ok (.putfield 33, 3) := by decide +kernel
theorem dX1_aimAt_5 : decode cX1_aimAt 5 = .ok (.aload_n 0, 1) := by decide +kernel
theorem dX1_aimAt_6 : decode cX1_aimAt 6 = .ok (.aload_n 0, 1) := by decide +kernel
theorem dX1_aimAt_7 : decode cX1_aimAt 7 = .ok (.getfield 21, 3) := by decide +kernel
theorem dX1_aimAt_10 : decode cX1_aimAt 10 = .ok (.iload_n 1, 1) := by decide +kernel
theorem dX1_aimAt_11 : decode cX1_aimAt 11 = .ok (.bipush 100, 2) := by decide +kernel
theorem dX1_aimAt_13 : decode cX1_aimAt 13 = .ok (.idiv, 1) := by decide +kernel
theorem dX1_aimAt_14 : decode cX1_aimAt 14 = .ok (.invokevirtual 37, 3) := by decide +kernel
theorem dX1_aimAt_17 : decode cX1_aimAt 17 = .ok (.putfield 43, 3) := by decide +kernel
theorem dX1_aimAt_20 : decode cX1_aimAt 20 = .ok (.aload_n 0, 1) := by decide +kernel
theorem dX1_aimAt_21 : decode cX1_aimAt 21 = .ok (.iconst 0, 1) := by decide +kernel
theorem dX1_aimAt_22 : decode cX1_aimAt 22 = .ok (.putfield 46, 3) := by decide +kernel
theorem dX1_aimAt_25 : decode cX1_aimAt 25 = .ok (.iconst 0, 1) := by decide +kernel
theorem dX1_aimAt_26 : decode cX1_aimAt 26 = .ok (.istore_n 2, 1) := by decide +kernel
theorem dX1_aimAt_27 : decode cX1_aimAt 27 = .ok (.iload_n 2, 1) := by decide +kernel
theorem dX1_aimAt_28 : decode cX1_aimAt 28 = .ok (.sipush 1000, 3) := by decide +kernel
theorem dX1_aimAt_31 : decode cX1_aimAt 31 = .ok (.if_icmp .ge 63, 3) := by decide +kernel
theorem dX1_aimAt_34 : decode cX1_aimAt 34 = .ok (.aload_n 0, 1) := by decide +kernel
theorem dX1_aimAt_35 : decode cX1_aimAt 35 = .ok (.getfield 46, 3) := by decide +kernel
theorem dX1_aimAt_38 : decode cX1_aimAt 38 = .ok (.bipush 12, 2) := by decide +kernel
theorem dX1_aimAt_40 : decode cX1_aimAt 40 = .ok (.if_icmp .ge 54, 3) := by decide +kernel
theorem dX1_aimAt_43 : decode cX1_aimAt 43 = .ok (.aload_n 0, 1) := by decide +kernel
theorem dX1_aimAt_44 : decode cX1_aimAt 44 = .ok (.getfield 21, 3) := by decide +kernel
theorem dX1_aimAt_47 : decode cX1_aimAt 47 = .ok (.iload_n 2, 1) := by decide +kernel
theorem dX1_aimAt_48 : decode cX1_aimAt 48 = .ok (.invokevirtual 49, 3) := by decide +kernel
theorem dX1_aimAt_51 : decode cX1_aimAt 51 = .ok (.ifCond .eq 37, 3) := by decide +kernel
theorem dX1_aimAt_54 : decode cX1_aimAt 54 = .ok (.aload_n 0, 1) := by decide +kernel
theorem dX1_aimAt_55 : decode cX1_aimAt 55 = .ok (.getfield 43, 3) := by decide +kernel
theorem dX1_aimAt_58 : decode cX1_aimAt 58 = .ok (.iload_n 2, 1) := by decide +kernel
theorem dX1_aimAt_59 : decode cX1_aimAt 59 = .ok (.bipush 100, 2) := by decide +kernel
theorem dX1_aimAt_61 : decode cX1_aimAt 61 = .ok (.idiv, 1) := by decide +kernel
theorem dX1_aimAt_62 : decode cX1_aimAt 62 = .ok (.ishr, 1) := by decide +kernel
theorem dX1_aimAt_63 : decode cX1_aimAt 63 = .ok (.iconst 1, 1) := by decide +kernel
theorem dX1_aimAt_64 : decode cX1_aimAt 64 = .ok (.iand, 1) := by decide +kernel
theorem dX1_aimAt_65 : decode cX1_aimAt 65 = .ok (.ifCond .eq 23, 3) := by decide +kernel
theorem dX1_aimAt_68 : decode cX1_aimAt 68 = .ok (.aload_n 0, 1) := by decide +kernel
theorem dX1_aimAt_69 : decode cX1_aimAt 69 = .ok (.getfield 9, 3) := by decide +kernel
theorem dX1_aimAt_72 : decode cX1_aimAt 72 = .ok (.aload_n 0, 1) := by decide +kernel
theorem dX1_aimAt_73 : decode cX1_aimAt 73 = .ok (.getfield 46, 3) := by decide +kernel
theorem dX1_aimAt_76 : decode cX1_aimAt 76 = .ok (.iload_n 2, 1) := by decide +kernel
theorem dX1_aimAt_77 : decode cX1_aimAt 77 = .ok (.iastore, 1) := by decide +kernel
theorem dX1_aimAt_78 : decode cX1_aimAt 78 = .ok (.aload_n 0, 1) := by decide +kernel
theorem dX1_aimAt_79 : decode cX1_aimAt 79 = .ok (.dup, 1) := by decide +kernel
theorem dX1_aimAt_80 : decode cX1_aimAt 80 = .ok (.getfield 46, 3) := by decide +kernel
theorem dX1_aimAt_83 : decode cX1_aimAt 83 = .ok (.iconst 1, 1) := by decide +kernel
theorem dX1_aimAt_84 : decode cX1_aimAt 84 = .ok (.iadd, 1) := by decide +kernel
theorem dX1_aimAt_85 : decode cX1_aimAt 85 = .ok (.putfield 46, 3) := by decide +kernel
theorem dX1_aimAt_88 : decode cX1_aimAt 88 = .ok (.iinc 2 1, 3) := by decide +kernel
theorem dX1_aimAt_91 : decode cX1_aimAt 91 = .ok (.goto (-64), 3) := by decide +kernel
theorem dX1_aimAt_94 : decode cX1_aimAt 94 = .ok (.return_, 1) := by decide +kernel
theorem dX1_seek_0 : decode cX1_seek 0 = .ok (.iload_n 1, 1) := by decide +kernel
theorem dX1_seek_1 : decode cX1_seek 1 = .ok (.aload_n 0, 1) := by decide +kernel
theorem dX1_seek_2 : decode cX1_seek 2 = .ok (.getfield 46, 3) := by decide +kernel
theorem dX1_seek_5 : decode cX1_seek 5 = .ok (.if_icmp .gt 8, 3) := by decide +kernel
theorem dX1_seek_8 : decode cX1_seek 8 = .ok (.iload_n 1, 1) := by decide +kernel
theorem dX1_seek_9 : decode cX1_seek 9 = .ok (.iconst 3, 1) := by decide +kernel
theorem dX1_seek_10 : decode cX1_seek 10 = .ok (.if_icmp .le 5, 3) := by decide +kernel
theorem dX1_seek_13 : decode cX1_seek 13 = .ok (.iconst 0, 1) := by decide +kernel
theorem dX1_seek_14 : decode cX1_seek 14 = .ok (.ireturn, 1) := by decide +kernel
theorem dX1_seek_15 : decode cX1_seek 15 = .ok (.iconst 0, 1) := by decide +kernel
theorem dX1_seek_16 : decode cX1_seek 16 = .ok (.istore_n 2, 1) := by decide +kernel
theorem dX1_seek_17 : decode cX1_seek 17 = .ok (.iload_n 2, 1) := by decide +kernel
theorem dX1_seek_18 : decode cX1_seek 18 = .ok (.iload_n 1, 1) := by decide +kernel
theorem dX1_seek_19 : decode cX1_seek 19 = .ok (.if_icmp .ge 16, 3) := by decide +kernel
theorem dX1_seek_22 : decode cX1_seek 22 = .ok (.aload_n 0, 1) := by decide +kernel
theorem dX1_seek_23 : decode cX1_seek 23 = .ok (.getfield 15, 3) := by decide +kernel
theorem dX1_seek_26 : decode cX1_seek 26 = .ok (.iload_n 2, 1) := by decide +kernel
theorem dX1_seek_27 : decode cX1_seek 27 = .ok (.iload_n 2, 1) := by decide +kernel
theorem dX1_seek_28 : decode cX1_seek 28 = .ok (.iastore, 1) := by decide +kernel
theorem dX1_seek_29 : decode cX1_seek 29 = .ok (.iinc 2 1, 3) := by decide +kernel
theorem dX1_seek_32 : decode cX1_seek 32 = .ok (.goto (-15), 3) := by decide +kernel
theorem dX1_seek_35 : decode cX1_seek 35 = .ok (.iconst 1, 1) := by decide +kernel
theorem dX1_seek_36 : decode cX1_seek 36 = .ok (.istore_n 2, 1) := by decide +kernel
theorem dX1_seek_37 : decode cX1_seek 37 = .ok (.iconst 0, 1) := by decide +kernel
theorem dX1_seek_38 : decode cX1_seek 38 = .ok (.istore_n 3, 1) := by decide +kernel
theorem dX1_seek_39 : decode cX1_seek 39 = .ok (.iload_n 3, 1) := by decide +kernel
theorem dX1_seek_40 : decode cX1_seek 40 = .ok (.sipush 220, 3) := by decide +kernel
theorem dX1_seek_43 : decode cX1_seek 43 = .ok (.if_icmp .ge 108, 3) := by decide +kernel
theorem dX1_seek_46 : decode cX1_seek 46 = .ok (.iload_n 2, 1) := by decide +kernel
theorem dX1_seek_47 : decode cX1_seek 47 = .ok (.ifCond .eq 104, 3) := by decide +kernel
theorem dX1_seek_50 : decode cX1_seek 50 = .ok (.aload_n 0, 1) := by decide +kernel
theorem dX1_seek_51 : decode cX1_seek 51 = .ok (.getfield 29, 3) := by decide +kernel
theorem dX1_seek_54 : decode cX1_seek 54 = .ok (.aload_n 0, 1) := by decide +kernel
theorem dX1_seek_55 : decode cX1_seek 55 = .ok (.getfield 21, 3) := by decide +kernel
theorem dX1_seek_58 : decode cX1_seek 58 = .ok (.getfield 53, 3) := by decide +kernel
theorem dX1_seek_61 : decode cX1_seek 61 = .ok (.invokevirtual 56, 3) := by decide +kernel
theorem dX1_seek_64 : decode cX1_seek 64 = .ok (.iconst 0, 1) := by decide +kernel
theorem dX1_seek_65 : decode cX1_seek 65 = .ok (.istore 4, 2) := by decide +kernel
theorem dX1_seek_67 : decode cX1_seek 67 = .ok (.iload 4, 2) := by decide +kernel
theorem dX1_seek_69 : decode cX1_seek 69 = .ok (.iload_n 1, 1) := by decide +kernel
theorem dX1_seek_70 : decode cX1_seek 70 = .ok (.if_icmp .ge 28, 3) := by decide +kernel
theorem dX1_seek_73 : decode cX1_seek 73 = .ok (.aload_n 0, 1) := by decide +kernel
theorem dX1_seek_74 : decode cX1_seek 74 = .ok (.getfield 29, 3) := by decide +kernel
theorem dX1_seek_77 : decode cX1_seek 77 = .ok (.aload_n 0, 1) := by decide +kernel
theorem dX1_seek_78 : decode cX1_seek 78 = .ok (.getfield 9, 3) := by decide +kernel
theorem dX1_seek_81 : decode cX1_seek 81 = .ok (.aload_n 0, 1) := by decide +kernel
theorem dX1_seek_82 : decode cX1_seek 82 = .ok (.getfield 15, 3) := by decide +kernel
theorem dX1_seek_85 : decode cX1_seek 85 = .ok (.iload 4, 2) := by decide +kernel
theorem dX1_seek_87 : decode cX1_seek 87 = .ok (.iaload, 1) := by decide +kernel
theorem dX1_seek_88 : decode cX1_seek 88 = .ok (.iaload, 1) := by decide +kernel
theorem dX1_seek_89 : decode cX1_seek 89 = .ok (.invokevirtual 62, 3) := by decide +kernel
theorem dX1_seek_92 : decode cX1_seek 92 = .ok (.iinc 4 1, 3) := by decide +kernel
theorem dX1_seek_95 : decode cX1_seek 95 = .ok (.goto (-28), 3) := by decide +kernel
theorem dX1_seek_98 : decode cX1_seek 98 = .ok (.aload_n 0, 1) := by decide +kernel
theorem dX1_seek_99 : decode cX1_seek 99 = .ok (.getfield 25, 3) := by decide +kernel
theorem dX1_seek_102 : decode cX1_seek 102 = .ok (.aload_n 0, 1) := by decide +kernel
theorem dX1_seek_103 : decode cX1_seek 103 = .ok (.getfield 29, 3) := by decide +kernel
theorem dX1_seek_106 : decode cX1_seek 106 = .ok (.iconst (-1), 1) := by decide +kernel
theorem dX1_seek_107 : decode cX1_seek 107 = .ok (.aload_n 0, 1) := by decide +kernel
theorem dX1_seek_108 : decode cX1_seek 108 = .ok (.getfield 43, 3) := by decide +kernel
theorem dX1_seek_111 : decode cX1_seek 111 = .ok (.aload_n 0, 1) := by decide +kernel
theorem dX1_seek_112 : decode cX1_seek 112 = .ok (.getfield 33, 3) := by decide +kernel
theorem dX1_seek_115 : decode cX1_seek 115 = .ok (.invokevirtual 66, 3) := by decide +kernel
theorem dX1_seek_118 : decode cX1_seek 118 = .ok (.aload_n 0, 1) := by decide +kernel
theorem dX1_seek_119 : decode cX1_seek 119 = .ok (.getfield 29, 3) := by decide +kernel
theorem dX1_seek_122 : decode cX1_seek 122 = .ok (.aload_n 0, 1) := by decide +kernel
theorem dX1_seek_123 : decode cX1_seek 123 = .ok (.getfield 33, 3) := by decide +kernel
theorem dX1_seek_126 : decode cX1_seek 126 = .ok (.invokevirtual 72, 3) := by decide +kernel
theorem dX1_seek_129 : decode cX1_seek 129 = .ok (.ifCond .ne 10, 3) := by decide +kernel
theorem dX1_seek_132 : decode cX1_seek 132 = .ok (.aload_n 0, 1) := by decide +kernel
theorem dX1_seek_133 : decode cX1_seek 133 = .ok (.iload_n 1, 1) := by decide +kernel
theorem dX1_seek_134 : decode cX1_seek 134 = .ok (.invokevirtual 75, 3) := by decide +kernel
theorem dX1_seek_137 : decode cX1_seek 137 = .ok (.iconst 1, 1) := by decide +kernel
theorem dX1_seek_138 : decode cX1_seek 138 = .ok (.ireturn, 1) := by decide +kernel
theorem dX1_seek_139 : decode cX1_seek 139 = .ok (.aload_n 0, 1) := by decide +kernel
theorem dX1_seek_140 : decode cX1_seek 140 = .ok (.iload_n 1, 1) := by decide +kernel
theorem dX1_seek_141 : decode cX1_seek 141 = .ok (.invokevirtual 78, 3) := by decide +kernel
theorem dX1_seek_144 : decode cX1_seek 144 = .ok (.istore_n 2, 1) := by decide +kernel
theorem dX1_seek_145 : decode cX1_seek 145 = .ok (.iinc 3 1, 3) := by decide +kernel
theorem dX1_seek_148 : decode cX1_seek 148 = .ok (.goto (-109), 3) := by decide +kernel
theorem dX1_seek_151 : decode cX1_seek 151 = .ok (.iconst 0, 1) := by decide +kernel
theorem dX1_seek_152 : decode cX1_seek 152 = .ok (.ireturn, 1) := by decide +kernel
theorem dX1_keepPicks_0 : decode cX1_keepPicks 0 = .ok (.iconst 0, 1) := by decide +kernel
theorem dX1_keepPicks_1 : decode cX1_keepPicks 1 = .ok (.istore_n 2, 1) := by decide +kernel
theorem dX1_keepPicks_2 : decode cX1_keepPicks 2 = .ok (.iload_n 2, 1) := by decide +kernel
theorem dX1_keepPicks_3 : decode cX1_keepPicks 3 = .ok (.iload_n 1, 1) := by decide +kernel
theorem dX1_keepPicks_4 : decode cX1_keepPicks 4 = .ok (.if_icmp .ge 26, 3) := by decide +kernel
theorem dX1_keepPicks_7 : decode cX1_keepPicks 7 = .ok (.aload_n 0, 1) := by decide +kernel
theorem dX1_keepPicks_8 : decode cX1_keepPicks 8 = .ok (.getfield 18, 3) := by decide +kernel
theorem dX1_keepPicks_11 : decode cX1_keepPicks 11 = .ok (.iload_n 2, 1) := by decide +kernel
theorem dX1_keepPicks_12 : decode cX1_keepPicks 12 = .ok (.aload_n 0, 1) := by decide +kernel
theorem dX1_keepPicks_13 : decode cX1_keepPicks 13 = .ok (.getfield 9, 3) := by decide +kernel
theorem dX1_keepPicks_16 : decode cX1_keepPicks 16 = .ok (.aload_n 0, 1) := by decide +kernel
theorem dX1_keepPicks_17 : decode cX1_keepPicks 17 = .ok (.getfield 15, 3) := by decide +kernel
theorem dX1_keepPicks_20 : decode cX1_keepPicks 20 = .ok (.iload_n 2, 1) := by decide +kernel
theorem dX1_keepPicks_21 : decode cX1_keepPicks 21 = .ok (.iaload, 1) := by decide +kernel
theorem dX1_keepPicks_22 : decode cX1_keepPicks 22 = .ok (.iaload, 1) := by decide +kernel
theorem dX1_keepPicks_23 : decode cX1_keepPicks 23 = .ok (.iastore, 1) := by decide +kernel
theorem dX1_keepPicks_24 : decode cX1_keepPicks 24 = .ok (.iinc 2 1, 3) := by decide +kernel
theorem dX1_keepPicks_27 : decode cX1_keepPicks 27 = .ok (.goto (-25), 3) := by decide +kernel
theorem dX1_keepPicks_30 : decode cX1_keepPicks 30 = .ok (.aload_n 0, 1) := by decide +kernel
theorem dX1_keepPicks_31 : decode cX1_keepPicks 31 = .ok (.iload_n 1, 1) := by decide +kernel
theorem dX1_keepPicks_32 : decode cX1_keepPicks 32 = .ok (.putfield 81, 3) := by decide +kernel
theorem dX1_keepPicks_35 : decode cX1_keepPicks 35 = .ok (.return_, 1) := by decide +kernel
theorem dX1_nextPicks_0 : decode cX1_nextPicks 0 = .ok (.iload_n 1, 1) := by decide +kernel
theorem dX1_nextPicks_1 : decode cX1_nextPicks 1 = .ok (.iconst 1, 1) := by decide +kernel
theorem dX1_nextPicks_2 : decode cX1_nextPicks 2 = .ok (.isub, 1) := by decide +kernel
theorem dX1_nextPicks_3 : decode cX1_nextPicks 3 = .ok (.istore_n 2, 1) := by decide +kernel
theorem dX1_nextPicks_4 : decode cX1_nextPicks 4 = .ok (.iload_n 2, 1) := by decide +kernel
theorem dX1_nextPicks_5 : decode cX1_nextPicks 5 = .ok (.ifCond .lt 69, 3) := by decide +kernel
theorem dX1_nextPicks_8 : decode cX1_nextPicks 8 = .ok (.aload_n 0, 1) := by decide +kernel
theorem dX1_nextPicks_9 : decode cX1_nextPicks 9 = .ok (.getfield 15, 3) := by decide +kernel
theorem dX1_nextPicks_12 : decode cX1_nextPicks 12 = .ok (.iload_n 2, 1) := by decide +kernel
theorem dX1_nextPicks_13 : decode cX1_nextPicks 13 = .ok (.iaload, 1) := by decide +kernel
theorem dX1_nextPicks_14 : decode cX1_nextPicks 14 = .ok (.aload_n 0, 1) := by decide +kernel
theorem dX1_nextPicks_15 : decode cX1_nextPicks 15 = .ok (.getfield 46, 3) := by decide +kernel
theorem dX1_nextPicks_18 : decode cX1_nextPicks 18 = .ok (.iload_n 1, 1) := by decide +kernel
theorem dX1_nextPicks_19 : decode cX1_nextPicks 19 = .ok (.isub, 1) := by decide +kernel
theorem dX1_nextPicks_20 : decode cX1_nextPicks 20 = .ok (.iload_n 2, 1) := by decide +kernel
theorem dX1_nextPicks_21 : decode cX1_nextPicks 21 = .ok (.iadd, 1) := by decide +kernel
theorem dX1_nextPicks_22 : decode cX1_nextPicks 22 = .ok (.if_icmp .ge 46, 3) := by decide +kernel
theorem dX1_nextPicks_25 : decode cX1_nextPicks 25 = .ok (.aload_n 0, 1) := by decide +kernel
theorem dX1_nextPicks_26 : decode cX1_nextPicks 26 = .ok (.getfield 15, 3) := by decide +kernel
theorem dX1_nextPicks_29 : decode cX1_nextPicks 29 = .ok (.iload_n 2, 1) := by decide +kernel
theorem dX1_nextPicks_30 : decode cX1_nextPicks 30 = .ok (.dup2, 1) := by decide +kernel
theorem dX1_nextPicks_31 : decode cX1_nextPicks 31 = .ok (.iaload, 1) := by decide +kernel
theorem dX1_nextPicks_32 : decode cX1_nextPicks 32 = .ok (.iconst 1, 1) := by decide +kernel
theorem dX1_nextPicks_33 : decode cX1_nextPicks 33 = .ok (.iadd, 1) := by decide +kernel
theorem dX1_nextPicks_34 : decode cX1_nextPicks 34 = .ok (.iastore, 1) := by decide +kernel
theorem dX1_nextPicks_35 : decode cX1_nextPicks 35 = .ok (.iload_n 2, 1) := by decide +kernel
theorem dX1_nextPicks_36 : decode cX1_nextPicks 36 = .ok (.iconst 1, 1) := by decide +kernel
theorem dX1_nextPicks_37 : decode cX1_nextPicks 37 = .ok (.iadd, 1) := by decide +kernel
theorem dX1_nextPicks_38 : decode cX1_nextPicks 38 = .ok (.istore_n 3, 1) := by decide +kernel
theorem dX1_nextPicks_39 : decode cX1_nextPicks 39 = .ok (.iload_n 3, 1) := by decide +kernel
theorem dX1_nextPicks_40 : decode cX1_nextPicks 40 = .ok (.iload_n 1, 1) := by decide +kernel
theorem dX1_nextPicks_41 : decode cX1_nextPicks 41 = .ok (.if_icmp .ge 25, 3) := by decide +kernel
theorem dX1_nextPicks_44 : decode cX1_nextPicks 44 = .ok (.aload_n 0, 1) := by decide +kernel
theorem dX1_nextPicks_45 : decode cX1_nextPicks 45 = .ok (.getfield 15, 3) := by decide +kernel
theorem dX1_nextPicks_48 : decode cX1_nextPicks 48 = .ok (.iload_n 3, 1) := by decide +kernel
theorem dX1_nextPicks_49 : decode cX1_nextPicks 49 = .ok (.aload_n 0, 1) := by decide +kernel
theorem dX1_nextPicks_50 : decode cX1_nextPicks 50 = .ok (.getfield 15, 3) := by decide +kernel
theorem dX1_nextPicks_53 : decode cX1_nextPicks 53 = .ok (.iload_n 3, 1) := by decide +kernel
theorem dX1_nextPicks_54 : decode cX1_nextPicks 54 = .ok (.iconst 1, 1) := by decide +kernel
theorem dX1_nextPicks_55 : decode cX1_nextPicks 55 = .ok (.isub, 1) := by decide +kernel
theorem dX1_nextPicks_56 : decode cX1_nextPicks 56 = .ok (.iaload, 1) := by decide +kernel
theorem dX1_nextPicks_57 : decode cX1_nextPicks 57 = .ok (.iconst 1, 1) := by decide +kernel
theorem dX1_nextPicks_58 : decode cX1_nextPicks 58 = .ok (.iadd, 1) := by decide +kernel
theorem dX1_nextPicks_59 : decode cX1_nextPicks 59 = .ok (.iastore, 1) := by decide +kernel
theorem dX1_nextPicks_60 : decode cX1_nextPicks 60 = .ok (.iinc 3 1, 3) := by decide +kernel
theorem dX1_nextPicks_63 : decode cX1_nextPicks 63 = .ok (.goto (-24), 3) := by decide +kernel
theorem dX1_nextPicks_66 : decode cX1_nextPicks 66 = .ok (.iconst 1, 1) := by decide +kernel
theorem dX1_nextPicks_67 : decode cX1_nextPicks 67 = .ok (.ireturn, 1) := by decide +kernel
theorem dX1_nextPicks_68 : decode cX1_nextPicks 68 = .ok (.iinc 2 (-1), 3) := by decide +kernel
theorem dX1_nextPicks_71 : decode cX1_nextPicks 71 = .ok (.goto (-67), 3) := by decide +kernel
theorem dX1_nextPicks_74 : decode cX1_nextPicks 74 = .ok (.iconst 0, 1) := by decide +kernel
theorem dX1_nextPicks_75 : decode cX1_nextPicks 75 = .ok (.ireturn, 1) := by decide +kernel
theorem dX2_init_0 : decode cX2_init 0 = .ok (.aload_n 0, 1) := by decide +kernel
theorem dX2_init_1 : decode cX2_init 1 = .ok (.invokespecial 3, 3) := by decide +kernel
theorem dX2_init_4 : decode cX2_init 4 = .ok (.aload_n 0, 1) := by decide +kernel
theorem dX2_init_5 : decode cX2_init 5 = .ok (.iconst 3, 1) := by decide +kernel
theorem dX2_init_6 : decode cX2_init 6 = .ok (.newarray .int, 2) := by decide +kernel
theorem dX2_init_8 : decode cX2_init 8 = .ok (.putfield 9, 3) := by decide +kernel
theorem dX2_init_11 : decode cX2_init 11 = .ok (.aload_n 0, 1) := by decide +kernel
theorem dX2_init_12 : decode cX2_init 12 = .ok (.iconst 3, 1) := by decide +kernel
theorem dX2_init_13 : decode cX2_init 13 = .ok (.newarray .int, 2) := by decide +kernel
theorem dX2_init_15 : decode cX2_init 15 = .ok (.putfield 15, 3) := by decide +kernel
theorem dX2_init_18 : decode cX2_init 18 = .ok (.aload_n 0, 1) := by decide +kernel
theorem dX2_init_19 : decode cX2_init 19 = .ok (.aload_n 1, 1) := by decide +kernel
theorem dX2_init_20 : decode cX2_init 20 = .ok (.putfield 18, 3) := by decide +kernel
theorem dX2_init_23 : decode cX2_init 23 = .ok (.return_, 1) := by decide +kernel
theorem dX2_reach_0 : decode cX2_reach 0 = .ok (.aload_n 0, 1) := by decide +kernel
theorem dX2_reach_1 : decode cX2_reach 1 = .ok (.aload_n 1, 1) := by decide +kernel
theorem dX2_reach_2 : decode cX2_reach 2 = .ok (.aload_n 2, 1) := by decide +kernel
theorem dX2_reach_3 : decode cX2_reach 3 = .ok (.iconst 1, 1) := by decide +kernel
theorem dX2_reach_4 : decode cX2_reach 4 = .ok (.invokevirtual 22, 3) := by decide +kernel
theorem dX2_reach_7 : decode cX2_reach 7 = .ok (.aload_n 0, 1) := by decide +kernel
theorem dX2_reach_8 : decode cX2_reach 8 = .ok (.iconst 0, 1) := by decide +kernel
theorem dX2_reach_9 : decode cX2_reach 9 = .ok (.iconst 0, 1) := by decide +kernel
theorem dX2_reach_10 : decode cX2_reach 10 = .ok (.invokevirtual 26, 3) := by decide +kernel
theorem dX2_reach_13 : decode cX2_reach 13 = .ok (.aload_n 0, 1) := by decide +kernel
theorem dX2_reach_14 : decode cX2_reach 14 = .ok (.getfield 30, 3) := by decide +kernel
theorem dX2_reach_17 : decode cX2_reach 17 = .ok (.ireturn, 1) := by decide +kernel
theorem dX2_reachFor_0 : decode cX2_reachFor 0 = .ok (.aload_n 0, 1) := by decide +kernel
theorem dX2_reachFor_1 : decode cX2_reachFor 1 = .ok (.aload_n 1, 1) := by decide +kernel
theorem dX2_reachFor_2 : decode cX2_reachFor 2 = .ok (.aload_n 2, 1) := by decide +kernel
theorem dX2_reachFor_3 : decode cX2_reachFor 3 = .ok (.iconst 1, 1) := by decide +kernel
theorem dX2_reachFor_4 : decode cX2_reachFor 4 = .ok (.invokevirtual 22, 3) := by decide +kernel
theorem dX2_reachFor_7 : decode cX2_reachFor 7 = .ok (.aload_n 0, 1) := by decide +kernel
theorem dX2_reachFor_8 : decode cX2_reachFor 8 = .ok (.iload_n 3, 1) := by decide +kernel
theorem dX2_reachFor_9 : decode cX2_reachFor 9 = .ok (.invokevirtual 34, 3) := by decide +kernel
theorem dX2_reachFor_12 : decode cX2_reachFor 12 = .ok (.ifCond .ne 6, 3) := by decide +kernel
theorem dX2_reachFor_15 : decode cX2_reachFor 15 = .ok (.bipush (-2), 2) := by decide +kernel
theorem dX2_reachFor_17 : decode cX2_reachFor 17 = .ok (.ireturn, 1) := by decide +kernel
theorem dX2_reachFor_18 : decode cX2_reachFor 18 = .ok (.aload_n 0, 1) := by decide +kernel
theorem dX2_reachFor_19 : decode cX2_reachFor 19 = .ok (.iconst 0, 1) := by decide +kernel
theorem dX2_reachFor_20 : decode cX2_reachFor 20 = .ok (.iconst 0, 1) := by decide +kernel
theorem dX2_reachFor_21 : decode cX2_reachFor 21 = .ok (.invokevirtual 26, 3) := by decide +kernel
theorem dX2_reachFor_24 : decode cX2_reachFor 24 = .ok (.aload_n 0, 1) := by decide +kernel
theorem dX2_reachFor_25 : decode cX2_reachFor 25 = .ok (.getfield 30, 3) := by decide +kernel
theorem dX2_reachFor_28 : decode cX2_reachFor 28 = .ok (.ireturn, 1) := by decide +kernel
theorem dX2_seekLeast_0 : decode cX2_seekLeast 0 = .ok (.aload_n 2, 1) := by decide +kernel
theorem dX2_seekLeast_1 : decode cX2_seekLeast 1 = .ok (.getfield 38, 3) := by decide +kernel
theorem dX2_seekLeast_4 : decode cX2_seekLeast 4 = .ok (.getfield 44, 3) := by decide +kernel
theorem dX2_seekLeast_7 : decode cX2_seekLeast 7 = .ok (.iload_n 3, 1) := by decide +kernel
theorem dX2_seekLeast_8 : decode cX2_seekLeast 8 = .ok (.bipush 100, 2) := by decide +kernel
theorem dX2_seekLeast_10 : decode cX2_seekLeast 10 = .ok (.idiv, 1) := by decide +kernel
theorem dX2_seekLeast_11 : decode cX2_seekLeast 11 = .ok (.if_icmp .eq 5, 3) := by decide +kernel
theorem dX2_seekLeast_14 : decode cX2_seekLeast 14 = .ok (.iconst 0, 1) := by decide +kernel
theorem dX2_seekLeast_15 : decode cX2_seekLeast 15 = .ok (.ireturn, 1) := by decide +kernel
theorem dX2_seekLeast_16 : decode cX2_seekLeast 16 = .ok (.aload_n 0, 1) := by decide +kernel
theorem dX2_seekLeast_17 : decode cX2_seekLeast 17 = .ok (.aload_n 1, 1) := by decide +kernel
theorem dX2_seekLeast_18 : decode cX2_seekLeast 18 = .ok (.aload_n 2, 1) := by decide +kernel
theorem dX2_seekLeast_19 : decode cX2_seekLeast 19 = .ok (.iconst 2, 1) := by decide +kernel
theorem dX2_seekLeast_20 : decode cX2_seekLeast 20 = .ok (.invokevirtual 22, 3) := by decide +kernel
theorem dX2_seekLeast_23 : decode cX2_seekLeast 23 = .ok (.aload_n 0, 1) := by decide +kernel
theorem dX2_seekLeast_24 : decode cX2_seekLeast 24 = .ok (.aload_n 1, 1) := by decide +kernel
theorem dX2_seekLeast_25 : decode cX2_seekLeast 25 = .ok (.getfield 49, 3) := by decide +kernel
theorem dX2_seekLeast_28 : decode cX2_seekLeast 28 = .ok (.iload_n 3, 1) := by decide +kernel
theorem dX2_seekLeast_29 : decode cX2_seekLeast 29 = .ok (.iaload, 1) := by decide +kernel
theorem dX2_seekLeast_30 : decode cX2_seekLeast 30 = .ok (.iconst 1, 1) := by decide +kernel
theorem dX2_seekLeast_31 : decode cX2_seekLeast 31 = .ok (.isub, 1) := by decide +kernel
theorem dX2_seekLeast_32 : decode cX2_seekLeast 32 = .ok (.putfield 54, 3) := by decide +kernel
theorem dX2_seekLeast_35 : decode cX2_seekLeast 35 = .ok (.aload_n 0, 1) := by decide +kernel
theorem dX2_seekLeast_36 : decode cX2_seekLeast 36 = .ok (.iload_n 3, 1) := by decide +kernel
theorem dX2_seekLeast_37 : decode cX2_seekLeast 37 = .ok (.invokevirtual 34, 3) := by decide +kernel
theorem dX2_seekLeast_40 : decode cX2_seekLeast 40 = .ok (.ifCond .eq 9, 3) := by decide +kernel
theorem dX2_seekLeast_43 : decode cX2_seekLeast 43 = .ok (.aload_n 0, 1) := by decide +kernel
theorem dX2_seekLeast_44 : decode cX2_seekLeast 44 = .ok (.iconst 0, 1) := by decide +kernel
theorem dX2_seekLeast_45 : decode cX2_seekLeast 45 = .ok (.iconst 0, 1) := by decide +kernel
theorem dX2_seekLeast_46 : decode cX2_seekLeast 46 = .ok (.invokevirtual 26, 3) := by decide +kernel
theorem dX2_seekLeast_49 : decode cX2_seekLeast 49 = .ok (.aload_n 0, 1) := by decide +kernel
theorem dX2_seekLeast_50 : decode cX2_seekLeast 50 = .ok (.getfield 57, 3) := by decide +kernel
theorem dX2_seekLeast_53 : decode cX2_seekLeast 53 = .ok (.ireturn, 1) := by decide +kernel
theorem dX2_leastNumberOf_0 : decode cX2_leastNumberOf 0 = .ok (.aload_n 1, 1) := by decide +kernel
theorem dX2_leastNumberOf_1 : decode cX2_leastNumberOf 1 = .ok (.aload_n 0, 1) := by decide +kernel
theorem dX2_leastNumberOf_2 : decode cX2_leastNumberOf 2 = .ok (.getfield 15, 3) := by decide +kernel
theorem dX2_leastNumberOf_5 : decode cX2_leastNumberOf 5 = .ok (.invokestatic 61, 3) := by decide +kernel
theorem dX2_leastNumberOf_8 : decode cX2_leastNumberOf 8 = .ok (.ireturn, 1) := by decide +kernel
theorem dX2_begin_0 : decode cX2_begin 0 = .ok (.aload_n 0, 1) := by decide +kernel
theorem dX2_begin_1 : decode cX2_begin 1 = .ok (.aload_n 1, 1) := by decide +kernel
theorem dX2_begin_2 : decode cX2_begin 2 = .ok (.putfield 65, 3) := by decide +kernel
theorem dX2_begin_5 : decode cX2_begin 5 = .ok (.aload_n 0, 1) := by decide +kernel
theorem dX2_begin_6 : decode cX2_begin 6 = .ok (.aload_n 2, 1) := by decide +kernel
theorem dX2_begin_7 : decode cX2_begin 7 = .ok (.putfield 69, 3) := by decide +kernel
theorem dX2_begin_10 : decode cX2_begin 10 = .ok (.aload_n 0, 1) := by decide +kernel
theorem dX2_begin_11 : decode cX2_begin 11 = .ok (.iload_n 3, 1) := by decide +kernel
theorem dX2_begin_12 : decode cX2_begin 12 = .ok (.putfield 73, 3) := by decide +kernel
theorem dX2_begin_15 : decode cX2_begin 15 = .ok (.aload_n 0, 1) := by decide +kernel
theorem dX2_begin_16 : decode cX2_begin 16 = .ok (.iconst 0, 1) := by decide +kernel
theorem dX2_begin_17 : decode cX2_begin 17 = .ok (.putfield 30, 3) := by decide +kernel
theorem dX2_begin_20 : decode cX2_begin 20 = .ok (.aload_n 0, 1) := by decide +kernel
theorem dX2_begin_21 : decode cX2_begin 21 = .ok (.iconst 0, 1) := by decide +kernel
theorem dX2_begin_22 : decode cX2_begin 22 = .ok (.putfield 57, 3) := by decide +kernel
theorem dX2_begin_25 : decode cX2_begin 25 = .ok (.aload_n 0, 1) := by decide +kernel
theorem dX2_begin_26 : decode cX2_begin 26 = .ok (.getfield 9, 3) := by decide +kernel
theorem dX2_begin_29 : decode cX2_begin 29 = .ok (.iconst (-1), 1) := by decide +kernel
theorem dX2_begin_30 : decode cX2_begin 30 = .ok (.invokestatic 76, 3) := by decide +kernel
theorem dX2_begin_33 : decode cX2_begin 33 = .ok (.return_, 1) := by decide +kernel
theorem dX2_bindHead_0 : decode cX2_bindHead 0 = .ok (.aload_n 0, 1) := by decide +kernel
theorem dX2_bindHead_1 : decode cX2_bindHead 1 = .ok (.aload_n 0, 1) := by decide +kernel
theorem dX2_bindHead_2 : decode cX2_bindHead 2 = .ok (.getfield 69, 3) := by decide +kernel
theorem dX2_bindHead_5 : decode cX2_bindHead 5 = .ok (.getfield 38, 3) := by decide +kernel
theorem dX2_bindHead_8 : decode cX2_bindHead 8 = .ok (.getfield 82, 3) := by decide +kernel
theorem dX2_bindHead_11 : decode cX2_bindHead 11 = .ok (.iload_n 1, 1) := by decide +kernel
theorem dX2_bindHead_12 : decode cX2_bindHead 12 = .ok (.bipush 10, 2) := by decide +kernel
theorem dX2_bindHead_14 : decode cX2_bindHead 14 = .ok (.idiv, 1) := by decide +kernel
theorem dX2_bindHead_15 : decode cX2_bindHead 15 = .ok (.bipush 10, 2) := by decide +kernel
theorem dX2_bindHead_17 : decode cX2_bindHead 17 = .ok (.irem, 1) := by decide +kernel
theorem dX2_bindHead_18 : decode cX2_bindHead 18 = .ok (.invokevirtual 85, 3) := by decide +kernel
theorem dX2_bindHead_21 : decode cX2_bindHead 21 = .ok (.ifCond .eq 28, 3) := by decide +kernel
theorem dX2_bindHead_24 : decode cX2_bindHead 24 = .ok (.aload_n 0, 1) := by decide +kernel
theorem dX2_bindHead_25 : decode cX2_bindHead 25 = .ok (.aload_n 0, 1) := by decide +kernel
theorem dX2_bindHead_26 : decode cX2_bindHead 26 = .ok (.getfield 69, 3) := by decide +kernel
theorem dX2_bindHead_29 : decode cX2_bindHead 29 = .ok (.getfield 38, 3) := by decide +kernel
theorem dX2_bindHead_32 : decode cX2_bindHead 32 = .ok (.getfield 89, 3) := by decide +kernel
theorem dX2_bindHead_35 : decode cX2_bindHead 35 = .ok (.iload_n 1, 1) := by decide +kernel
theorem dX2_bindHead_36 : decode cX2_bindHead 36 = .ok (.bipush 10, 2) := by decide +kernel
theorem dX2_bindHead_38 : decode cX2_bindHead 38 = .ok (.irem, 1) := by decide +kernel
theorem dX2_bindHead_39 : decode cX2_bindHead 39 = .ok (.invokevirtual 85, 3) := by decide +kernel
theorem dX2_bindHead_42 : decode cX2_bindHead 42 = .ok (.ifCond .eq 7, 3) := by decide +kernel
theorem dX2_bindHead_45 : decode cX2_bindHead 45 = .ok (.iconst 1, 1) := by decide +kernel
theorem dX2_bindHead_46 : decode cX2_bindHead 46 = .ok (.goto 4, 3) := by decide +kernel
theorem dX2_bindHead_49 : decode cX2_bindHead 49 = .ok (.iconst 0, 1) := by decide +kernel
theorem dX2_bindHead_50 : decode cX2_bindHead 50 = .ok (.ireturn, 1) := by decide +kernel
theorem dX2_bind_0 : decode cX2_bind 0 = .ok (.iload_n 1, 1) := by decide +kernel
theorem dX2_bind_1 : decode cX2_bind 1 = .ok (.bipush 100, 2) := by decide +kernel
theorem dX2_bind_3 : decode cX2_bind 3 = .ok (.if_icmp .ge 19, 3) := by decide +kernel
theorem dX2_bind_6 : decode cX2_bind 6 = .ok (.iload_n 1, 1) := by decide +kernel
theorem dX2_bind_7 : decode cX2_bind 7 = .ok (.iconst (-1), 1) := by decide +kernel
theorem dX2_bind_8 : decode cX2_bind 8 = .ok (.if_icmp .eq 8, 3) := by decide +kernel
theorem dX2_bind_11 : decode cX2_bind 11 = .ok (.iload_n 1, 1) := by decide +kernel
theorem dX2_bind_12 : decode cX2_bind 12 = .ok (.iload_n 2, 1) := by decide +kernel
theorem dX2_bind_13 : decode cX2_bind 13 = .ok (.if_icmp .ne 7, 3) := by decide +kernel
theorem dX2_bind_16 : decode cX2_bind 16 = .ok (.iconst 1, 1) := by decide +kernel
theorem dX2_bind_17 : decode cX2_bind 17 = .ok (.goto 4, 3) := by decide +kernel
theorem dX2_bind_20 : decode cX2_bind 20 = .ok (.iconst 0, 1) := by decide +kernel
theorem dX2_bind_21 : decode cX2_bind 21 = .ok (.ireturn, 1) := by decide +kernel
theorem dX2_bind_22 : decode cX2_bind 22 = .ok (.iload_n 1, 1) := by decide +kernel
theorem dX2_bind_23 : decode cX2_bind 23 = .ok (.bipush 100, 2) := by decide +kernel
theorem dX2_bind_25 : decode cX2_bind 25 = .ok (.isub, 1) := by decide +kernel
theorem dX2_bind_26 : decode cX2_bind 26 = .ok (.istore_n 3, 1) := by decide +kernel
theorem dX2_bind_27 : decode cX2_bind 27 = .ok (.aload_n 0, 1) := by decide +kernel
theorem dX2_bind_28 : decode cX2_bind 28 = .ok (.getfield 9, 3) := by decide +kernel
theorem dX2_bind_31 : decode cX2_bind 31 = .ok (.iload_n 3, 1) := by decide +kernel
theorem dX2_bind_32 : decode cX2_bind 32 = .ok (.iaload, 1) := by decide +kernel
theorem dX2_bind_33 : decode cX2_bind 33 = .ok (.iconst (-1), 1) := by decide +kernel
theorem dX2_bind_34 : decode cX2_bind 34 = .ok (.if_icmp .eq 19, 3) := by decide +kernel
theorem dX2_bind_37 : decode cX2_bind 37 = .ok (.aload_n 0, 1) := by decide +kernel
theorem dX2_bind_38 : decode cX2_bind 38 = .ok (.getfield 9, 3) := by decide +kernel
theorem dX2_bind_41 : decode cX2_bind 41 = .ok (.iload_n 3, 1) := by decide +kernel
theorem dX2_bind_42 : decode cX2_bind 42 = .ok (.iaload, 1) := by decide +kernel
theorem dX2_bind_43 : decode cX2_bind 43 = .ok (.iload_n 2, 1) := by decide +kernel
theorem dX2_bind_44 : decode cX2_bind 44 = .ok (.if_icmp .ne 7, 3) := by decide +kernel
theorem dX2_bind_47 : decode cX2_bind 47 = .ok (.iconst 1, 1) := by decide +kernel
theorem dX2_bind_48 : decode cX2_bind 48 = .ok (.goto 4, 3) := by decide +kernel
theorem dX2_bind_51 : decode cX2_bind 51 = .ok (.iconst 0, 1) := by decide +kernel
theorem dX2_bind_52 : decode cX2_bind 52 = .ok (.ireturn, 1) := by decide +kernel
theorem dX2_bind_53 : decode cX2_bind 53 = .ok (.aload_n 0, 1) := by decide +kernel
theorem dX2_bind_54 : decode cX2_bind 54 = .ok (.getfield 9, 3) := by decide +kernel
theorem dX2_bind_57 : decode cX2_bind 57 = .ok (.iload_n 3, 1) := by decide +kernel
theorem dX2_bind_58 : decode cX2_bind 58 = .ok (.iload_n 2, 1) := by decide +kernel
theorem dX2_bind_59 : decode cX2_bind 59 = .ok (.iastore, 1) := by decide +kernel
theorem dX2_bind_60 : decode cX2_bind 60 = .ok (.iconst 1, 1) := by decide +kernel
theorem dX2_bind_61 : decode cX2_bind 61 = .ok (.ireturn, 1) := by decide +kernel
theorem dX2_walk_0 : decode cX2_walk 0 = .ok (.aload_n 0, 1) := by decide +kernel
theorem dX2_walk_1 : decode cX2_walk 1 = .ok (.aload_n 0, 1) := by decide +kernel
theorem dX2_walk_2 : decode cX2_walk 2 = .ok (.getfield 30, 3) := by decide +kernel
theorem dX2_walk_5 : decode cX2_walk 5 = .ok (.iload_n 1, 1) := by decide +kernel
theorem dX2_walk_6 : decode cX2_walk 6 = .ok (.invokestatic 92, 3) := by decide +kernel
theorem dX2_walk_9 : decode cX2_walk 9 = .ok (.putfield 30, 3) := by decide +kernel
theorem dX2_walk_12 : decode cX2_walk 12 = .ok (.iload_n 1, 1) := by decide +kernel
theorem dX2_walk_13 : decode cX2_walk 13 = .ok (.aload_n 0, 1) := by decide +kernel
theorem dX2_walk_14 : decode cX2_walk 14 = .ok (.getfield 69, 3) := by decide +kernel
theorem dX2_walk_17 : decode cX2_walk 17 = .ok (.getfield 98, 3) := by decide +kernel
theorem dX2_walk_20 : decode cX2_walk 20 = .ok (.if_icmp .ge 8, 3) := by decide +kernel
theorem dX2_walk_23 : decode cX2_walk 23 = .ok (.iload_n 1, 1) := by decide +kernel
theorem dX2_walk_24 : decode cX2_walk 24 = .ok (.iconst 4, 1) := by decide +kernel
theorem dX2_walk_25 : decode cX2_walk 25 = .ok (.if_icmp .lt 9, 3) := by decide +kernel
theorem dX2_walk_28 : decode cX2_walk 28 = .ok (.aload_n 0, 1) := by decide +kernel
theorem dX2_walk_29 : decode cX2_walk 29 = .ok (.iload_n 2, 1) := by decide +kernel
theorem dX2_walk_30 : decode cX2_walk 30 = .ok (.invokevirtual 101, 3) := by decide +kernel
theorem dX2_walk_33 : decode cX2_walk 33 = .ok (.return_, 1) := by decide +kernel
theorem dX2_walk_34 : decode cX2_walk 34 = .ok (.aload_n 0, 1) := by decide +kernel
theorem dX2_walk_35 : decode cX2_walk 35 = .ok (.getfield 69, 3) := by decide +kernel
theorem dX2_walk_38 : decode cX2_walk 38 = .ok (.getfield 105, 3) := by decide +kernel
theorem dX2_walk_41 : decode cX2_walk 41 = .ok (.iload_n 1, 1) := by decide +kernel
theorem dX2_walk_42 : decode cX2_walk 42 = .ok (.aaload, 1) := by decide +kernel
theorem dX2_walk_43 : decode cX2_walk 43 = .ok (.astore_n 3, 1) := by decide +kernel
theorem dX2_walk_44 : decode cX2_walk 44 = .ok (.aload_n 0, 1) := by decide +kernel
theorem dX2_walk_45 : decode cX2_walk 45 = .ok (.aload_n 3, 1) := by decide +kernel
theorem dX2_walk_46 : decode cX2_walk 46 = .ok (.getfield 82, 3) := by decide +kernel
theorem dX2_walk_49 : decode cX2_walk 49 = .ok (.invokevirtual 109, 3) := by decide +kernel
theorem dX2_walk_52 : decode cX2_walk 52 = .ok (.istore 4, 2) := by decide +kernel
theorem dX2_walk_54 : decode cX2_walk 54 = .ok (.iload 4, 2) := by decide +kernel
theorem dX2_walk_56 : decode cX2_walk 56 = .ok (.iconst (-1), 1) := by decide +kernel
theorem dX2_walk_57 : decode cX2_walk 57 = .ok (.if_icmp .ne 17, 3) := by decide +kernel
theorem dX2_walk_60 : decode cX2_walk 60 = .ok (.aload_n 3, 1) := by decide +kernel
theorem dX2_walk_61 : decode cX2_walk 61 = .ok (.getfield 82, 3) := by decide +kernel
theorem dX2_walk_64 : decode cX2_walk 64 = .ok (.aload_n 0, 1) := by decide +kernel
theorem dX2_walk_65 : decode cX2_walk 65 = .ok (.getfield 9, 3) := by decide +kernel
theorem dX2_walk_68 : decode cX2_walk 68 = .ok (.invokestatic 113, 3) := by decide +kernel
theorem dX2_walk_71 : decode cX2_walk 71 = .ok (.goto 4, 3) := by decide +kernel
theorem dX2_walk_74 : decode cX2_walk 74 = .ok (.iconst 0, 1) := by decide +kernel
theorem dX2_walk_75 : decode cX2_walk 75 = .ok (.istore 5, 2) := by decide +kernel
theorem dX2_walk_77 : decode cX2_walk 77 = .ok (.iload 4, 2) := by decide +kernel
theorem dX2_walk_79 : decode cX2_walk 79 = .ok (.iconst (-1), 1) := by decide +kernel
theorem dX2_walk_80 : decode cX2_walk 80 = .ok (.if_icmp .ne 8, 3) := by decide +kernel
theorem dX2_walk_83 : decode cX2_walk 83 = .ok (.iload 5, 2) := by decide +kernel
theorem dX2_walk_85 : decode cX2_walk 85 = .ok (.goto 15, 3) := by decide +kernel
theorem dX2_walk_88 : decode cX2_walk 88 = .ok (.aload_n 0, 1) := by decide +kernel
theorem dX2_walk_89 : decode cX2_walk 89 = .ok (.getfield 18, 3) := by decide +kernel
theorem dX2_walk_92 : decode cX2_walk 92 = .ok (.getfield 117, 3) := by decide +kernel
theorem dX2_walk_95 : decode cX2_walk 95 = .ok (.getfield 123, 3) := by decide +kernel
theorem dX2_walk_98 : decode cX2_walk 98 = .ok (.iconst 1, 1) := by decide +kernel
theorem dX2_walk_99 : decode cX2_walk 99 = .ok (.isub, 1) := by decide +kernel
theorem dX2_walk_100 : decode cX2_walk 100 = .ok (.istore 6, 2) := by decide +kernel
theorem dX2_walk_102 : decode cX2_walk 102 = .ok (.iload 5, 2) := by decide +kernel
theorem dX2_walk_104 : decode cX2_walk 104 = .ok (.istore 7, 2) := by decide +kernel
theorem dX2_walk_106 : decode cX2_walk 106 = .ok (.iload 7, 2) := by decide +kernel
theorem dX2_walk_108 : decode cX2_walk 108 = .ok (.iload 6, 2) := by decide +kernel
theorem dX2_walk_110 : decode cX2_walk 110 = .ok (.if_icmp .gt 55, 3) := by decide +kernel
theorem dX2_walk_113 : decode cX2_walk 113 = .ok (.aload_n 0, 1) := by decide +kernel
theorem dX2_walk_114 : decode cX2_walk 114 = .ok (.getfield 57, 3) := by decide +kernel
theorem dX2_walk_117 : decode cX2_walk 117 = .ok (.ifCond .ne 48, 3) := by decide +kernel
theorem dX2_walk_120 : decode cX2_walk 120 = .ok (.aload_n 0, 1) := by decide +kernel
theorem dX2_walk_121 : decode cX2_walk 121 = .ok (.aload_n 3, 1) := by decide +kernel
theorem dX2_walk_122 : decode cX2_walk 122 = .ok (.iload 7, 2) := by decide +kernel
theorem dX2_walk_124 : decode cX2_walk 124 = .ok (.invokevirtual 126, 3) := by decide +kernel
theorem dX2_walk_127 : decode cX2_walk 127 = .ok (.istore 8, 2) := by decide +kernel
theorem dX2_walk_129 : decode cX2_walk 129 = .ok (.iload 8, 2) := by decide +kernel
theorem dX2_walk_131 : decode cX2_walk 131 = .ok (.ifCond .eq 28, 3) := by decide +kernel
theorem dX2_walk_134 : decode cX2_walk 134 = .ok (.iload 4, 2) := by decide +kernel
theorem dX2_walk_136 : decode cX2_walk 136 = .ok (.iconst (-1), 1) := by decide +kernel
theorem dX2_walk_137 : decode cX2_walk 137 = .ok (.if_icmp .eq 12, 3) := by decide +kernel
theorem dX2_walk_140 : decode cX2_walk 140 = .ok (.aload_n 0, 1) := by decide +kernel
theorem dX2_walk_141 : decode cX2_walk 141 = .ok (.getfield 9, 3) := by decide +kernel
theorem dX2_walk_144 : decode cX2_walk 144 = .ok (.iload 4, 2) := by decide +kernel
theorem dX2_walk_146 : decode cX2_walk 146 = .ok (.iload 7, 2) := by decide +kernel
theorem dX2_walk_148 : decode cX2_walk 148 = .ok (.iastore, 1) := by decide +kernel
theorem dX2_walk_149 : decode cX2_walk 149 = .ok (.aload_n 0, 1) := by decide +kernel
theorem dX2_walk_150 : decode cX2_walk 150 = .ok (.iload_n 1, 1) := by decide +kernel
theorem dX2_walk_151 : decode cX2_walk 151 = .ok (.iload 7, 2) := by decide +kernel
theorem dX2_walk_153 : decode cX2_walk 153 = .ok (.iload 8, 2) := by decide +kernel
theorem dX2_walk_155 : decode cX2_walk 155 = .ok (.iload_n 2, 1) := by decide +kernel
theorem dX2_walk_156 : decode cX2_walk 156 = .ok (.invokevirtual 130, 3) := by decide +kernel
theorem dX2_walk_159 : decode cX2_walk 159 = .ok (.iinc 7 1, 3) := by decide +kernel
theorem dX2_walk_162 : decode cX2_walk 162 = .ok (.goto (-56), 3) := by decide +kernel
theorem dX2_walk_165 : decode cX2_walk 165 = .ok (.iload 4, 2) := by decide +kernel
theorem dX2_walk_167 : decode cX2_walk 167 = .ok (.iconst (-1), 1) := by decide +kernel
theorem dX2_walk_168 : decode cX2_walk 168 = .ok (.if_icmp .eq 11, 3) := by decide +kernel
theorem dX2_walk_171 : decode cX2_walk 171 = .ok (.aload_n 0, 1) := by decide +kernel
theorem dX2_walk_172 : decode cX2_walk 172 = .ok (.getfield 9, 3) := by decide +kernel
theorem dX2_walk_175 : decode cX2_walk 175 = .ok (.iload 4, 2) := by decide +kernel
theorem dX2_walk_177 : decode cX2_walk 177 = .ok (.iconst (-1), 1) := by decide +kernel
theorem dX2_walk_178 : decode cX2_walk 178 = .ok (.iastore, 1) := by decide +kernel
theorem dX2_walk_179 : decode cX2_walk 179 = .ok (.return_, 1) := by decide +kernel
theorem dX2_walkSecond_0 : decode cX2_walkSecond 0 = .ok (.aload_n 0, 1) := by decide +kernel
theorem dX2_walkSecond_1 : decode cX2_walkSecond 1 = .ok (.getfield 69, 3) := by decide +kernel
theorem dX2_walkSecond_4 : decode cX2_walkSecond 4 = .ok (.getfield 105, 3) := by decide +kernel
theorem dX2_walkSecond_7 : decode cX2_walkSecond 7 = .ok (.iload_n 1, 1) := by decide +kernel
theorem dX2_walkSecond_8 : decode cX2_walkSecond 8 = .ok (.aaload, 1) := by decide +kernel
theorem dX2_walkSecond_9 : decode cX2_walkSecond 9 = .ok (.astore 5, 2) := by decide +kernel
theorem dX2_walkSecond_11 : decode cX2_walkSecond 11 = .ok (.aload_n 0, 1) := by decide +kernel
theorem dX2_walkSecond_12 : decode cX2_walkSecond 12 = .ok (.aload 5, 2) := by decide +kernel
theorem dX2_walkSecond_14 : decode cX2_walkSecond 14 = .ok (.getfield 89, 3) := by decide +kernel
theorem dX2_walkSecond_17 : decode cX2_walkSecond 17 = .ok (.invokevirtual 109, 3) := by decide +kernel
theorem dX2_walkSecond_20 : decode cX2_walkSecond 20 = .ok (.istore 6, 2) := by decide +kernel
theorem dX2_walkSecond_22 : decode cX2_walkSecond 22 = .ok (.iload 6, 2) := by decide +kernel
theorem dX2_walkSecond_24 : decode cX2_walkSecond 24 = .ok (.iconst (-1), 1) := by decide +kernel
theorem dX2_walkSecond_25 : decode cX2_walkSecond 25 = .ok (.if_icmp .ne 18, 3) := by decide +kernel
theorem dX2_walkSecond_28 : decode cX2_walkSecond 28 = .ok (.aload 5, 2) := by decide +kernel
theorem dX2_walkSecond_30 : decode cX2_walkSecond 30 = .ok (.getfield 89, 3) := by decide +kernel
theorem dX2_walkSecond_33 : decode cX2_walkSecond 33 = .ok (.aload_n 0, 1) := by decide +kernel
theorem dX2_walkSecond_34 : decode cX2_walkSecond 34 = .ok (.getfield 9, 3) := by decide +kernel
theorem dX2_walkSecond_37 : decode cX2_walkSecond 37 = .ok (.invokestatic 113, 3) := by decide +kernel
theorem dX2_walkSecond_40 : decode cX2_walkSecond 40 = .ok (.goto 4, 3) := by decide +kernel
theorem dX2_walkSecond_43 : decode cX2_walkSecond 43 = .ok (.iconst 0, 1) := by decide +kernel
theorem dX2_walkSecond_44 : decode cX2_walkSecond 44 = .ok (.istore 7, 2) := by decide +kernel
theorem dX2_walkSecond_46 : decode cX2_walkSecond 46 = .ok (.iload 6, 2) := by decide +kernel
theorem dX2_walkSecond_48 : decode cX2_walkSecond 48 = .ok (.iconst (-1), 1) := by decide +kernel
theorem dX2_walkSecond_49 : decode cX2_walkSecond 49 = .ok (.if_icmp .ne 8, 3) := by decide +kernel
theorem dX2_walkSecond_52 : decode cX2_walkSecond 52 = .ok (.iload 7, 2) := by decide +kernel
theorem dX2_walkSecond_54 : decode cX2_walkSecond 54 = .ok (.goto 15, 3) := by decide +kernel
theorem dX2_walkSecond_57 : decode cX2_walkSecond 57 = .ok (.aload_n 0, 1) := by decide +kernel
theorem dX2_walkSecond_58 : decode cX2_walkSecond 58 = .ok (.getfield 18, 3) := by decide +kernel
theorem dX2_walkSecond_61 : decode cX2_walkSecond 61 = .ok (.getfield 117, 3) := by decide +kernel
theorem dX2_walkSecond_64 : decode cX2_walkSecond 64 = .ok (.getfield 123, 3) := by decide +kernel
theorem dX2_walkSecond_67 : decode cX2_walkSecond 67 = .ok (.iconst 1, 1) := by decide +kernel
theorem dX2_walkSecond_68 : decode cX2_walkSecond 68 = .ok (.isub, 1) := by decide +kernel
theorem dX2_walkSecond_69 : decode cX2_walkSecond 69 = .ok (.istore 8, 2) := by decide +kernel
theorem dX2_walkSecond_71 : decode cX2_walkSecond 71 = .ok (.aload 5, 2) := by decide +kernel
theorem dX2_walkSecond_73 : decode cX2_walkSecond 73 = .ok (.getfield 134, 3) := by decide +kernel
theorem dX2_walkSecond_76 : decode cX2_walkSecond 76 = .ok (.ifCond .ne 7, 3) := by decide +kernel
theorem dX2_walkSecond_79 : decode cX2_walkSecond 79 = .ok (.iconst 1, 1) := by decide +kernel
theorem dX2_walkSecond_80 : decode cX2_walkSecond 80 = .ok (.goto 4, 3) := by decide +kernel
theorem dX2_walkSecond_83 : decode cX2_walkSecond 83 = .ok (.iconst 0, 1) := by decide +kernel
theorem dX2_walkSecond_84 : decode cX2_walkSecond 84 = .ok (.istore 9, 2) := by decide +kernel
theorem dX2_walkSecond_86 : decode cX2_walkSecond 86 = .ok (.aload 5, 2) := by decide +kernel
theorem dX2_walkSecond_88 : decode cX2_walkSecond 88 = .ok (.getfield 44, 3) := by decide +kernel
theorem dX2_walkSecond_91 : decode cX2_walkSecond 91 = .ok (.bipush 10, 2) := by decide +kernel
theorem dX2_walkSecond_93 : decode cX2_walkSecond 93 = .ok (.imul, 1) := by decide +kernel
theorem dX2_walkSecond_94 : decode cX2_walkSecond 94 = .ok (.iload_n 2, 1) := by decide +kernel
theorem dX2_walkSecond_95 : decode cX2_walkSecond 95 = .ok (.iadd, 1) := by decide +kernel
theorem dX2_walkSecond_96 : decode cX2_walkSecond 96 = .ok (.istore 10, 2) := by decide +kernel
theorem dX2_walkSecond_98 : decode cX2_walkSecond 98 = .ok (.iload 7, 2) := by decide +kernel
theorem dX2_walkSecond_100 : decode cX2_walkSecond 100 = .ok (.istore 11, 2) := by decide +kernel
theorem dX2_walkSecond_102 : decode cX2_walkSecond 102 = .ok (.iload 11, 2) := by decide +kernel
theorem dX2_walkSecond_104 : decode cX2_walkSecond 104 = .ok (.iload 8, 2) := by decide +kernel
theorem dX2_walkSecond_106 : decode cX2_walkSecond 106 = .ok (.if_icmp .gt 103, 3) := by decide +kernel
theorem dX2_walkSecond_109 : decode cX2_walkSecond 109 = .ok (.aload_n 0, 1) := by decide +kernel
theorem dX2_walkSecond_110 : decode cX2_walkSecond 110 = .ok (.getfield 57, 3) := by decide +kernel
theorem dX2_walkSecond_113 : decode cX2_walkSecond 113 = .ok (.ifCond .ne 96, 3) := by decide +kernel
theorem dX2_walkSecond_116 : decode cX2_walkSecond 116 = .ok (.iload 9, 2) := by decide +kernel
theorem dX2_walkSecond_118 : decode cX2_walkSecond 118 = .ok (.ifCond .eq 16, 3) := by decide +kernel
theorem dX2_walkSecond_121 : decode cX2_walkSecond 121 = .ok (.aload_n 0, 1) := by decide +kernel
theorem dX2_walkSecond_122 : decode cX2_walkSecond 122 = .ok (.getfield 65, 3) := by decide +kernel
theorem dX2_walkSecond_125 : decode cX2_walkSecond 125 = .ok (.getfield 137, 3) := by decide +kernel
theorem dX2_walkSecond_128 : decode cX2_walkSecond 128 = .ok (.iload 10, 2) := by decide +kernel
theorem dX2_walkSecond_130 : decode cX2_walkSecond 130 = .ok (.iaload, 1) := by decide +kernel
theorem dX2_walkSecond_131 : decode cX2_walkSecond 131 = .ok (.goto 4, 3) := by decide +kernel
theorem dX2_walkSecond_134 : decode cX2_walkSecond 134 = .ok (.iload_n 3, 1) := by decide +kernel
theorem dX2_walkSecond_135 : decode cX2_walkSecond 135 = .ok (.istore 12, 2) := by decide +kernel
theorem dX2_walkSecond_137 : decode cX2_walkSecond 137 = .ok (.iload 12, 2) := by decide +kernel
theorem dX2_walkSecond_139 : decode cX2_walkSecond 139 = .ok (.iload 11, 2) := by decide +kernel
theorem dX2_walkSecond_141 : decode cX2_walkSecond 141 = .ok (.ishr, 1) := by decide +kernel
theorem dX2_walkSecond_142 : decode cX2_walkSecond 142 = .ok (.iconst 1, 1) := by decide +kernel
theorem dX2_walkSecond_143 : decode cX2_walkSecond 143 = .ok (.iand, 1) := by decide +kernel
theorem dX2_walkSecond_144 : decode cX2_walkSecond 144 = .ok (.ifCond .eq 59, 3) := by decide +kernel
theorem dX2_walkSecond_147 : decode cX2_walkSecond 147 = .ok (.iload 6, 2) := by decide +kernel
theorem dX2_walkSecond_149 : decode cX2_walkSecond 149 = .ok (.iconst (-1), 1) := by decide +kernel
theorem dX2_walkSecond_150 : decode cX2_walkSecond 150 = .ok (.if_icmp .eq 12, 3) := by decide +kernel
theorem dX2_walkSecond_153 : decode cX2_walkSecond 153 = .ok (.aload_n 0, 1) := by decide +kernel
theorem dX2_walkSecond_154 : decode cX2_walkSecond 154 = .ok (.getfield 9, 3) := by decide +kernel
theorem dX2_walkSecond_157 : decode cX2_walkSecond 157 = .ok (.iload 6, 2) := by decide +kernel
theorem dX2_walkSecond_159 : decode cX2_walkSecond 159 = .ok (.iload 11, 2) := by decide +kernel
theorem dX2_walkSecond_161 : decode cX2_walkSecond 161 = .ok (.iastore, 1) := by decide +kernel
theorem dX2_walkSecond_162 : decode cX2_walkSecond 162 = .ok (.iload 9, 2) := by decide +kernel
theorem dX2_walkSecond_164 : decode cX2_walkSecond 164 = .ok (.ifCond .eq 22, 3) := by decide +kernel
theorem dX2_walkSecond_167 : decode cX2_walkSecond 167 = .ok (.aload_n 0, 1) := by decide +kernel
theorem dX2_walkSecond_168 : decode cX2_walkSecond 168 = .ok (.getfield 65, 3) := by decide +kernel
theorem dX2_walkSecond_171 : decode cX2_walkSecond 171 = .ok (.getfield 49, 3) := by decide +kernel
theorem dX2_walkSecond_174 : decode cX2_walkSecond 174 = .ok (.iload 10, 2) := by decide +kernel
theorem dX2_walkSecond_176 : decode cX2_walkSecond 176 = .ok (.bipush 10, 2) := by decide +kernel
theorem dX2_walkSecond_178 : decode cX2_walkSecond 178 = .ok (.imul, 1) := by decide +kernel
theorem dX2_walkSecond_179 : decode cX2_walkSecond 179 = .ok (.iload 11, 2) := by decide +kernel
theorem dX2_walkSecond_181 : decode cX2_walkSecond 181 = .ok (.iadd, 1) := by decide +kernel
theorem dX2_walkSecond_182 : decode cX2_walkSecond 182 = .ok (.iaload, 1) := by decide +kernel
theorem dX2_walkSecond_183 : decode cX2_walkSecond 183 = .ok (.goto 4, 3) := by decide +kernel
theorem dX2_walkSecond_186 : decode cX2_walkSecond 186 = .ok (.iconst 0, 1) := by decide +kernel
theorem dX2_walkSecond_187 : decode cX2_walkSecond 187 = .ok (.istore 13, 2) := by decide +kernel
theorem dX2_walkSecond_189 : decode cX2_walkSecond 189 = .ok (.aload_n 0, 1) := by decide +kernel
theorem dX2_walkSecond_190 : decode cX2_walkSecond 190 = .ok (.iload_n 1, 1) := by decide +kernel
theorem dX2_walkSecond_191 : decode cX2_walkSecond 191 = .ok (.iconst 1, 1) := by decide +kernel
theorem dX2_walkSecond_192 : decode cX2_walkSecond 192 = .ok (.iadd, 1) := by decide +kernel
theorem dX2_walkSecond_193 : decode cX2_walkSecond 193 = .ok (.iload 4, 2) := by decide +kernel
theorem dX2_walkSecond_195 : decode cX2_walkSecond 195 = .ok (.iload 13, 2) := by decide +kernel
theorem dX2_walkSecond_197 : decode cX2_walkSecond 197 = .ok (.invokestatic 92, 3) := by decide +kernel
theorem dX2_walkSecond_200 : decode cX2_walkSecond 200 = .ok (.invokevirtual 26, 3) := by decide +kernel
theorem dX2_walkSecond_203 : decode cX2_walkSecond 203 = .ok (.iinc 11 1, 3) := by decide +kernel
theorem dX2_walkSecond_206 : decode cX2_walkSecond 206 = .ok (.goto (-104), 3) := by decide +kernel
theorem dX2_walkSecond_209 : decode cX2_walkSecond 209 = .ok (.iload 6, 2) := by decide +kernel
theorem dX2_walkSecond_211 : decode cX2_walkSecond 211 = .ok (.iconst (-1), 1) := by decide +kernel
theorem dX2_walkSecond_212 : decode cX2_walkSecond 212 = .ok (.if_icmp .eq 11, 3) := by decide +kernel
theorem dX2_walkSecond_215 : decode cX2_walkSecond 215 = .ok (.aload_n 0, 1) := by decide +kernel
theorem dX2_walkSecond_216 : decode cX2_walkSecond 216 = .ok (.getfield 9, 3) := by decide +kernel
theorem dX2_walkSecond_219 : decode cX2_walkSecond 219 = .ok (.iload 6, 2) := by decide +kernel
theorem dX2_walkSecond_221 : decode cX2_walkSecond 221 = .ok (.iconst (-1), 1) := by decide +kernel
theorem dX2_walkSecond_222 : decode cX2_walkSecond 222 = .ok (.iastore, 1) := by decide +kernel
theorem dX2_walkSecond_223 : decode cX2_walkSecond 223 = .ok (.return_, 1) := by decide +kernel
theorem dX2_secondsFor_0 : decode cX2_secondsFor 0 = .ok (.aload_n 1, 1) := by decide +kernel
theorem dX2_secondsFor_1 : decode cX2_secondsFor 1 = .ok (.getfield 134, 3) := by decide +kernel
theorem dX2_secondsFor_4 : decode cX2_secondsFor 4 = .ok (.iconst 2, 1) := by decide +kernel
theorem dX2_secondsFor_5 : decode cX2_secondsFor 5 = .ok (.if_icmp .ne 9, 3) := by decide +kernel
theorem dX2_secondsFor_8 : decode cX2_secondsFor 8 = .ok (.iconst 1, 1) := by decide +kernel
theorem dX2_secondsFor_9 : decode cX2_secondsFor 9 = .ok (.iload_n 2, 1) := by decide +kernel
theorem dX2_secondsFor_10 : decode cX2_secondsFor 10 = .ok (.ishl, 1) := by decide +kernel
theorem dX2_secondsFor_11 : decode cX2_secondsFor 11 = .ok (.iconst (-1), 1) := by decide +kernel
theorem dX2_secondsFor_12 : decode cX2_secondsFor 12 = .ok (.ixor, 1) := by decide +kernel
theorem dX2_secondsFor_13 : decode cX2_secondsFor 13 = .ok (.ireturn, 1) := by decide +kernel
theorem dX2_secondsFor_14 : decode cX2_secondsFor 14 = .ok (.aload_n 0, 1) := by decide +kernel
theorem dX2_secondsFor_15 : decode cX2_secondsFor 15 = .ok (.getfield 65, 3) := by decide +kernel
theorem dX2_secondsFor_18 : decode cX2_secondsFor 18 = .ok (.getfield 137, 3) := by decide +kernel
theorem dX2_secondsFor_21 : decode cX2_secondsFor 21 = .ok (.aload_n 1, 1) := by decide +kernel
theorem dX2_secondsFor_22 : decode cX2_secondsFor 22 = .ok (.getfield 44, 3) := by decide +kernel
theorem dX2_secondsFor_25 : decode cX2_secondsFor 25 = .ok (.bipush 10, 2) := by decide +kernel
theorem dX2_secondsFor_27 : decode cX2_secondsFor 27 = .ok (.imul, 1) := by decide +kernel
theorem dX2_secondsFor_28 : decode cX2_secondsFor 28 = .ok (.iload_n 2, 1) := by decide +kernel
theorem dX2_secondsFor_29 : decode cX2_secondsFor 29 = .ok (.iadd, 1) := by decide +kernel
theorem dX2_secondsFor_30 : decode cX2_secondsFor 30 = .ok (.iaload, 1) := by decide +kernel
theorem dX2_secondsFor_31 : decode cX2_secondsFor 31 = .ok (.istore_n 3, 1) := by decide +kernel
theorem dX2_secondsFor_32 : decode cX2_secondsFor 32 = .ok (.aload_n 1, 1) := by decide +kernel
theorem dX2_secondsFor_33 : decode cX2_secondsFor 33 = .ok (.getfield 134, 3) := by decide +kernel
theorem dX2_secondsFor_36 : decode cX2_secondsFor 36 = .ok (.ifCond .ne 7, 3) := by decide +kernel
theorem dX2_secondsFor_39 : decode cX2_secondsFor 39 = .ok (.iload_n 3, 1) := by decide +kernel
theorem dX2_secondsFor_40 : decode cX2_secondsFor 40 = .ok (.goto 6, 3) := by decide +kernel
theorem dX2_secondsFor_43 : decode cX2_secondsFor 43 = .ok (.iload_n 3, 1) := by decide +kernel
theorem dX2_secondsFor_44 : decode cX2_secondsFor 44 = .ok (.iconst (-1), 1) := by decide +kernel
theorem dX2_secondsFor_45 : decode cX2_secondsFor 45 = .ok (.ixor, 1) := by decide +kernel
theorem dX2_secondsFor_46 : decode cX2_secondsFor 46 = .ok (.ireturn, 1) := by decide +kernel
theorem dX2_arrive_0 : decode cX2_arrive 0 = .ok (.aload_n 0, 1) := by decide +kernel
theorem dX2_arrive_1 : decode cX2_arrive 1 = .ok (.getfield 73, 3) := by decide +kernel
theorem dX2_arrive_4 : decode cX2_arrive 4 = .ok (.ifCond .ne 30, 3) := by decide +kernel
theorem dX2_arrive_7 : decode cX2_arrive 7 = .ok (.aload_n 0, 1) := by decide +kernel
theorem dX2_arrive_8 : decode cX2_arrive 8 = .ok (.getfield 65, 3) := by decide +kernel
theorem dX2_arrive_11 : decode cX2_arrive 11 = .ok (.aload_n 0, 1) := by decide +kernel
theorem dX2_arrive_12 : decode cX2_arrive 12 = .ok (.getfield 69, 3) := by decide +kernel
theorem dX2_arrive_15 : decode cX2_arrive 15 = .ok (.getfield 38, 3) := by decide +kernel
theorem dX2_arrive_18 : decode cX2_arrive 18 = .ok (.aload_n 0, 1) := by decide +kernel
theorem dX2_arrive_19 : decode cX2_arrive 19 = .ok (.getfield 9, 3) := by decide +kernel
theorem dX2_arrive_22 : decode cX2_arrive 22 = .ok (.invokestatic 61, 3) := by decide +kernel
theorem dX2_arrive_25 : decode cX2_arrive 25 = .ok (.iload_n 1, 1) := by decide +kernel
theorem dX2_arrive_26 : decode cX2_arrive 26 = .ok (.iconst 1, 1) := by decide +kernel
theorem dX2_arrive_27 : decode cX2_arrive 27 = .ok (.iadd, 1) := by decide +kernel
theorem dX2_arrive_28 : decode cX2_arrive 28 = .ok (.invokevirtual 140, 3) := by decide +kernel
theorem dX2_arrive_31 : decode cX2_arrive 31 = .ok (.goto 46, 3) := by decide +kernel
theorem dX2_arrive_34 : decode cX2_arrive 34 = .ok (.aload_n 0, 1) := by decide +kernel
theorem dX2_arrive_35 : decode cX2_arrive 35 = .ok (.getfield 73, 3) := by decide +kernel
theorem dX2_arrive_38 : decode cX2_arrive 38 = .ok (.iconst 1, 1) := by decide +kernel
theorem dX2_arrive_39 : decode cX2_arrive 39 = .ok (.if_icmp .ne 11, 3) := by decide +kernel
theorem dX2_arrive_42 : decode cX2_arrive 42 = .ok (.aload_n 0, 1) := by decide +kernel
theorem dX2_arrive_43 : decode cX2_arrive 43 = .ok (.iconst 1, 1) := by decide +kernel
theorem dX2_arrive_44 : decode cX2_arrive 44 = .ok (.putfield 57, 3) := by decide +kernel
theorem dX2_arrive_47 : decode cX2_arrive 47 = .ok (.goto 30, 3) := by decide +kernel
theorem dX2_arrive_50 : decode cX2_arrive 50 = .ok (.iload_n 1, 1) := by decide +kernel
theorem dX2_arrive_51 : decode cX2_arrive 51 = .ok (.aload_n 0, 1) := by decide +kernel
theorem dX2_arrive_52 : decode cX2_arrive 52 = .ok (.getfield 54, 3) := by decide +kernel
theorem dX2_arrive_55 : decode cX2_arrive 55 = .ok (.if_icmp .ne 22, 3) := by decide +kernel
theorem dX2_arrive_58 : decode cX2_arrive 58 = .ok (.aload_n 0, 1) := by decide +kernel
theorem dX2_arrive_59 : decode cX2_arrive 59 = .ok (.iconst 1, 1) := by decide +kernel
theorem dX2_arrive_60 : decode cX2_arrive 60 = .ok (.putfield 57, 3) := by decide +kernel
theorem dX2_arrive_63 : decode cX2_arrive 63 = .ok (.aload_n 0, 1) := by decide +kernel
theorem dX2_arrive_64 : decode cX2_arrive 64 = .ok (.getfield 9, 3) := by decide +kernel
theorem dX2_arrive_67 : decode cX2_arrive 67 = .ok (.iconst 0, 1) := by decide +kernel
theorem dX2_arrive_68 : decode cX2_arrive 68 = .ok (.aload_n 0, 1) := by decide +kernel
theorem dX2_arrive_69 : decode cX2_arrive 69 = .ok (.getfield 15, 3) := by decide +kernel
theorem dX2_arrive_72 : decode cX2_arrive 72 = .ok (.iconst 0, 1) := by decide +kernel
theorem dX2_arrive_73 : decode cX2_arrive 73 = .ok (.iconst 3, 1) := by decide +kernel
theorem dX2_arrive_74 : decode cX2_arrive 74 = .ok (.invokestatic 143, 3) := by decide +kernel
theorem dX2_arrive_77 : decode cX2_arrive 77 = .ok (.return_, 1) := by decide +kernel
theorem dX2_freeSign_0 : decode cX2_freeSign 0 = .ok (.iload_n 1, 1) := by decide +kernel
theorem dX2_freeSign_1 : decode cX2_freeSign 1 = .ok (.bipush 100, 2) := by decide +kernel
theorem dX2_freeSign_3 : decode cX2_freeSign 3 = .ok (.if_icmp .lt 20, 3) := by decide +kernel
theorem dX2_freeSign_6 : decode cX2_freeSign 6 = .ok (.aload_n 0, 1) := by decide +kernel
theorem dX2_freeSign_7 : decode cX2_freeSign 7 = .ok (.getfield 9, 3) := by decide +kernel
theorem dX2_freeSign_10 : decode cX2_freeSign 10 = .ok (.iload_n 1, 1) := by decide +kernel
theorem dX2_freeSign_11 : decode cX2_freeSign 11 = .ok (.bipush 100, 2) := by decide +kernel
theorem dX2_freeSign_13 : decode cX2_freeSign 13 = .ok (.isub, 1) := by decide +kernel
theorem dX2_freeSign_14 : decode cX2_freeSign 14 = .ok (.iaload, 1) := by decide +kernel
theorem dX2_freeSign_15 : decode cX2_freeSign 15 = .ok (.iconst (-1), 1) := by decide +kernel
theorem dX2_freeSign_16 : decode cX2_freeSign 16 = .ok (.if_icmp .ne 7, 3) := by decide +kernel
theorem dX2_freeSign_19 : decode cX2_freeSign 19 = .ok (.iconst 1, 1) := by decide +kernel
theorem dX2_freeSign_20 : decode cX2_freeSign 20 = .ok (.goto 4, 3) := by decide +kernel
theorem dX2_freeSign_23 : decode cX2_freeSign 23 = .ok (.iconst 0, 1) := by decide +kernel
theorem dX2_freeSign_24 : decode cX2_freeSign 24 = .ok (.istore_n 2, 1) := by decide +kernel
theorem dX2_freeSign_25 : decode cX2_freeSign 25 = .ok (.iload_n 2, 1) := by decide +kernel
theorem dX2_freeSign_26 : decode cX2_freeSign 26 = .ok (.ifCond .eq 10, 3) := by decide +kernel
theorem dX2_freeSign_29 : decode cX2_freeSign 29 = .ok (.iload_n 1, 1) := by decide +kernel
theorem dX2_freeSign_30 : decode cX2_freeSign 30 = .ok (.bipush 100, 2) := by decide +kernel
theorem dX2_freeSign_32 : decode cX2_freeSign 32 = .ok (.isub, 1) := by decide +kernel
theorem dX2_freeSign_33 : decode cX2_freeSign 33 = .ok (.goto 4, 3) := by decide +kernel
theorem dX2_freeSign_36 : decode cX2_freeSign 36 = .ok (.iconst (-1), 1) := by decide +kernel
theorem dX2_freeSign_37 : decode cX2_freeSign 37 = .ok (.ireturn, 1) := by decide +kernel
theorem dX2_thingOf_0 : decode cX2_thingOf 0 = .ok (.iload_n 0, 1) := by decide +kernel
theorem dX2_thingOf_1 : decode cX2_thingOf 1 = .ok (.bipush 100, 2) := by decide +kernel
theorem dX2_thingOf_3 : decode cX2_thingOf 3 = .ok (.if_icmp .ge 11, 3) := by decide +kernel
theorem dX2_thingOf_6 : decode cX2_thingOf 6 = .ok (.iload_n 0, 1) := by decide +kernel
theorem dX2_thingOf_7 : decode cX2_thingOf 7 = .ok (.iconst 0, 1) := by decide +kernel
theorem dX2_thingOf_8 : decode cX2_thingOf 8 = .ok (.invokestatic 92, 3) := by decide +kernel
theorem dX2_thingOf_11 : decode cX2_thingOf 11 = .ok (.goto 9, 3) := by decide +kernel
theorem dX2_thingOf_14 : decode cX2_thingOf 14 = .ok (.aload_n 1, 1) := by decide +kernel
theorem dX2_thingOf_15 : decode cX2_thingOf 15 = .ok (.iload_n 0, 1) := by decide +kernel
theorem dX2_thingOf_16 : decode cX2_thingOf 16 = .ok (.bipush 100, 2) := by decide +kernel
theorem dX2_thingOf_18 : decode cX2_thingOf 18 = .ok (.isub, 1) := by decide +kernel
theorem dX2_thingOf_19 : decode cX2_thingOf 19 = .ok (.iaload, 1) := by decide +kernel
theorem dX2_thingOf_20 : decode cX2_thingOf 20 = .ok (.ireturn, 1) := by decide +kernel
theorem dX2_numberOf_0 : decode cX2_numberOf 0 = .ok (.aload_n 0, 1) := by decide +kernel
theorem dX2_numberOf_1 : decode cX2_numberOf 1 = .ok (.getfield 44, 3) := by decide +kernel
theorem dX2_numberOf_4 : decode cX2_numberOf 4 = .ok (.bipush 10, 2) := by decide +kernel
theorem dX2_numberOf_6 : decode cX2_numberOf 6 = .ok (.imul, 1) := by decide +kernel
theorem dX2_numberOf_7 : decode cX2_numberOf 7 = .ok (.aload_n 0, 1) := by decide +kernel
theorem dX2_numberOf_8 : decode cX2_numberOf 8 = .ok (.getfield 82, 3) := by decide +kernel
theorem dX2_numberOf_11 : decode cX2_numberOf 11 = .ok (.aload_n 1, 1) := by decide +kernel
theorem dX2_numberOf_12 : decode cX2_numberOf 12 = .ok (.invokestatic 113, 3) := by decide +kernel
theorem dX2_numberOf_15 : decode cX2_numberOf 15 = .ok (.iadd, 1) := by decide +kernel
theorem dX2_numberOf_16 : decode cX2_numberOf 16 = .ok (.bipush 10, 2) := by decide +kernel
theorem dX2_numberOf_18 : decode cX2_numberOf 18 = .ok (.imul, 1) := by decide +kernel
theorem dX2_numberOf_19 : decode cX2_numberOf 19 = .ok (.aload_n 0, 1) := by decide +kernel
theorem dX2_numberOf_20 : decode cX2_numberOf 20 = .ok (.getfield 89, 3) := by decide +kernel
theorem dX2_numberOf_23 : decode cX2_numberOf 23 = .ok (.aload_n 1, 1) := by decide +kernel
theorem dX2_numberOf_24 : decode cX2_numberOf 24 = .ok (.invokestatic 113, 3) := by decide +kernel
theorem dX2_numberOf_27 : decode cX2_numberOf 27 = .ok (.iadd, 1) := by decide +kernel
theorem dX2_numberOf_28 : decode cX2_numberOf 28 = .ok (.ireturn, 1) := by decide +kernel
theorem dX3_init_0 : decode cX3_init 0 = .ok (.aload_n 0, 1) := by decide +kernel
theorem dX3_init_1 : decode cX3_init 1 = .ok (.invokespecial 3, 3) := by decide +kernel
theorem dX3_init_4 : decode cX3_init 4 = .ok (.aload_n 0, 1) := by decide +kernel
theorem dX3_init_5 : decode cX3_init 5 = .ok (.bipush 20, 2) := by decide +kernel
theorem dX3_init_7 : decode cX3_init 7 = .ok (.newarray .int, 2) := by decide +kernel
theorem dX3_init_9 : decode cX3_init 9 = .ok (.putfield 9, 3) := by decide +kernel
theorem dX3_init_12 : decode cX3_init 12 = .ok (.aload_n 0, 1) := by decide +kernel
theorem dX3_init_13 : decode cX3_init 13 = .ok (.aload_n 1, 1) := by decide +kernel
theorem dX3_init_14 : decode cX3_init 14 = .ok (.putfield 15, 3) := by decide +kernel
theorem dX3_init_17 : decode cX3_init 17 = .ok (.aload_n 0, 1) := by decide +kernel
theorem dX3_init_18 : decode cX3_init 18 = .ok (.aload_n 2, 1) := by decide +kernel
theorem dX3_init_19 : decode cX3_init 19 = .ok (.putfield 19, 3) := by decide +kernel
theorem dX3_init_22 : decode cX3_init 22 = .ok (.return_, 1) := by decide +kernel
theorem dX3_settle_0 : decode cX3_settle 0 = .ok (.aload_n 0, 1) := by decide +kernel
theorem dX3_settle_1 : decode cX3_settle 1 = .ok (.getfield 9, 3) := by decide +kernel
theorem dX3_settle_4 : decode cX3_settle 4 = .ok (.iconst (-1), 1) := by decide +kernel
theorem dX3_settle_5 : decode cX3_settle 5 = .ok (.invokestatic 23, 3) := by decide +kernel
theorem dX3_settle_8 : decode cX3_settle 8 = .ok (.aload_n 0, 1) := by decide +kernel
theorem dX3_settle_9 : decode cX3_settle 9 = .ok (.getfield 15, 3) := by decide +kernel
theorem dX3_settle_12 : decode cX3_settle 12 = .ok (.invokevirtual 29, 3) := by decide +kernel
theorem dX3_settle_15 : decode cX3_settle 15 = .ok (.istore 5, 2) := by decide +kernel
theorem dX3_settle_17 : decode cX3_settle 17 = .ok (.iconst 0, 1) := by decide +kernel
theorem dX3_settle_18 : decode cX3_settle 18 = .ok (.istore 6, 2) := by decide +kernel
theorem dX3_settle_20 : decode cX3_settle 20 = .ok (.iload 6, 2) := by decide +kernel
theorem dX3_settle_22 : decode cX3_settle 22 = .ok (.iload 5, 2) := by decide +kernel
theorem dX3_settle_24 : decode cX3_settle 24 = .ok (.if_icmp .ge 189, 3) := by decide +kernel
theorem dX3_settle_27 : decode cX3_settle 27 = .ok (.iconst 1, 1) := by decide +kernel
theorem dX3_settle_28 : decode cX3_settle 28 = .ok (.istore 7, 2) := by decide +kernel
theorem dX3_settle_30 : decode cX3_settle 30 = .ok (.iconst 0, 1) := by decide +kernel
theorem dX3_settle_31 : decode cX3_settle 31 = .ok (.istore 8, 2) := by decide +kernel
theorem dX3_settle_33 : decode cX3_settle 33 = .ok (.iload 8, 2) := by decide +kernel
theorem dX3_settle_35 : decode cX3_settle 35 = .ok (.sipush 1002, 3) := by decide +kernel
theorem dX3_settle_38 : decode cX3_settle 38 = .ok (.if_icmp .ge 169, 3) := by decide +kernel
theorem dX3_settle_41 : decode cX3_settle 41 = .ok (.iload 7, 2) := by decide +kernel
theorem dX3_settle_43 : decode cX3_settle 43 = .ok (.ifCond .eq 164, 3) := by decide +kernel
theorem dX3_settle_46 : decode cX3_settle 46 = .ok (.iconst 0, 1) := by decide +kernel
theorem dX3_settle_47 : decode cX3_settle 47 = .ok (.istore 7, 2) := by decide +kernel
theorem dX3_settle_49 : decode cX3_settle 49 = .ok (.iconst 0, 1) := by decide +kernel
theorem dX3_settle_50 : decode cX3_settle 50 = .ok (.istore 9, 2) := by decide +kernel
theorem dX3_settle_52 : decode cX3_settle 52 = .ok (.iload 9, 2) := by decide +kernel
theorem dX3_settle_54 : decode cX3_settle 54 = .ok (.aload_n 0, 1) := by decide +kernel
theorem dX3_settle_55 : decode cX3_settle 55 = .ok (.getfield 15, 3) := by decide +kernel
theorem dX3_settle_58 : decode cX3_settle 58 = .ok (.getfield 35, 3) := by decide +kernel
theorem dX3_settle_61 : decode cX3_settle 61 = .ok (.if_icmp .ge 140, 3) := by decide +kernel
theorem dX3_settle_64 : decode cX3_settle 64 = .ok (.iload 4, 2) := by decide +kernel
theorem dX3_settle_66 : decode cX3_settle 66 = .ok (.iconst (-1), 1) := by decide +kernel
theorem dX3_settle_67 : decode cX3_settle 67 = .ok (.if_icmp .eq 13, 3) := by decide +kernel
theorem dX3_settle_70 : decode cX3_settle 70 = .ok (.aload_n 1, 1) := by decide +kernel
theorem dX3_settle_71 : decode cX3_settle 71 = .ok (.iload 4, 2) := by decide +kernel
theorem dX3_settle_73 : decode cX3_settle 73 = .ok (.invokevirtual 39, 3) := by decide +kernel
theorem dX3_settle_76 : decode cX3_settle 76 = .ok (.ifCond .eq 4, 3) := by decide +kernel
theorem dX3_settle_79 : decode cX3_settle 79 = .ok (.return_, 1) := by decide +kernel
theorem dX3_settle_80 : decode cX3_settle 80 = .ok (.aload_n 0, 1) := by decide +kernel
theorem dX3_settle_81 : decode cX3_settle 81 = .ok (.getfield 15, 3) := by decide +kernel
theorem dX3_settle_84 : decode cX3_settle 84 = .ok (.getfield 45, 3) := by decide +kernel
theorem dX3_settle_87 : decode cX3_settle 87 = .ok (.iload 9, 2) := by decide +kernel
theorem dX3_settle_89 : decode cX3_settle 89 = .ok (.aaload, 1) := by decide +kernel
theorem dX3_settle_90 : decode cX3_settle 90 = .ok (.getfield 49, 3) := by decide +kernel
theorem dX3_settle_93 : decode cX3_settle 93 = .ok (.getfield 55, 3) := by decide +kernel
theorem dX3_settle_96 : decode cX3_settle 96 = .ok (.istore 10, 2) := by decide +kernel
theorem dX3_settle_98 : decode cX3_settle 98 = .ok (.iload 9, 2) := by decide +kernel
theorem dX3_settle_100 : decode cX3_settle 100 = .ok (.iload_n 2, 1) := by decide +kernel
theorem dX3_settle_101 : decode cX3_settle 101 = .ok (.if_icmp .eq 16, 3) := by decide +kernel
theorem dX3_settle_104 : decode cX3_settle 104 = .ok (.iload_n 3, 1) := by decide +kernel
theorem dX3_settle_105 : decode cX3_settle 105 = .ok (.iload 10, 2) := by decide +kernel
theorem dX3_settle_107 : decode cX3_settle 107 = .ok (.ishr, 1) := by decide +kernel
theorem dX3_settle_108 : decode cX3_settle 108 = .ok (.iconst 1, 1) := by decide +kernel
theorem dX3_settle_109 : decode cX3_settle 109 = .ok (.iand, 1) := by decide +kernel
theorem dX3_settle_110 : decode cX3_settle 110 = .ok (.ifCond .eq 7, 3) := by decide +kernel
theorem dX3_settle_113 : decode cX3_settle 113 = .ok (.iconst 1, 1) := by decide +kernel
theorem dX3_settle_114 : decode cX3_settle 114 = .ok (.goto 4, 3) := by decide +kernel
theorem dX3_settle_117 : decode cX3_settle 117 = .ok (.iconst 0, 1) := by decide +kernel
theorem dX3_settle_118 : decode cX3_settle 118 = .ok (.istore 11, 2) := by decide +kernel
theorem dX3_settle_120 : decode cX3_settle 120 = .ok (.iload 11, 2) := by decide +kernel
theorem dX3_settle_122 : decode cX3_settle 122 = .ok (.ifCond .eq 73, 3) := by decide +kernel
theorem dX3_settle_125 : decode cX3_settle 125 = .ok (.aload_n 0, 1) := by decide +kernel
theorem dX3_settle_126 : decode cX3_settle 126 = .ok (.getfield 15, 3) := by decide +kernel
theorem dX3_settle_129 : decode cX3_settle 129 = .ok (.getfield 60, 3) := by decide +kernel
theorem dX3_settle_132 : decode cX3_settle 132 = .ok (.getfield 64, 3) := by decide +kernel
theorem dX3_settle_135 : decode cX3_settle 135 = .ok (.iload 10, 2) := by decide +kernel
theorem dX3_settle_137 : decode cX3_settle 137 = .ok (.iaload, 1) := by decide +kernel
theorem dX3_settle_138 : decode cX3_settle 138 = .ok (.iload 6, 2) := by decide +kernel
theorem dX3_settle_140 : decode cX3_settle 140 = .ok (.if_icmp .ne 55, 3) := by decide +kernel
theorem dX3_settle_143 : decode cX3_settle 143 = .ok (.aload_n 0, 1) := by decide +kernel
theorem dX3_settle_144 : decode cX3_settle 144 = .ok (.iload 9, 2) := by decide +kernel
theorem dX3_settle_146 : decode cX3_settle 146 = .ok (.aload_n 1, 1) := by decide +kernel
theorem dX3_settle_147 : decode cX3_settle 147 = .ok (.invokevirtual 69, 3) := by decide +kernel
theorem dX3_settle_150 : decode cX3_settle 150 = .ok (.ifCond .eq 45, 3) := by decide +kernel
theorem dX3_settle_153 : decode cX3_settle 153 = .ok (.aload_n 0, 1) := by decide +kernel
theorem dX3_settle_154 : decode cX3_settle 154 = .ok (.getfield 9, 3) := by decide +kernel
theorem dX3_settle_157 : decode cX3_settle 157 = .ok (.iload 9, 2) := by decide +kernel
theorem dX3_settle_159 : decode cX3_settle 159 = .ok (.aload_n 1, 1) := by decide +kernel
theorem dX3_settle_160 : decode cX3_settle 160 = .ok (.getfield 73, 3) := by decide +kernel
theorem dX3_settle_163 : decode cX3_settle 163 = .ok (.iastore, 1) := by decide +kernel
theorem dX3_settle_164 : decode cX3_settle 164 = .ok (.aload_n 0, 1) := by decide +kernel
theorem dX3_settle_165 : decode cX3_settle 165 = .ok (.getfield 19, 3) := by decide +kernel
theorem dX3_settle_168 : decode cX3_settle 168 = .ok (.aload_n 1, 1) := by decide +kernel
theorem dX3_settle_169 : decode cX3_settle 169 = .ok (.aload_n 0, 1) := by decide +kernel
theorem dX3_settle_170 : decode cX3_settle 170 = .ok (.getfield 15, 3) := by decide +kernel
theorem dX3_settle_173 : decode cX3_settle 173 = .ok (.getfield 45, 3) := by decide +kernel
theorem dX3_settle_176 : decode cX3_settle 176 = .ok (.iload 9, 2) := by decide +kernel
theorem dX3_settle_178 : decode cX3_settle 178 = .ok (.aaload, 1) := by decide +kernel
theorem dX3_settle_179 : decode cX3_settle 179 = .ok (.iconst 0, 1) := by decide +kernel
theorem dX3_settle_180 : decode cX3_settle 180 = .ok (.invokevirtual 78, 3) := by decide +kernel
theorem dX3_settle_183 : decode cX3_settle 183 = .ok (.aload_n 0, 1) := by decide +kernel
theorem dX3_settle_184 : decode cX3_settle 184 = .ok (.getfield 19, 3) := by decide +kernel
theorem dX3_settle_187 : decode cX3_settle 187 = .ok (.iconst 0, 1) := by decide +kernel
theorem dX3_settle_188 : decode cX3_settle 188 = .ok (.iconst 0, 1) := by decide +kernel
theorem dX3_settle_189 : decode cX3_settle 189 = .ok (.invokevirtual 82, 3) := by decide +kernel
theorem dX3_settle_192 : decode cX3_settle 192 = .ok (.iconst 1, 1) := by decide +kernel
theorem dX3_settle_193 : decode cX3_settle 193 = .ok (.istore 7, 2) := by decide +kernel
theorem dX3_settle_195 : decode cX3_settle 195 = .ok (.iinc 9 1, 3) := by decide +kernel
theorem dX3_settle_198 : decode cX3_settle 198 = .ok (.goto (-146), 3) := by decide +kernel
theorem dX3_settle_201 : decode cX3_settle 201 = .ok (.iinc 8 1, 3) := by decide +kernel
theorem dX3_settle_204 : decode cX3_settle 204 = .ok (.goto (-171), 3) := by decide +kernel
theorem dX3_settle_207 : decode cX3_settle 207 = .ok (.iinc 6 1, 3) := by decide +kernel
theorem dX3_settle_210 : decode cX3_settle 210 = .ok (.goto (-190), 3) := by decide +kernel
theorem dX3_settle_213 : decode cX3_settle 213 = .ok (.return_, 1) := by decide +kernel
theorem dX3_isDue_0 : decode cX3_isDue 0 = .ok (.aload_n 0, 1) := by decide +kernel
theorem dX3_isDue_1 : decode cX3_isDue 1 = .ok (.getfield 9, 3) := by decide +kernel
theorem dX3_isDue_4 : decode cX3_isDue 4 = .ok (.iload_n 1, 1) := by decide +kernel
theorem dX3_isDue_5 : decode cX3_isDue 5 = .ok (.iaload, 1) := by decide +kernel
theorem dX3_isDue_6 : decode cX3_isDue 6 = .ok (.iconst (-1), 1) := by decide +kernel
theorem dX3_isDue_7 : decode cX3_isDue 7 = .ok (.if_icmp .ne 5, 3) := by decide +kernel
theorem dX3_isDue_10 : decode cX3_isDue 10 = .ok (.iconst 1, 1) := by decide +kernel
theorem dX3_isDue_11 : decode cX3_isDue 11 = .ok (.ireturn, 1) := by decide +kernel
theorem dX3_isDue_12 : decode cX3_isDue 12 = .ok (.aload_n 0, 1) := by decide +kernel
theorem dX3_isDue_13 : decode cX3_isDue 13 = .ok (.getfield 15, 3) := by decide +kernel
theorem dX3_isDue_16 : decode cX3_isDue 16 = .ok (.getfield 45, 3) := by decide +kernel
theorem dX3_isDue_19 : decode cX3_isDue 19 = .ok (.iload_n 1, 1) := by decide +kernel
theorem dX3_isDue_20 : decode cX3_isDue 20 = .ok (.aaload, 1) := by decide +kernel
theorem dX3_isDue_21 : decode cX3_isDue 21 = .ok (.astore_n 3, 1) := by decide +kernel
theorem dX3_isDue_22 : decode cX3_isDue 22 = .ok (.iconst 0, 1) := by decide +kernel
theorem dX3_isDue_23 : decode cX3_isDue 23 = .ok (.istore 4, 2) := by decide +kernel
theorem dX3_isDue_25 : decode cX3_isDue 25 = .ok (.iload 4, 2) := by decide +kernel
theorem dX3_isDue_27 : decode cX3_isDue 27 = .ok (.aload_n 3, 1) := by decide +kernel
theorem dX3_isDue_28 : decode cX3_isDue 28 = .ok (.getfield 86, 3) := by decide +kernel
theorem dX3_isDue_31 : decode cX3_isDue 31 = .ok (.if_icmp .ge 47, 3) := by decide +kernel
theorem dX3_isDue_34 : decode cX3_isDue 34 = .ok (.aload_n 3, 1) := by decide +kernel
theorem dX3_isDue_35 : decode cX3_isDue 35 = .ok (.getfield 89, 3) := by decide +kernel
theorem dX3_isDue_38 : decode cX3_isDue 38 = .ok (.iload 4, 2) := by decide +kernel
theorem dX3_isDue_40 : decode cX3_isDue 40 = .ok (.aaload, 1) := by decide +kernel
theorem dX3_isDue_41 : decode cX3_isDue 41 = .ok (.astore 5, 2) := by decide +kernel
theorem dX3_isDue_43 : decode cX3_isDue 43 = .ok (.aload 5, 2) := by decide +kernel
theorem dX3_isDue_45 : decode cX3_isDue 45 = .ok (.getfield 93, 3) := by decide +kernel
theorem dX3_isDue_48 : decode cX3_isDue 48 = .ok (.ifCond .ne 24, 3) := by decide +kernel
theorem dX3_isDue_51 : decode cX3_isDue 51 = .ok (.aload_n 2, 1) := by decide +kernel
theorem dX3_isDue_52 : decode cX3_isDue 52 = .ok (.getfield 96, 3) := by decide +kernel
theorem dX3_isDue_55 : decode cX3_isDue 55 = .ok (.aload 5, 2) := by decide +kernel
theorem dX3_isDue_57 : decode cX3_isDue 57 = .ok (.getfield 55, 3) := by decide +kernel
theorem dX3_isDue_60 : decode cX3_isDue 60 = .ok (.iaload, 1) := by decide +kernel
theorem dX3_isDue_61 : decode cX3_isDue 61 = .ok (.aload_n 0, 1) := by decide +kernel
theorem dX3_isDue_62 : decode cX3_isDue 62 = .ok (.getfield 9, 3) := by decide +kernel
theorem dX3_isDue_65 : decode cX3_isDue 65 = .ok (.iload_n 1, 1) := by decide +kernel
theorem dX3_isDue_66 : decode cX3_isDue 66 = .ok (.iaload, 1) := by decide +kernel
theorem dX3_isDue_67 : decode cX3_isDue 67 = .ok (.if_icmp .le 5, 3) := by decide +kernel
theorem dX3_isDue_70 : decode cX3_isDue 70 = .ok (.iconst 1, 1) := by decide +kernel
theorem dX3_isDue_71 : decode cX3_isDue 71 = .ok (.ireturn, 1) := by decide +kernel
theorem dX3_isDue_72 : decode cX3_isDue 72 = .ok (.iinc 4 1, 3) := by decide +kernel
theorem dX3_isDue_75 : decode cX3_isDue 75 = .ok (.goto (-50), 3) := by decide +kernel
theorem dX3_isDue_78 : decode cX3_isDue 78 = .ok (.iconst 0, 1) := by decide +kernel
theorem dX3_isDue_79 : decode cX3_isDue 79 = .ok (.ireturn, 1) := by decide +kernel
theorem dX4_init_0 : decode cX4_init 0 = .ok (.aload_n 0, 1) := by decide +kernel
theorem dX4_init_1 : decode cX4_init 1 = .ok (.invokespecial 3, 3) := by decide +kernel
theorem dX4_init_4 : decode cX4_init 4 = .ok (.aload_n 0, 1) := by decide +kernel
theorem dX4_init_5 : decode cX4_init 5 = .ok (.bipush 10, 2) := by decide +kernel
theorem dX4_init_7 : decode cX4_init 7 = .ok (.newarray .int, 2) := by decide +kernel
theorem dX4_init_9 : decode cX4_init 9 = .ok (.putfield 9, 3) := by decide +kernel
theorem dX4_init_12 : decode cX4_init 12 = .ok (.return_, 1) := by decide +kernel
theorem dX4_settle_0 : decode cX4_settle 0 = .ok (.aload_n 0, 1) := by decide +kernel
theorem dX4_settle_1 : decode cX4_settle 1 = .ok (.getfield 9, 3) := by decide +kernel
theorem dX4_settle_4 : decode cX4_settle 4 = .ok (.iconst 0, 1) := by decide +kernel
theorem dX4_settle_5 : decode cX4_settle 5 = .ok (.invokestatic 15, 3) := by decide +kernel
theorem dX4_settle_8 : decode cX4_settle 8 = .ok (.iconst 0, 1) := by decide +kernel
theorem dX4_settle_9 : decode cX4_settle 9 = .ok (.istore_n 3, 1) := by decide +kernel
theorem dX4_settle_10 : decode cX4_settle 10 = .ok (.iload_n 3, 1) := by decide +kernel
theorem dX4_settle_11 : decode cX4_settle 11 = .ok (.bipush 110, 2) := by decide +kernel
theorem dX4_settle_13 : decode cX4_settle 13 = .ok (.if_icmp .gt 100, 3) := by decide +kernel
theorem dX4_settle_16 : decode cX4_settle 16 = .ok (.iconst 0, 1) := by decide +kernel
theorem dX4_settle_17 : decode cX4_settle 17 = .ok (.istore 4, 2) := by decide +kernel
theorem dX4_settle_19 : decode cX4_settle 19 = .ok (.iconst 0, 1) := by decide +kernel
theorem dX4_settle_20 : decode cX4_settle 20 = .ok (.istore 5, 2) := by decide +kernel
theorem dX4_settle_22 : decode cX4_settle 22 = .ok (.iload 5, 2) := by decide +kernel
theorem dX4_settle_24 : decode cX4_settle 24 = .ok (.iload_n 2, 1) := by decide +kernel
theorem dX4_settle_25 : decode cX4_settle 25 = .ok (.if_icmp .ge 75, 3) := by decide +kernel
theorem dX4_settle_28 : decode cX4_settle 28 = .ok (.iload 5, 2) := by decide +kernel
theorem dX4_settle_30 : decode cX4_settle 30 = .ok (.aload_n 1, 1) := by decide +kernel
theorem dX4_settle_31 : decode cX4_settle 31 = .ok (.arraylength, 1) := by decide +kernel
theorem dX4_settle_32 : decode cX4_settle 32 = .ok (.if_icmp .ge 68, 3) := by decide +kernel
theorem dX4_settle_35 : decode cX4_settle 35 = .ok (.aload_n 0, 1) := by decide +kernel
theorem dX4_settle_36 : decode cX4_settle 36 = .ok (.aload_n 1, 1) := by decide +kernel
theorem dX4_settle_37 : decode cX4_settle 37 = .ok (.iload 5, 2) := by decide +kernel
theorem dX4_settle_39 : decode cX4_settle 39 = .ok (.aaload, 1) := by decide +kernel
theorem dX4_settle_40 : decode cX4_settle 40 = .ok (.invokevirtual 21, 3) := by decide +kernel
theorem dX4_settle_43 : decode cX4_settle 43 = .ok (.istore 6, 2) := by decide +kernel
theorem dX4_settle_45 : decode cX4_settle 45 = .ok (.iload 6, 2) := by decide +kernel
theorem dX4_settle_47 : decode cX4_settle 47 = .ok (.bipush 10, 2) := by decide +kernel
theorem dX4_settle_49 : decode cX4_settle 49 = .ok (.if_icmp .lt 5, 3) := by decide +kernel
theorem dX4_settle_52 : decode cX4_settle 52 = .ok (.iconst 0, 1) := by decide +kernel
theorem dX4_settle_53 : decode cX4_settle 53 = .ok (.ireturn, 1) := by decide +kernel
theorem dX4_settle_54 : decode cX4_settle 54 = .ok (.iload 6, 2) := by decide +kernel
theorem dX4_settle_56 : decode cX4_settle 56 = .ok (.aload_n 0, 1) := by decide +kernel
theorem dX4_settle_57 : decode cX4_settle 57 = .ok (.getfield 9, 3) := by decide +kernel
theorem dX4_settle_60 : decode cX4_settle 60 = .ok (.aload_n 1, 1) := by decide +kernel
theorem dX4_settle_61 : decode cX4_settle 61 = .ok (.iload 5, 2) := by decide +kernel
theorem dX4_settle_63 : decode cX4_settle 63 = .ok (.aaload, 1) := by decide +kernel
theorem dX4_settle_64 : decode cX4_settle 64 = .ok (.getfield 25, 3) := by decide +kernel
theorem dX4_settle_67 : decode cX4_settle 67 = .ok (.getfield 31, 3) := by decide +kernel
theorem dX4_settle_70 : decode cX4_settle 70 = .ok (.iaload, 1) := by decide +kernel
theorem dX4_settle_71 : decode cX4_settle 71 = .ok (.if_icmp .le 23, 3) := by decide +kernel
theorem dX4_settle_74 : decode cX4_settle 74 = .ok (.aload_n 0, 1) := by decide +kernel
theorem dX4_settle_75 : decode cX4_settle 75 = .ok (.getfield 9, 3) := by decide +kernel
theorem dX4_settle_78 : decode cX4_settle 78 = .ok (.aload_n 1, 1) := by decide +kernel
theorem dX4_settle_79 : decode cX4_settle 79 = .ok (.iload 5, 2) := by decide +kernel
theorem dX4_settle_81 : decode cX4_settle 81 = .ok (.aaload, 1) := by decide +kernel
theorem dX4_settle_82 : decode cX4_settle 82 = .ok (.getfield 25, 3) := by decide +kernel
theorem dX4_settle_85 : decode cX4_settle 85 = .ok (.getfield 31, 3) := by decide +kernel
theorem dX4_settle_88 : decode cX4_settle 88 = .ok (.iload 6, 2) := by decide +kernel
theorem dX4_settle_90 : decode cX4_settle 90 = .ok (.iastore, 1) := by decide +kernel
theorem dX4_settle_91 : decode cX4_settle 91 = .ok (.iconst 1, 1) := by decide +kernel
theorem dX4_settle_92 : decode cX4_settle 92 = .ok (.istore 4, 2) := by decide +kernel
theorem dX4_settle_94 : decode cX4_settle 94 = .ok (.iinc 5 1, 3) := by decide +kernel
theorem dX4_settle_97 : decode cX4_settle 97 = .ok (.goto (-75), 3) := by decide +kernel
theorem dX4_settle_100 : decode cX4_settle 100 = .ok (.iload 4, 2) := by decide +kernel
theorem dX4_settle_102 : decode cX4_settle 102 = .ok (.ifCond .ne 5, 3) := by decide +kernel
theorem dX4_settle_105 : decode cX4_settle 105 = .ok (.iconst 1, 1) := by decide +kernel
theorem dX4_settle_106 : decode cX4_settle 106 = .ok (.ireturn, 1) := by decide +kernel
theorem dX4_settle_107 : decode cX4_settle 107 = .ok (.iinc 3 1, 3) := by decide +kernel
theorem dX4_settle_110 : decode cX4_settle 110 = .ok (.goto (-100), 3) := by decide +kernel
theorem dX4_settle_113 : decode cX4_settle 113 = .ok (.iconst 0, 1) := by decide +kernel
theorem dX4_settle_114 : decode cX4_settle 114 = .ok (.ireturn, 1) := by decide +kernel
theorem dX4_leastFor_0 : decode cX4_leastFor 0 = .ok (.iconst 0, 1) := by decide +kernel
theorem dX4_leastFor_1 : decode cX4_leastFor 1 = .ok (.istore_n 2, 1) := by decide +kernel
theorem dX4_leastFor_2 : decode cX4_leastFor 2 = .ok (.iconst 0, 1) := by decide +kernel
theorem dX4_leastFor_3 : decode cX4_leastFor 3 = .ok (.istore_n 3, 1) := by decide +kernel
theorem dX4_leastFor_4 : decode cX4_leastFor 4 = .ok (.iload_n 3, 1) := by decide +kernel
theorem dX4_leastFor_5 : decode cX4_leastFor 5 = .ok (.aload_n 1, 1) := by decide +kernel
theorem dX4_leastFor_6 : decode cX4_leastFor 6 = .ok (.getfield 37, 3) := by decide +kernel
theorem dX4_leastFor_9 : decode cX4_leastFor 9 = .ok (.if_icmp .ge 60, 3) := by decide +kernel
theorem dX4_leastFor_12 : decode cX4_leastFor 12 = .ok (.aload_n 1, 1) := by decide +kernel
theorem dX4_leastFor_13 : decode cX4_leastFor 13 = .ok (.getfield 40, 3) := by decide +kernel
theorem dX4_leastFor_16 : decode cX4_leastFor 16 = .ok (.iload_n 3, 1) := by decide +kernel
theorem dX4_leastFor_17 : decode cX4_leastFor 17 = .ok (.aaload, 1) := by decide +kernel
theorem dX4_leastFor_18 : decode cX4_leastFor 18 = .ok (.astore 4, 2) := by decide +kernel
theorem dX4_leastFor_20 : decode cX4_leastFor 20 = .ok (.aload 4, 2) := by decide +kernel
theorem dX4_leastFor_22 : decode cX4_leastFor 22 = .ok (.getfield 44, 3) := by decide +kernel
theorem dX4_leastFor_25 : decode cX4_leastFor 25 = .ok (.iconst 2, 1) := by decide +kernel
theorem dX4_leastFor_26 : decode cX4_leastFor 26 = .ok (.if_icmp .eq 37, 3) := by decide +kernel
theorem dX4_leastFor_29 : decode cX4_leastFor 29 = .ok (.aload 4, 2) := by decide +kernel
theorem dX4_leastFor_31 : decode cX4_leastFor 31 = .ok (.getfield 44, 3) := by decide +kernel
theorem dX4_leastFor_34 : decode cX4_leastFor 34 = .ok (.iconst 1, 1) := by decide +kernel
theorem dX4_leastFor_35 : decode cX4_leastFor 35 = .ok (.if_icmp .ne 7, 3) := by decide +kernel
theorem dX4_leastFor_38 : decode cX4_leastFor 38 = .ok (.iconst 1, 1) := by decide +kernel
theorem dX4_leastFor_39 : decode cX4_leastFor 39 = .ok (.goto 4, 3) := by decide +kernel
theorem dX4_leastFor_42 : decode cX4_leastFor 42 = .ok (.iconst 0, 1) := by decide +kernel
theorem dX4_leastFor_43 : decode cX4_leastFor 43 = .ok (.istore 5, 2) := by decide +kernel
theorem dX4_leastFor_45 : decode cX4_leastFor 45 = .ok (.iload_n 2, 1) := by decide +kernel
theorem dX4_leastFor_46 : decode cX4_leastFor 46 = .ok (.aload_n 0, 1) := by decide +kernel
theorem dX4_leastFor_47 : decode cX4_leastFor 47 = .ok (.getfield 9, 3) := by decide +kernel
theorem dX4_leastFor_50 : decode cX4_leastFor 50 = .ok (.aload 4, 2) := by decide +kernel
theorem dX4_leastFor_52 : decode cX4_leastFor 52 = .ok (.getfield 31, 3) := by decide +kernel
theorem dX4_leastFor_55 : decode cX4_leastFor 55 = .ok (.iaload, 1) := by decide +kernel
theorem dX4_leastFor_56 : decode cX4_leastFor 56 = .ok (.iload 5, 2) := by decide +kernel
theorem dX4_leastFor_58 : decode cX4_leastFor 58 = .ok (.iadd, 1) := by decide +kernel
theorem dX4_leastFor_59 : decode cX4_leastFor 59 = .ok (.invokestatic 47, 3) := by decide +kernel
theorem dX4_leastFor_62 : decode cX4_leastFor 62 = .ok (.istore_n 2, 1) := by decide +kernel
theorem dX4_leastFor_63 : decode cX4_leastFor 63 = .ok (.iinc 3 1, 3) := by decide +kernel
theorem dX4_leastFor_66 : decode cX4_leastFor 66 = .ok (.goto (-62), 3) := by decide +kernel
theorem dX4_leastFor_69 : decode cX4_leastFor 69 = .ok (.iload_n 2, 1) := by decide +kernel
theorem dX4_leastFor_70 : decode cX4_leastFor 70 = .ok (.ireturn, 1) := by decide +kernel
theorem dX5_init_0 : decode cX5_init 0 = .ok (.aload_n 0, 1) := by decide +kernel
theorem dX5_init_1 : decode cX5_init 1 = .ok (.invokespecial 5, 3) := by decide +kernel
theorem dX5_init_4 : decode cX5_init 4 = .ok (.aload_n 0, 1) := by decide +kernel
theorem dX5_init_5 : decode cX5_init 5 = .ok (.bipush 100, 2) := by decide +kernel
theorem dX5_init_7 : decode cX5_init 7 = .ok (.newarray .int, 2) := by decide +kernel
theorem dX5_init_9 : decode cX5_init 9 = .ok (.putfield 11, 3) := by decide +kernel
theorem dX5_init_12 : decode cX5_init 12 = .ok (.aload_n 0, 1) := by decide +kernel
theorem dX5_init_13 : decode cX5_init 13 = .ok (.sipush 1000, 3) := by decide +kernel
theorem dX5_init_16 : decode cX5_init 16 = .ok (.newarray .int, 2) := by decide +kernel
theorem dX5_init_18 : decode cX5_init 18 = .ok (.putfield 17, 3) := by decide +kernel
theorem dX5_init_21 : decode cX5_init 21 = .ok (.aload_n 0, 1) := by decide +kernel
theorem dX5_init_22 : decode cX5_init 22 = .ok (.bipush 10, 2) := by decide +kernel
theorem dX5_init_24 : decode cX5_init 24 = .ok (.newarray .int, 2) := by decide +kernel
theorem dX5_init_26 : decode cX5_init 26 = .ok (.putfield 20, 3) := by decide +kernel
theorem dX5_init_29 : decode cX5_init 29 = .ok (.aload_n 0, 1) := by decide +kernel
theorem dX5_init_30 : decode cX5_init 30 = .ok (.iload_n 1, 1) := by decide +kernel
theorem dX5_init_31 : decode cX5_init 31 = .ok (.putfield 23, 3) := by decide +kernel
theorem dX5_init_34 : decode cX5_init 34 = .ok (.return_, 1) := by decide +kernel
theorem dX5_start_0 : decode cX5_start 0 = .ok (.aload_n 1, 1) := by decide +kernel
theorem dX5_start_1 : decode cX5_start 1 = .ok (.iconst 0, 1) := by decide +kernel
theorem dX5_start_2 : decode cX5_start 2 = .ok (.aload_n 0, 1) := by decide +kernel
theorem dX5_start_3 : decode cX5_start 3 = .ok (.getfield 11, 3) := by decide +kernel
theorem dX5_start_6 : decode cX5_start 6 = .ok (.iconst 0, 1) := by decide +kernel
theorem dX5_start_7 : decode cX5_start 7 = .ok (.bipush 100, 2) := by decide +kernel
theorem dX5_start_9 : decode cX5_start 9 = .ok (.invokestatic 27, 3) := by decide +kernel
theorem dX5_start_12 : decode cX5_start 12 = .ok (.aload_n 0, 1) := by decide +kernel
theorem dX5_start_13 : decode cX5_start 13 = .ok (.getfield 20, 3) := by decide +kernel
theorem dX5_start_16 : decode cX5_start 16 = .ok (.iconst 0, 1) := by decide +kernel
theorem dX5_start_17 : decode cX5_start 17 = .ok (.invokestatic 33, 3) := by decide +kernel
theorem dX5_start_20 : decode cX5_start 20 = .ok (.aload_n 0, 1) := by decide +kernel
theorem dX5_start_21 : decode cX5_start 21 = .ok (.iconst 0, 1) := by decide +kernel
theorem dX5_start_22 : decode cX5_start 22 = .ok (.putfield 39, 3) := by decide +kernel
theorem dX5_start_25 : decode cX5_start 25 = .ok (.aload_n 0, 1) := by decide +kernel
theorem dX5_start_26 : decode cX5_start 26 = .ok (.getfield 23, 3) := by decide +kernel
theorem dX5_start_29 : decode cX5_start 29 = .ok (.ifCond .eq 31, 3) := by decide +kernel
theorem dX5_start_32 : decode cX5_start 32 = .ok (.aload_n 0, 1) := by decide +kernel
theorem dX5_start_33 : decode cX5_start 33 = .ok (.getfield 17, 3) := by decide +kernel
theorem dX5_start_36 : decode cX5_start 36 = .ok (.ldc 43, 2) := by decide +kernel
theorem dX5_start_38 : decode cX5_start 38 = .ok (.invokestatic 33, 3) := by decide +kernel
theorem dX5_start_41 : decode cX5_start 41 = .ok (.iconst 0, 1) := by decide +kernel
theorem dX5_start_42 : decode cX5_start 42 = .ok (.istore_n 2, 1) := by decide +kernel
theorem dX5_start_43 : decode cX5_start 43 = .ok (.iload_n 2, 1) := by decide +kernel
theorem dX5_start_44 : decode cX5_start 44 = .ok (.bipush 100, 2) := by decide +kernel
theorem dX5_start_46 : decode cX5_start 46 = .ok (.if_icmp .ge 14, 3) := by decide +kernel
theorem dX5_start_49 : decode cX5_start 49 = .ok (.aload_n 0, 1) := by decide +kernel
theorem dX5_start_50 : decode cX5_start 50 = .ok (.iload_n 2, 1) := by decide +kernel
theorem dX5_start_51 : decode cX5_start 51 = .ok (.invokevirtual 44, 3) := by decide +kernel
theorem dX5_start_54 : decode cX5_start 54 = .ok (.iinc 2 1, 3) := by decide +kernel
theorem dX5_start_57 : decode cX5_start 57 = .ok (.goto (-14), 3) := by decide +kernel
theorem dX5_start_60 : decode cX5_start 60 = .ok (.return_, 1) := by decide +kernel
theorem dX5_setNoSteps_0 : decode cX5_setNoSteps 0 = .ok (.iconst 0, 1) := by decide +kernel
theorem dX5_setNoSteps_1 : decode cX5_setNoSteps 1 = .ok (.istore_n 2, 1) := by decide +kernel
theorem dX5_setNoSteps_2 : decode cX5_setNoSteps 2 = .ok (.iload_n 2, 1) := by decide +kernel
theorem dX5_setNoSteps_3 : decode cX5_setNoSteps 3 = .ok (.bipush 10, 2) := by decide +kernel
theorem dX5_setNoSteps_5 : decode cX5_setNoSteps 5 = .ok (.if_icmp .ge 45, 3) := by decide +kernel
theorem dX5_setNoSteps_8 : decode cX5_setNoSteps 8 = .ok (.aload_n 0, 1) := by decide +kernel
theorem dX5_setNoSteps_9 : decode cX5_setNoSteps 9 = .ok (.getfield 11, 3) := by decide +kernel
theorem dX5_setNoSteps_12 : decode cX5_setNoSteps 12 = .ok (.iload_n 1, 1) := by decide +kernel
theorem dX5_setNoSteps_13 : decode cX5_setNoSteps 13 = .ok (.iaload, 1) := by decide +kernel
theorem dX5_setNoSteps_14 : decode cX5_setNoSteps 14 = .ok (.iload_n 2, 1) := by decide +kernel
theorem dX5_setNoSteps_15 : decode cX5_setNoSteps 15 = .ok (.ishr, 1) := by decide +kernel
theorem dX5_setNoSteps_16 : decode cX5_setNoSteps 16 = .ok (.ifCond .eq 34, 3) := by decide +kernel
theorem dX5_setNoSteps_19 : decode cX5_setNoSteps 19 = .ok (.aload_n 0, 1) := by decide +kernel
theorem dX5_setNoSteps_20 : decode cX5_setNoSteps 20 = .ok (.getfield 11, 3) := by decide +kernel
theorem dX5_setNoSteps_23 : decode cX5_setNoSteps 23 = .ok (.iload_n 1, 1) := by decide +kernel
theorem dX5_setNoSteps_24 : decode cX5_setNoSteps 24 = .ok (.iaload, 1) := by decide +kernel
theorem dX5_setNoSteps_25 : decode cX5_setNoSteps 25 = .ok (.iload_n 2, 1) := by decide +kernel
theorem dX5_setNoSteps_26 : decode cX5_setNoSteps 26 = .ok (.ishr, 1) := by decide +kernel
theorem dX5_setNoSteps_27 : decode cX5_setNoSteps 27 = .ok (.iconst 1, 1) := by decide +kernel
theorem dX5_setNoSteps_28 : decode cX5_setNoSteps 28 = .ok (.iand, 1) := by decide +kernel
theorem dX5_setNoSteps_29 : decode cX5_setNoSteps 29 = .ok (.ifCond .eq 15, 3) := by decide +kernel
theorem dX5_setNoSteps_32 : decode cX5_setNoSteps 32 = .ok (.aload_n 0, 1) := by decide +kernel
theorem dX5_setNoSteps_33 : decode cX5_setNoSteps 33 = .ok (.getfield 17, 3) := by decide +kernel
theorem dX5_setNoSteps_36 : decode cX5_setNoSteps 36 = .ok (.iload_n 1, 1) := by decide +kernel
theorem dX5_setNoSteps_37 : decode cX5_setNoSteps 37 = .ok (.bipush 10, 2) := by decide +kernel
theorem dX5_setNoSteps_39 : decode cX5_setNoSteps 39 = .ok (.imul, 1) := by decide +kernel
theorem dX5_setNoSteps_40 : decode cX5_setNoSteps 40 = .ok (.iload_n 2, 1) := by decide +kernel
theorem dX5_setNoSteps_41 : decode cX5_setNoSteps 41 = .ok (.iadd, 1) := by decide +kernel
theorem dX5_setNoSteps_42 : decode cX5_setNoSteps 42 = .ok (.iconst 0, 1) := by decide +kernel
theorem dX5_setNoSteps_43 : decode cX5_setNoSteps 43 = .ok (.iastore, 1) := by decide +kernel
theorem dX5_setNoSteps_44 : decode cX5_setNoSteps 44 = .ok (.iinc 2 1, 3) := by decide +kernel
theorem dX5_setNoSteps_47 : decode cX5_setNoSteps 47 = .ok (.goto (-45), 3) := by decide +kernel
theorem dX5_setNoSteps_50 : decode cX5_setNoSteps 50 = .ok (.return_, 1) := by decide +kernel
theorem dX5_has_0 : decode cX5_has 0 = .ok (.aload_n 0, 1) := by decide +kernel
theorem dX5_has_1 : decode cX5_has 1 = .ok (.getfield 11, 3) := by decide +kernel
theorem dX5_has_4 : decode cX5_has 4 = .ok (.iload_n 1, 1) := by decide +kernel
theorem dX5_has_5 : decode cX5_has 5 = .ok (.bipush 10, 2) := by decide +kernel
theorem dX5_has_7 : decode cX5_has 7 = .ok (.idiv, 1) := by decide +kernel
theorem dX5_has_8 : decode cX5_has 8 = .ok (.iaload, 1) := by decide +kernel
theorem dX5_has_9 : decode cX5_has 9 = .ok (.iload_n 1, 1) := by decide +kernel
theorem dX5_has_10 : decode cX5_has 10 = .ok (.bipush 10, 2) := by decide +kernel
theorem dX5_has_12 : decode cX5_has 12 = .ok (.irem, 1) := by decide +kernel
theorem dX5_has_13 : decode cX5_has 13 = .ok (.ishr, 1) := by decide +kernel
theorem dX5_has_14 : decode cX5_has 14 = .ok (.iconst 1, 1) := by decide +kernel
theorem dX5_has_15 : decode cX5_has 15 = .ok (.iand, 1) := by decide +kernel
theorem dX5_has_16 : decode cX5_has 16 = .ok (.ifCond .eq 7, 3) := by decide +kernel
theorem dX5_has_19 : decode cX5_has 19 = .ok (.iconst 1, 1) := by decide +kernel
theorem dX5_has_20 : decode cX5_has 20 = .ok (.goto 4, 3) := by decide +kernel
theorem dX5_has_23 : decode cX5_has 23 = .ok (.iconst 0, 1) := by decide +kernel
theorem dX5_has_24 : decode cX5_has 24 = .ok (.ireturn, 1) := by decide +kernel
theorem dX5_turn_0 : decode cX5_turn 0 = .ok (.aload_n 0, 1) := by decide +kernel
theorem dX5_turn_1 : decode cX5_turn 1 = .ok (.getfield 11, 3) := by decide +kernel
theorem dX5_turn_4 : decode cX5_turn 4 = .ok (.iload_n 1, 1) := by decide +kernel
theorem dX5_turn_5 : decode cX5_turn 5 = .ok (.bipush 10, 2) := by decide +kernel
theorem dX5_turn_7 : decode cX5_turn 7 = .ok (.idiv, 1) := by decide +kernel
theorem dX5_turn_8 : decode cX5_turn 8 = .ok (.dup2, 1) := by decide +kernel
theorem dX5_turn_9 : decode cX5_turn 9 = .ok (.iaload, 1) := by decide +kernel
theorem dX5_turn_10 : decode cX5_turn 10 = .ok (.iconst 1, 1) := by decide +kernel
theorem dX5_turn_11 : decode cX5_turn 11 = .ok (.iload_n 1, 1) := by decide +kernel
theorem dX5_turn_12 : decode cX5_turn 12 = .ok (.bipush 10, 2) := by decide +kernel
theorem dX5_turn_14 : decode cX5_turn 14 = .ok (.irem, 1) := by decide +kernel
theorem dX5_turn_15 : decode cX5_turn 15 = .ok (.ishl, 1) := by decide +kernel
theorem dX5_turn_16 : decode cX5_turn 16 = .ok (.ixor, 1) := by decide +kernel
theorem dX5_turn_17 : decode cX5_turn 17 = .ok (.iastore, 1) := by decide +kernel
theorem dX5_turn_18 : decode cX5_turn 18 = .ok (.return_, 1) := by decide +kernel
theorem dX5_take_0 : decode cX5_take 0 = .ok (.iload_n 1, 1) := by decide +kernel
theorem dX5_take_1 : decode cX5_take 1 = .ok (.ifCond .lt 10, 3) := by decide +kernel
theorem dX5_take_4 : decode cX5_take 4 = .ok (.iload_n 1, 1) := by decide +kernel
theorem dX5_take_5 : decode cX5_take 5 = .ok (.sipush 1000, 3) := by decide +kernel
theorem dX5_take_8 : decode cX5_take 8 = .ok (.if_icmp .lt 4, 3) := by decide +kernel
theorem dX5_take_11 : decode cX5_take 11 = .ok (.return_, 1) := by decide +kernel
theorem dX5_take_12 : decode cX5_take 12 = .ok (.aload_n 0, 1) := by decide +kernel
theorem dX5_take_13 : decode cX5_take 13 = .ok (.iload_n 1, 1) := by decide +kernel
theorem dX5_take_14 : decode cX5_take 14 = .ok (.invokevirtual 48, 3) := by decide +kernel
theorem dX5_take_17 : decode cX5_take 17 = .ok (.istore_n 3, 1) := by decide +kernel
theorem dX5_take_18 : decode cX5_take 18 = .ok (.iload_n 3, 1) := by decide +kernel
theorem dX5_take_19 : decode cX5_take 19 = .ok (.ifCond .eq 21, 3) := by decide +kernel
theorem dX5_take_22 : decode cX5_take 22 = .ok (.aload_n 0, 1) := by decide +kernel
theorem dX5_take_23 : decode cX5_take 23 = .ok (.getfield 23, 3) := by decide +kernel
theorem dX5_take_26 : decode cX5_take 26 = .ok (.ifCond .eq 13, 3) := by decide +kernel
theorem dX5_take_29 : decode cX5_take 29 = .ok (.aload_n 0, 1) := by decide +kernel
theorem dX5_take_30 : decode cX5_take 30 = .ok (.getfield 17, 3) := by decide +kernel
theorem dX5_take_33 : decode cX5_take 33 = .ok (.iload_n 1, 1) := by decide +kernel
theorem dX5_take_34 : decode cX5_take 34 = .ok (.iaload, 1) := by decide +kernel
theorem dX5_take_35 : decode cX5_take 35 = .ok (.iload_n 2, 1) := by decide +kernel
theorem dX5_take_36 : decode cX5_take 36 = .ok (.if_icmp .gt 4, 3) := by decide +kernel
theorem dX5_take_39 : decode cX5_take 39 = .ok (.return_, 1) := by decide +kernel
theorem dX5_take_40 : decode cX5_take 40 = .ok (.aload_n 0, 1) := by decide +kernel
theorem dX5_take_41 : decode cX5_take 41 = .ok (.getfield 23, 3) := by decide +kernel
theorem dX5_take_44 : decode cX5_take 44 = .ok (.ifCond .eq 10, 3) := by decide +kernel
theorem dX5_take_47 : decode cX5_take 47 = .ok (.aload_n 0, 1) := by decide +kernel
theorem dX5_take_48 : decode cX5_take 48 = .ok (.getfield 17, 3) := by decide +kernel
theorem dX5_take_51 : decode cX5_take 51 = .ok (.iload_n 1, 1) := by decide +kernel
theorem dX5_take_52 : decode cX5_take 52 = .ok (.iload_n 2, 1) := by decide +kernel
theorem dX5_take_53 : decode cX5_take 53 = .ok (.iastore, 1) := by decide +kernel
theorem dX5_take_54 : decode cX5_take 54 = .ok (.iload_n 3, 1) := by decide +kernel
theorem dX5_take_55 : decode cX5_take 55 = .ok (.ifCond .ne 8, 3) := by decide +kernel
theorem dX5_take_58 : decode cX5_take 58 = .ok (.aload_n 0, 1) := by decide +kernel
theorem dX5_take_59 : decode cX5_take 59 = .ok (.iload_n 1, 1) := by decide +kernel
theorem dX5_take_60 : decode cX5_take 60 = .ok (.invokevirtual 52, 3) := by decide +kernel
theorem dX5_take_63 : decode cX5_take 63 = .ok (.aload_n 0, 1) := by decide +kernel
theorem dX5_take_64 : decode cX5_take 64 = .ok (.dup, 1) := by decide +kernel
theorem dX5_take_65 : decode cX5_take 65 = .ok (.getfield 39, 3) := by decide +kernel
theorem dX5_take_68 : decode cX5_take 68 = .ok (.iconst 1, 1) := by decide +kernel
theorem dX5_take_69 : decode cX5_take 69 = .ok (.iadd, 1) := by decide +kernel
theorem dX5_take_70 : decode cX5_take 70 = .ok (.putfield 39, 3) := by decide +kernel
theorem dX5_take_73 : decode cX5_take 73 = .ok (.aload_n 0, 1) := by decide +kernel
theorem dX5_take_74 : decode cX5_take 74 = .ok (.getfield 20, 3) := by decide +kernel
theorem dX5_take_77 : decode cX5_take 77 = .ok (.iload_n 1, 1) := by decide +kernel
theorem dX5_take_78 : decode cX5_take 78 = .ok (.bipush 100, 2) := by decide +kernel
theorem dX5_take_80 : decode cX5_take 80 = .ok (.idiv, 1) := by decide +kernel
theorem dX5_take_81 : decode cX5_take 81 = .ok (.aload_n 0, 1) := by decide +kernel
theorem dX5_take_82 : decode cX5_take 82 = .ok (.getfield 39, 3) := by decide +kernel
theorem dX5_take_85 : decode cX5_take 85 = .ok (.iastore, 1) := by decide +kernel
theorem dX5_take_86 : decode cX5_take 86 = .ok (.return_, 1) := by decide +kernel
theorem dX5_countBeyond_0 : decode cX5_countBeyond 0 = .ok (.iconst 0, 1) := by decide +kernel
theorem dX5_countBeyond_1 : decode cX5_countBeyond 1 = .ok (.istore_n 2, 1) := by decide +kernel
theorem dX5_countBeyond_2 : decode cX5_countBeyond 2 = .ok (.iconst 0, 1) := by decide +kernel
theorem dX5_countBeyond_3 : decode cX5_countBeyond 3 = .ok (.istore_n 3, 1) := by decide +kernel
theorem dX5_countBeyond_4 : decode cX5_countBeyond 4 = .ok (.iload_n 3, 1) := by decide +kernel
theorem dX5_countBeyond_5 : decode cX5_countBeyond 5 = .ok (.bipush 100, 2) := by decide +kernel
theorem dX5_countBeyond_7 : decode cX5_countBeyond 7 = .ok (.if_icmp .ge 30, 3) := by decide +kernel
theorem dX5_countBeyond_10 : decode cX5_countBeyond 10 = .ok (.iload_n 2, 1) := by decide +kernel
theorem dX5_countBeyond_11 : decode cX5_countBeyond 11 = .ok (.aload_n 0, 1) := by decide +kernel
theorem dX5_countBeyond_12 : decode cX5_countBeyond 12 = .ok (.getfield 11, 3) := by decide +kernel
theorem dX5_countBeyond_15 : decode cX5_countBeyond 15 = .ok (.iload_n 3, 1) := by decide +kernel
theorem dX5_countBeyond_16 : decode cX5_countBeyond 16 = .ok (.iaload, 1) := by decide +kernel
theorem dX5_countBeyond_17 : decode cX5_countBeyond 17 = .ok (.aload_n 1, 1) := by decide +kernel
theorem dX5_countBeyond_18 : decode cX5_countBeyond 18 = .ok (.getfield 11, 3) := by decide +kernel
theorem dX5_countBeyond_21 : decode cX5_countBeyond 21 = .ok (.iload_n 3, 1) := by decide +kernel
theorem dX5_countBeyond_22 : decode cX5_countBeyond 22 = .ok (.iaload, 1) := by decide +kernel
theorem dX5_countBeyond_23 : decode cX5_countBeyond 23 = .ok (.iconst (-1), 1) := by decide +kernel
theorem dX5_countBeyond_24 : decode cX5_countBeyond 24 = .ok (.ixor, 1) := by decide +kernel
theorem dX5_countBeyond_25 : decode cX5_countBeyond 25 = .ok (.iand, 1) := by decide +kernel
theorem dX5_countBeyond_26 : decode cX5_countBeyond 26 = .ok (.invokestatic 55, 3) := by decide +kernel
theorem dX5_countBeyond_29 : decode cX5_countBeyond 29 = .ok (.iadd, 1) := by decide +kernel
theorem dX5_countBeyond_30 : decode cX5_countBeyond 30 = .ok (.istore_n 2, 1) := by decide +kernel
theorem dX5_countBeyond_31 : decode cX5_countBeyond 31 = .ok (.iinc 3 1, 3) := by decide +kernel
theorem dX5_countBeyond_34 : decode cX5_countBeyond 34 = .ok (.goto (-30), 3) := by decide +kernel
theorem dX5_countBeyond_37 : decode cX5_countBeyond 37 = .ok (.iload_n 2, 1) := by decide +kernel
theorem dX5_countBeyond_38 : decode cX5_countBeyond 38 = .ok (.ireturn, 1) := by decide +kernel
theorem dX6_init_0 : decode cX6_init 0 = .ok (.aload_n 0, 1) := by decide +kernel
theorem dX6_init_1 : decode cX6_init 1 = .ok (.invokespecial 3, 3) := by decide +kernel
theorem dX6_init_4 : decode cX6_init 4 = .ok (.aload_n 0, 1) := by decide +kernel
theorem dX6_init_5 : decode cX6_init 5 = .ok (.bipush 10, 2) := by decide +kernel
theorem dX6_init_7 : decode cX6_init 7 = .ok (.newarray .long, 2) := by decide +kernel
theorem dX6_init_9 : decode cX6_init 9 = .ok (.putfield 9, 3) := by decide +kernel
theorem dX6_init_12 : decode cX6_init 12 = .ok (.return_, 1) := by decide +kernel
theorem dX6_has_0 : decode cX6_has 0 = .ok (.iload_n 1, 1) := by decide +kernel
theorem dX6_has_1 : decode cX6_has 1 = .ok (.ifCond .lt 15, 3) := by decide +kernel
theorem dX6_has_4 : decode cX6_has 4 = .ok (.iload_n 1, 1) := by decide +kernel
theorem dX6_has_5 : decode cX6_has 5 = .ok (.aload_n 0, 1) := by decide +kernel
theorem dX6_has_6 : decode cX6_has 6 = .ok (.getfield 15, 3) := by decide +kernel
theorem dX6_has_9 : decode cX6_has 9 = .ok (.if_icmp .ge 7, 3) := by decide +kernel
theorem dX6_has_12 : decode cX6_has 12 = .ok (.iconst 1, 1) := by decide +kernel
theorem dX6_has_13 : decode cX6_has 13 = .ok (.goto 4, 3) := by decide +kernel
theorem dX6_has_16 : decode cX6_has 16 = .ok (.iconst 0, 1) := by decide +kernel
theorem dX6_has_17 : decode cX6_has 17 = .ok (.ireturn, 1) := by decide +kernel
theorem dX6_findOrAdd_0 : decode cX6_findOrAdd 0 = .ok (.iconst 0, 1) := by decide +kernel
theorem dX6_findOrAdd_1 : decode cX6_findOrAdd 1 = .ok (.istore_n 3, 1) := by decide +kernel
theorem dX6_findOrAdd_2 : decode cX6_findOrAdd 2 = .ok (.iload_n 3, 1) := by decide +kernel
theorem dX6_findOrAdd_3 : decode cX6_findOrAdd 3 = .ok (.aload_n 0, 1) := by decide +kernel
theorem dX6_findOrAdd_4 : decode cX6_findOrAdd 4 = .ok (.getfield 15, 3) := by decide +kernel
theorem dX6_findOrAdd_7 : decode cX6_findOrAdd 7 = .ok (.if_icmp .ge 22, 3) := by decide +kernel
theorem dX6_findOrAdd_10 : decode cX6_findOrAdd 10 = .ok (.aload_n 0, 1) := by decide +kernel
theorem dX6_findOrAdd_11 : decode cX6_findOrAdd 11 = .ok (.getfield 9, 3) := by decide +kernel
theorem dX6_findOrAdd_14 : decode cX6_findOrAdd 14 = .ok (.iload_n 3, 1) := by decide +kernel
theorem dX6_findOrAdd_15 : decode cX6_findOrAdd 15 = .ok (.laload, 1) := by decide +kernel
theorem dX6_findOrAdd_16 : decode cX6_findOrAdd 16 = .ok (.lload_n 1, 1) := by decide +kernel
theorem dX6_findOrAdd_17 : decode cX6_findOrAdd 17 = .ok (.lcmp, 1) := by decide +kernel
theorem dX6_findOrAdd_18 : decode cX6_findOrAdd 18 = .ok (.ifCond .ne 5, 3) := by decide +kernel
theorem dX6_findOrAdd_21 : decode cX6_findOrAdd 21 = .ok (.iload_n 3, 1) := by decide +kernel
theorem dX6_findOrAdd_22 : decode cX6_findOrAdd 22 = .ok (.ireturn, 1) := by decide +kernel
theorem dX6_findOrAdd_23 : decode cX6_findOrAdd 23 = .ok (.iinc 3 1, 3) := by decide +kernel
theorem dX6_findOrAdd_26 : decode cX6_findOrAdd 26 = .ok (.goto (-24), 3) := by decide +kernel
theorem dX6_findOrAdd_29 : decode cX6_findOrAdd 29 = .ok (.aload_n 0, 1) := by decide +kernel
theorem dX6_findOrAdd_30 : decode cX6_findOrAdd 30 = .ok (.getfield 15, 3) := by decide +kernel
theorem dX6_findOrAdd_33 : decode cX6_findOrAdd 33 = .ok (.bipush 10, 2) := by decide +kernel
theorem dX6_findOrAdd_35 : decode cX6_findOrAdd 35 = .ok (.if_icmp .lt 5, 3) := by decide +kernel
theorem dX6_findOrAdd_38 : decode cX6_findOrAdd 38 = .ok (.iconst (-1), 1) := by decide +kernel
theorem dX6_findOrAdd_39 : decode cX6_findOrAdd 39 = .ok (.ireturn, 1) := by decide +kernel
theorem dX6_findOrAdd_40 : decode cX6_findOrAdd 40 = .ok (.aload_n 0, 1) := by decide +kernel
theorem dX6_findOrAdd_41 : decode cX6_findOrAdd 41 = .ok (.getfield 9, 3) := by decide +kernel
theorem dX6_findOrAdd_44 : decode cX6_findOrAdd 44 = .ok (.aload_n 0, 1) := by decide +kernel
theorem dX6_findOrAdd_45 : decode cX6_findOrAdd 45 = .ok (.getfield 15, 3) := by decide +kernel
theorem dX6_findOrAdd_48 : decode cX6_findOrAdd 48 = .ok (.lload_n 1, 1) := by decide +kernel
theorem dX6_findOrAdd_49 : decode cX6_findOrAdd 49 = .ok (.lastore, 1) := by decide +kernel
theorem dX6_findOrAdd_50 : decode cX6_findOrAdd 50 = .ok (.aload_n 0, 1) := by decide +kernel
theorem dX6_findOrAdd_51 : decode cX6_findOrAdd 51 = .ok (.dup, 1) := by decide +kernel
theorem dX6_findOrAdd_52 : decode cX6_findOrAdd 52 = .ok (.getfield 15, 3) := by decide +kernel
theorem dX6_findOrAdd_55 : decode cX6_findOrAdd 55 = .ok (.iconst 1, 1) := by decide +kernel
theorem dX6_findOrAdd_56 : decode cX6_findOrAdd 56 = .ok (.iadd, 1) := by decide +kernel
theorem dX6_findOrAdd_57 : decode cX6_findOrAdd 57 = .ok (.putfield 15, 3) := by decide +kernel
theorem dX6_findOrAdd_60 : decode cX6_findOrAdd 60 = .ok (.aload_n 0, 1) := by decide +kernel
theorem dX6_findOrAdd_61 : decode cX6_findOrAdd 61 = .ok (.getfield 15, 3) := by decide +kernel
theorem dX6_findOrAdd_64 : decode cX6_findOrAdd 64 = .ok (.iconst 1, 1) := by decide +kernel
theorem dX6_findOrAdd_65 : decode cX6_findOrAdd 65 = .ok (.isub, 1) := by decide +kernel
theorem dX6_findOrAdd_66 : decode cX6_findOrAdd 66 = .ok (.ireturn, 1) := by decide +kernel
theorem dX6_letter_0 : decode cX6_letter 0 = .ok (.aload_n 0, 1) := by decide +kernel
theorem dX6_letter_1 : decode cX6_letter 1 = .ok (.iload_n 1, 1) := by decide +kernel
theorem dX6_letter_2 : decode cX6_letter 2 = .ok (.invokevirtual 19, 3) := by decide +kernel
theorem dX6_letter_5 : decode cX6_letter 5 = .ok (.ifCond .eq 13, 3) := by decide +kernel
theorem dX6_letter_8 : decode cX6_letter 8 = .ok (.iload_n 2, 1) := by decide +kernel
theorem dX6_letter_9 : decode cX6_letter 9 = .ok (.ifCond .lt 9, 3) := by decide +kernel
theorem dX6_letter_12 : decode cX6_letter 12 = .ok (.iload_n 2, 1) := by decide +kernel
theorem dX6_letter_13 : decode cX6_letter 13 = .ok (.bipush 8, 2) := by decide +kernel
theorem dX6_letter_15 : decode cX6_letter 15 = .ok (.if_icmp .lt 5, 3) := by decide +kernel
theorem dX6_letter_18 : decode cX6_letter 18 = .ok (.iconst (-1), 1) := by decide +kernel
theorem dX6_letter_19 : decode cX6_letter 19 = .ok (.ireturn, 1) := by decide +kernel
theorem dX6_letter_20 : decode cX6_letter 20 = .ok (.aload_n 0, 1) := by decide +kernel
theorem dX6_letter_21 : decode cX6_letter 21 = .ok (.getfield 9, 3) := by decide +kernel
theorem dX6_letter_24 : decode cX6_letter 24 = .ok (.iload_n 1, 1) := by decide +kernel
theorem dX6_letter_25 : decode cX6_letter 25 = .ok (.laload, 1) := by decide +kernel
theorem dX6_letter_26 : decode cX6_letter 26 = .ok (.bipush 8, 2) := by decide +kernel
theorem dX6_letter_28 : decode cX6_letter 28 = .ok (.iload_n 2, 1) := by decide +kernel
theorem dX6_letter_29 : decode cX6_letter 29 = .ok (.imul, 1) := by decide +kernel
theorem dX6_letter_30 : decode cX6_letter 30 = .ok (.lushr, 1) := by decide +kernel
theorem dX6_letter_31 : decode cX6_letter 31 = .ok (.l2i, 1) := by decide +kernel
theorem dX6_letter_32 : decode cX6_letter 32 = .ok (.sipush 255, 3) := by decide +kernel
theorem dX6_letter_35 : decode cX6_letter 35 = .ok (.iand, 1) := by decide +kernel
theorem dX6_letter_36 : decode cX6_letter 36 = .ok (.istore_n 3, 1) := by decide +kernel
theorem dX6_letter_37 : decode cX6_letter 37 = .ok (.iload_n 3, 1) := by decide +kernel
theorem dX6_letter_38 : decode cX6_letter 38 = .ok (.ifCond .ne 7, 3) := by decide +kernel
theorem dX6_letter_41 : decode cX6_letter 41 = .ok (.iconst (-1), 1) := by decide +kernel
theorem dX6_letter_42 : decode cX6_letter 42 = .ok (.goto 4, 3) := by decide +kernel
theorem dX6_letter_45 : decode cX6_letter 45 = .ok (.iload_n 3, 1) := by decide +kernel
theorem dX6_letter_46 : decode cX6_letter 46 = .ok (.ireturn, 1) := by decide +kernel
theorem dX7_init_0 : decode cX7_init 0 = .ok (.aload_n 0, 1) := by decide +kernel
theorem dX7_init_1 : decode cX7_init 1 = .ok (.invokespecial 3, 3) := by decide +kernel
theorem dX7_init_4 : decode cX7_init 4 = .ok (.aload_n 0, 1) := by decide +kernel
theorem dX7_init_5 : decode cX7_init 5 = .ok (.new 9, 3) := by decide +kernel
theorem dX7_init_8 : decode cX7_init 8 = .ok (.dup, 1) := by decide +kernel
theorem dX7_init_9 : decode cX7_init 9 = .ok (.invokespecial 11, 3) := by decide +kernel
theorem dX7_init_12 : decode cX7_init 12 = .ok (.putfield 12, 3) := by decide +kernel
theorem dX7_init_15 : decode cX7_init 15 = .ok (.aload_n 0, 1) := by decide +kernel
theorem dX7_init_16 : decode cX7_init 16 = .ok (.sipush 200, 3) := by decide +kernel
theorem dX7_init_19 : decode cX7_init 19 = .ok (.newarray .int, 2) := by decide +kernel
theorem dX7_init_21 : decode cX7_init 21 = .ok (.putfield 18, 3) := by decide +kernel
theorem dX7_init_24 : decode cX7_init 24 = .ok (.aload_n 0, 1) := by decide +kernel
theorem dX7_init_25 : decode cX7_init 25 = .ok (.aload_n 1, 1) := by decide +kernel
theorem dX7_init_26 : decode cX7_init 26 = .ok (.putfield 22, 3) := by decide +kernel
theorem dX7_init_29 : decode cX7_init 29 = .ok (.return_, 1) := by decide +kernel
theorem dX7_read_0 : decode cX7_read 0 = .ok (.aload_n 0, 1) := by decide +kernel
theorem dX7_read_1 : decode cX7_read 1 = .ok (.getfield 22, 3) := by decide +kernel
theorem dX7_read_4 : decode cX7_read 4 = .ok (.getfield 26, 3) := by decide +kernel
theorem dX7_read_7 : decode cX7_read 7 = .ok (.getfield 32, 3) := by decide +kernel
theorem dX7_read_10 : decode cX7_read 10 = .ok (.istore_n 3, 1) := by decide +kernel
theorem dX7_read_11 : decode cX7_read 11 = .ok (.aload_n 0, 1) := by decide +kernel
theorem dX7_read_12 : decode cX7_read 12 = .ok (.getfield 22, 3) := by decide +kernel
theorem dX7_read_15 : decode cX7_read 15 = .ok (.getfield 38, 3) := by decide +kernel
theorem dX7_read_18 : decode cX7_read 18 = .ok (.getfield 32, 3) := by decide +kernel
theorem dX7_read_21 : decode cX7_read 21 = .ok (.istore 4, 2) := by decide +kernel
theorem dX7_read_23 : decode cX7_read 23 = .ok (.aload_n 0, 1) := by decide +kernel
theorem dX7_read_24 : decode cX7_read 24 = .ok (.getfield 22, 3) := by decide +kernel
theorem dX7_read_27 : decode cX7_read 27 = .ok (.getfield 41, 3) := by decide +kernel
theorem dX7_read_30 : decode cX7_read 30 = .ok (.istore 5, 2) := by decide +kernel
theorem dX7_read_32 : decode cX7_read 32 = .ok (.aload_n 0, 1) := by decide +kernel
theorem dX7_read_33 : decode cX7_read 33 = .ok (.getfield 12, 3) := by decide +kernel
theorem dX7_read_36 : decode cX7_read 36 = .ok (.aload_n 1, 1) := by decide +kernel
theorem dX7_read_37 : decode cX7_read 37 = .ok (.iload_n 2, 1) := by decide +kernel
theorem dX7_read_38 : decode cX7_read 38 = .ok (.invokevirtual 44, 3) := by decide +kernel
theorem dX7_read_41 : decode cX7_read 41 = .ok (.aload_n 0, 1) := by decide +kernel
theorem dX7_read_42 : decode cX7_read 42 = .ok (.iconst 0, 1) := by decide +kernel
theorem dX7_read_43 : decode cX7_read 43 = .ok (.putfield 48, 3) := by decide +kernel
theorem dX7_read_46 : decode cX7_read 46 = .ok (.aload_n 0, 1) := by decide +kernel
theorem dX7_read_47 : decode cX7_read 47 = .ok (.iconst 0, 1) := by decide +kernel
theorem dX7_read_48 : decode cX7_read 48 = .ok (.putfield 51, 3) := by decide +kernel
theorem dX7_read_51 : decode cX7_read 51 = .ok (.aload_n 0, 1) := by decide +kernel
theorem dX7_read_52 : decode cX7_read 52 = .ok (.iconst 0, 1) := by decide +kernel
theorem dX7_read_53 : decode cX7_read 53 = .ok (.putfield 54, 3) := by decide +kernel
theorem dX7_read_56 : decode cX7_read 56 = .ok (.aload_n 0, 1) := by decide +kernel
theorem dX7_read_57 : decode cX7_read 57 = .ok (.iconst 0, 1) := by decide +kernel
theorem dX7_read_58 : decode cX7_read 58 = .ok (.putfield 57, 3) := by decide +kernel
theorem dX7_read_61 : decode cX7_read 61 = .ok (.aload_n 0, 1) := by decide +kernel
theorem dX7_read_62 : decode cX7_read 62 = .ok (.iconst (-1), 1) := by decide +kernel
theorem dX7_read_63 : decode cX7_read 63 = .ok (.putfield 60, 3) := by decide +kernel
theorem dX7_read_66 : decode cX7_read 66 = .ok (.iconst 1, 1) := by decide +kernel
theorem dX7_read_67 : decode cX7_read 67 = .ok (.istore 6, 2) := by decide +kernel
theorem dX7_read_69 : decode cX7_read 69 = .ok (.iload 6, 2) := by decide +kernel
theorem dX7_read_71 : decode cX7_read 71 = .ok (.ifCond .eq 61, 3) := by decide +kernel
theorem dX7_read_74 : decode cX7_read 74 = .ok (.aload_n 0, 1) := by decide +kernel
theorem dX7_read_75 : decode cX7_read 75 = .ok (.getfield 54, 3) := by decide +kernel
theorem dX7_read_78 : decode cX7_read 78 = .ok (.sipush 200, 3) := by decide +kernel
theorem dX7_read_81 : decode cX7_read 81 = .ok (.if_icmp .ge 51, 3) := by decide +kernel
theorem dX7_read_84 : decode cX7_read 84 = .ok (.aload_n 0, 1) := by decide +kernel
theorem dX7_read_85 : decode cX7_read 85 = .ok (.getfield 54, 3) := by decide +kernel
theorem dX7_read_88 : decode cX7_read 88 = .ok (.ifCond .eq 10, 3) := by decide +kernel
theorem dX7_read_91 : decode cX7_read 91 = .ok (.aload_n 0, 1) := by decide +kernel
theorem dX7_read_92 : decode cX7_read 92 = .ok (.invokevirtual 63, 3) := by decide +kernel
theorem dX7_read_95 : decode cX7_read 95 = .ok (.ifCond .eq 37, 3) := by decide +kernel
theorem dX7_read_98 : decode cX7_read 98 = .ok (.aload_n 0, 1) := by decide +kernel
theorem dX7_read_99 : decode cX7_read 99 = .ok (.aload_n 0, 1) := by decide +kernel
theorem dX7_read_100 : decode cX7_read 100 = .ok (.getfield 22, 3) := by decide +kernel
theorem dX7_read_103 : decode cX7_read 103 = .ok (.getfield 67, 3) := by decide +kernel
theorem dX7_read_106 : decode cX7_read 106 = .ok (.aload_n 0, 1) := by decide +kernel
theorem dX7_read_107 : decode cX7_read 107 = .ok (.getfield 22, 3) := by decide +kernel
theorem dX7_read_110 : decode cX7_read 110 = .ok (.getfield 41, 3) := by decide +kernel
theorem dX7_read_113 : decode cX7_read 113 = .ok (.aaload, 1) := by decide +kernel
theorem dX7_read_114 : decode cX7_read 114 = .ok (.invokevirtual 71, 3) := by decide +kernel
theorem dX7_read_117 : decode cX7_read 117 = .ok (.istore 6, 2) := by decide +kernel
theorem dX7_read_119 : decode cX7_read 119 = .ok (.aload_n 0, 1) := by decide +kernel
theorem dX7_read_120 : decode cX7_read 120 = .ok (.dup, 1) := by decide +kernel
theorem dX7_read_121 : decode cX7_read 121 = .ok (.getfield 54, 3) := by decide +kernel
theorem dX7_read_124 : decode cX7_read 124 = .ok (.iconst 1, 1) := by decide +kernel
theorem dX7_read_125 : decode cX7_read 125 = .ok (.iadd, 1) := by decide +kernel
theorem dX7_read_126 : decode cX7_read 126 = .ok (.putfield 54, 3) := by decide +kernel
theorem dX7_read_129 : decode cX7_read 129 = .ok (.goto (-60), 3) := by decide +kernel
theorem dX7_read_132 : decode cX7_read 132 = .ok (.iload 6, 2) := by decide +kernel
theorem dX7_read_134 : decode cX7_read 134 = .ok (.ifCond .eq 48, 3) := by decide +kernel
theorem dX7_read_137 : decode cX7_read 137 = .ok (.aload_n 0, 1) := by decide +kernel
theorem dX7_read_138 : decode cX7_read 138 = .ok (.iload 5, 2) := by decide +kernel
theorem dX7_read_140 : decode cX7_read 140 = .ok (.invokevirtual 75, 3) := by decide +kernel
theorem dX7_read_143 : decode cX7_read 143 = .ok (.ifCond .eq 39, 3) := by decide +kernel
theorem dX7_read_146 : decode cX7_read 146 = .ok (.iconst 0, 1) := by decide +kernel
theorem dX7_read_147 : decode cX7_read 147 = .ok (.istore 7, 2) := by decide +kernel
theorem dX7_read_149 : decode cX7_read 149 = .ok (.iload 7, 2) := by decide +kernel
theorem dX7_read_151 : decode cX7_read 151 = .ok (.aload_n 0, 1) := by decide +kernel
theorem dX7_read_152 : decode cX7_read 152 = .ok (.getfield 51, 3) := by decide +kernel
theorem dX7_read_155 : decode cX7_read 155 = .ok (.if_icmp .ge 25, 3) := by decide +kernel
theorem dX7_read_158 : decode cX7_read 158 = .ok (.aload_n 0, 1) := by decide +kernel
theorem dX7_read_159 : decode cX7_read 159 = .ok (.getfield 22, 3) := by decide +kernel
theorem dX7_read_162 : decode cX7_read 162 = .ok (.aload_n 0, 1) := by decide +kernel
theorem dX7_read_163 : decode cX7_read 163 = .ok (.getfield 18, 3) := by decide +kernel
theorem dX7_read_166 : decode cX7_read 166 = .ok (.iload 7, 2) := by decide +kernel
theorem dX7_read_168 : decode cX7_read 168 = .ok (.iaload, 1) := by decide +kernel
theorem dX7_read_169 : decode cX7_read 169 = .ok (.iconst 1, 1) := by decide +kernel
theorem dX7_read_170 : decode cX7_read 170 = .ok (.invokevirtual 79, 3) := by decide +kernel
theorem dX7_read_173 : decode cX7_read 173 = .ok (.pop, 1) := by decide +kernel
theorem dX7_read_174 : decode cX7_read 174 = .ok (.iinc 7 1, 3) := by decide +kernel
theorem dX7_read_177 : decode cX7_read 177 = .ok (.goto (-28), 3) := by decide +kernel
theorem dX7_read_180 : decode cX7_read 180 = .ok (.iconst 1, 1) := by decide +kernel
theorem dX7_read_181 : decode cX7_read 181 = .ok (.ireturn, 1) := by decide +kernel
theorem dX7_read_182 : decode cX7_read 182 = .ok (.aload_n 0, 1) := by decide +kernel
theorem dX7_read_183 : decode cX7_read 183 = .ok (.getfield 22, 3) := by decide +kernel
theorem dX7_read_186 : decode cX7_read 186 = .ok (.getfield 26, 3) := by decide +kernel
theorem dX7_read_189 : decode cX7_read 189 = .ok (.iload_n 3, 1) := by decide +kernel
theorem dX7_read_190 : decode cX7_read 190 = .ok (.putfield 32, 3) := by decide +kernel
theorem dX7_read_193 : decode cX7_read 193 = .ok (.aload_n 0, 1) := by decide +kernel
theorem dX7_read_194 : decode cX7_read 194 = .ok (.getfield 22, 3) := by decide +kernel
theorem dX7_read_197 : decode cX7_read 197 = .ok (.getfield 38, 3) := by decide +kernel
theorem dX7_read_200 : decode cX7_read 200 = .ok (.iload 4, 2) := by decide +kernel
theorem dX7_read_202 : decode cX7_read 202 = .ok (.putfield 32, 3) := by decide +kernel
theorem dX7_read_205 : decode cX7_read 205 = .ok (.aload_n 0, 1) := by decide +kernel
theorem dX7_read_206 : decode cX7_read 206 = .ok (.getfield 22, 3) := by decide +kernel
theorem dX7_read_209 : decode cX7_read 209 = .ok (.iload 5, 2) := by decide +kernel
theorem dX7_read_211 : decode cX7_read 211 = .ok (.putfield 41, 3) := by decide +kernel
theorem dX7_read_214 : decode cX7_read 214 = .ok (.aload_n 0, 1) := by decide +kernel
theorem dX7_read_215 : decode cX7_read 215 = .ok (.getfield 22, 3) := by decide +kernel
theorem dX7_read_218 : decode cX7_read 218 = .ok (.getfield 83, 3) := by decide +kernel
theorem dX7_read_221 : decode cX7_read 221 = .ok (.aload_n 0, 1) := by decide +kernel
theorem dX7_read_222 : decode cX7_read 222 = .ok (.getfield 22, 3) := by decide +kernel
theorem dX7_read_225 : decode cX7_read 225 = .ok (.getfield 67, 3) := by decide +kernel
theorem dX7_read_228 : decode cX7_read 228 = .ok (.iload 5, 2) := by decide +kernel
theorem dX7_read_230 : decode cX7_read 230 = .ok (.invokevirtual 87, 3) := by decide +kernel
theorem dX7_read_233 : decode cX7_read 233 = .ok (.pop, 1) := by decide +kernel
theorem dX7_read_234 : decode cX7_read 234 = .ok (.iconst 0, 1) := by decide +kernel
theorem dX7_read_235 : decode cX7_read 235 = .ok (.ireturn, 1) := by decide +kernel
theorem dX7_refusesNoneOfItself_0 : decode cX7_refusesNoneOfItself 0 = .ok (.aload_n 0, 1) := by decide +kernel
theorem dX7_refusesNoneOfItself_1 : decode cX7_refusesNoneOfItself 1 = .ok (.getfield 22, 3) := by decide +kernel
theorem dX7_refusesNoneOfItself_4 : decode cX7_refusesNoneOfItself 4 = .ok (.getfield 83, 3) := by decide +kernel
theorem dX7_refusesNoneOfItself_7 : decode cX7_refusesNoneOfItself 7 = .ok (.aload_n 0, 1) := by decide +kernel
theorem dX7_refusesNoneOfItself_8 : decode cX7_refusesNoneOfItself 8 = .ok (.getfield 22, 3) := by decide +kernel
theorem dX7_refusesNoneOfItself_11 : decode cX7_refusesNoneOfItself 11 = .ok (.getfield 67, 3) := by decide +kernel
theorem dX7_refusesNoneOfItself_14 : decode cX7_refusesNoneOfItself 14 = .ok (.aload_n 0, 1) := by decide +kernel
theorem dX7_refusesNoneOfItself_15 : decode cX7_refusesNoneOfItself 15 = .ok (.getfield 22, 3) := by decide +kernel
theorem dX7_refusesNoneOfItself_18 : decode cX7_refusesNoneOfItself 18 = .ok (.getfield 41, 3) := by decide +kernel
theorem dX7_refusesNoneOfItself_21 : decode cX7_refusesNoneOfItself 21 = .ok (.invokevirtual 87, 3) := by decide +kernel
theorem dX7_refusesNoneOfItself_24 : decode cX7_refusesNoneOfItself 24 = .ok (.ifCond .eq 5, 3) := by decide +kernel
theorem dX7_refusesNoneOfItself_27 : decode cX7_refusesNoneOfItself 27 = .ok (.iconst 1, 1) := by decide +kernel
theorem dX7_refusesNoneOfItself_28 : decode cX7_refusesNoneOfItself 28 = .ok (.ireturn, 1) := by decide +kernel
theorem dX7_refusesNoneOfItself_29 : decode cX7_refusesNoneOfItself 29 = .ok (.iload_n 1, 1) := by decide +kernel
theorem dX7_refusesNoneOfItself_30 : decode cX7_refusesNoneOfItself 30 = .ok (.istore_n 2, 1) := by decide +kernel
theorem dX7_refusesNoneOfItself_31 : decode cX7_refusesNoneOfItself 31 = .ok (.iload_n 2, 1) := by decide +kernel
theorem dX7_refusesNoneOfItself_32 : decode cX7_refusesNoneOfItself 32 = .ok (.aload_n 0, 1) := by decide +kernel
theorem dX7_refusesNoneOfItself_33 : decode cX7_refusesNoneOfItself 33 = .ok (.getfield 22, 3) := by decide +kernel
theorem dX7_refusesNoneOfItself_36 : decode cX7_refusesNoneOfItself 36 = .ok (.getfield 41, 3) := by decide +kernel
theorem dX7_refusesNoneOfItself_39 : decode cX7_refusesNoneOfItself 39 = .ok (.if_icmp .ge 54, 3) := by decide +kernel
theorem dX7_refusesNoneOfItself_42 : decode cX7_refusesNoneOfItself 42 = .ok (.aload_n 0, 1) := by decide +kernel
theorem dX7_refusesNoneOfItself_43 : decode cX7_refusesNoneOfItself 43 = .ok (.getfield 22, 3) := by decide +kernel
theorem dX7_refusesNoneOfItself_46 : decode cX7_refusesNoneOfItself 46 = .ok (.getfield 83, 3) := by decide +kernel
theorem dX7_refusesNoneOfItself_49 : decode cX7_refusesNoneOfItself 49 = .ok (.aload_n 0, 1) := by decide +kernel
theorem dX7_refusesNoneOfItself_50 : decode cX7_refusesNoneOfItself 50 = .ok (.getfield 22, 3) := by decide +kernel
theorem dX7_refusesNoneOfItself_53 : decode cX7_refusesNoneOfItself 53 = .ok (.getfield 67, 3) := by decide +kernel
theorem dX7_refusesNoneOfItself_56 : decode cX7_refusesNoneOfItself 56 = .ok (.iload_n 2, 1) := by decide +kernel
theorem dX7_refusesNoneOfItself_57 : decode cX7_refusesNoneOfItself 57 = .ok (.iconst 1, 1) := by decide +kernel
theorem dX7_refusesNoneOfItself_58 : decode cX7_refusesNoneOfItself 58 = .ok (.iadd, 1) := by decide +kernel
theorem dX7_refusesNoneOfItself_59 : decode cX7_refusesNoneOfItself 59 = .ok (.invokevirtual 87, 3) := by decide +kernel
theorem dX7_refusesNoneOfItself_62 : decode cX7_refusesNoneOfItself 62 = .ok (.ifCond .ne 25, 3) := by decide +kernel
theorem dX7_refusesNoneOfItself_65 : decode cX7_refusesNoneOfItself 65 = .ok (.aload_n 0, 1) := by decide +kernel
theorem dX7_refusesNoneOfItself_66 : decode cX7_refusesNoneOfItself 66 = .ok (.bipush 6, 2) := by decide +kernel
theorem dX7_refusesNoneOfItself_68 : decode cX7_refusesNoneOfItself 68 = .ok (.aload_n 0, 1) := by decide +kernel
theorem dX7_refusesNoneOfItself_69 : decode cX7_refusesNoneOfItself 69 = .ok (.getfield 22, 3) := by decide +kernel
theorem dX7_refusesNoneOfItself_72 : decode cX7_refusesNoneOfItself 72 = .ok (.getfield 67, 3) := by decide +kernel
theorem dX7_refusesNoneOfItself_75 : decode cX7_refusesNoneOfItself 75 = .ok (.iload_n 2, 1) := by decide +kernel
theorem dX7_refusesNoneOfItself_76 : decode cX7_refusesNoneOfItself 76 = .ok (.aaload, 1) := by decide +kernel
theorem dX7_refusesNoneOfItself_77 : decode cX7_refusesNoneOfItself 77 = .ok (.getfield 93, 3) := by decide +kernel
theorem dX7_refusesNoneOfItself_80 : decode cX7_refusesNoneOfItself 80 = .ok (.getfield 99, 3) := by decide +kernel
theorem dX7_refusesNoneOfItself_83 : decode cX7_refusesNoneOfItself 83 = .ok (.invokevirtual 104, 3) := by decide +kernel
theorem dX7_refusesNoneOfItself_86 : decode cX7_refusesNoneOfItself 86 = .ok (.ireturn, 1) := by decide +kernel
theorem dX7_refusesNoneOfItself_87 : decode cX7_refusesNoneOfItself 87 = .ok (.iinc 2 1, 3) := by decide +kernel
theorem dX7_refusesNoneOfItself_90 : decode cX7_refusesNoneOfItself 90 = .ok (.goto (-59), 3) := by decide +kernel
theorem dX7_refusesNoneOfItself_93 : decode cX7_refusesNoneOfItself 93 = .ok (.iconst 1, 1) := by decide +kernel
theorem dX7_refusesNoneOfItself_94 : decode cX7_refusesNoneOfItself 94 = .ok (.ireturn, 1) := by decide +kernel
theorem dX7_readClause_0 : decode cX7_readClause 0 = .ok (.aload_n 1, 1) := by decide +kernel
theorem dX7_readClause_1 : decode cX7_readClause 1 = .ok (.invokevirtual 108, 3) := by decide +kernel
theorem dX7_readClause_4 : decode cX7_readClause 4 = .ok (.aload_n 1, 1) := by decide +kernel
theorem dX7_readClause_5 : decode cX7_readClause 5 = .ok (.getfield 93, 3) := by decide +kernel
theorem dX7_readClause_8 : decode cX7_readClause 8 = .ok (.iconst 0, 1) := by decide +kernel
theorem dX7_readClause_9 : decode cX7_readClause 9 = .ok (.invokevirtual 111, 3) := by decide +kernel
theorem dX7_readClause_12 : decode cX7_readClause 12 = .ok (.aload_n 0, 1) := by decide +kernel
theorem dX7_readClause_13 : decode cX7_readClause 13 = .ok (.aload_n 1, 1) := by decide +kernel
theorem dX7_readClause_14 : decode cX7_readClause 14 = .ok (.aload_n 1, 1) := by decide +kernel
theorem dX7_readClause_15 : decode cX7_readClause 15 = .ok (.getfield 93, 3) := by decide +kernel
theorem dX7_readClause_18 : decode cX7_readClause 18 = .ok (.invokevirtual 114, 3) := by decide +kernel
theorem dX7_readClause_21 : decode cX7_readClause 21 = .ok (.ifCond .ne 5, 3) := by decide +kernel
theorem dX7_readClause_24 : decode cX7_readClause 24 = .ok (.iconst 0, 1) := by decide +kernel
theorem dX7_readClause_25 : decode cX7_readClause 25 = .ok (.ireturn, 1) := by decide +kernel
theorem dX7_readClause_26 : decode cX7_readClause 26 = .ok (.aload_n 0, 1) := by decide +kernel
theorem dX7_readClause_27 : decode cX7_readClause 27 = .ok (.invokevirtual 63, 3) := by decide +kernel
theorem dX7_readClause_30 : decode cX7_readClause 30 = .ok (.bipush 46, 2) := by decide +kernel
theorem dX7_readClause_32 : decode cX7_readClause 32 = .ok (.if_icmp .ne 12, 3) := by decide +kernel
theorem dX7_readClause_35 : decode cX7_readClause 35 = .ok (.aload_n 0, 1) := by decide +kernel
theorem dX7_readClause_36 : decode cX7_readClause 36 = .ok (.aload_n 1, 1) := by decide +kernel
theorem dX7_readClause_37 : decode cX7_readClause 37 = .ok (.getfield 93, 3) := by decide +kernel
theorem dX7_readClause_40 : decode cX7_readClause 40 = .ok (.invokevirtual 118, 3) := by decide +kernel
theorem dX7_readClause_43 : decode cX7_readClause 43 = .ok (.ireturn, 1) := by decide +kernel
theorem dX7_readClause_44 : decode cX7_readClause 44 = .ok (.aload_n 0, 1) := by decide +kernel
theorem dX7_readClause_45 : decode cX7_readClause 45 = .ok (.invokevirtual 63, 3) := by decide +kernel
theorem dX7_readClause_48 : decode cX7_readClause 48 = .ok (.bipush 58, 2) := by decide +kernel
theorem dX7_readClause_50 : decode cX7_readClause 50 = .ok (.if_icmp .eq 13, 3) := by decide +kernel
theorem dX7_readClause_53 : decode cX7_readClause 53 = .ok (.aload_n 0, 1) := by decide +kernel
theorem dX7_readClause_54 : decode cX7_readClause 54 = .ok (.iconst 1, 1) := by decide +kernel
theorem dX7_readClause_55 : decode cX7_readClause 55 = .ok (.aload_n 0, 1) := by decide +kernel
theorem dX7_readClause_56 : decode cX7_readClause 56 = .ok (.invokevirtual 122, 3) := by decide +kernel
theorem dX7_readClause_59 : decode cX7_readClause 59 = .ok (.invokevirtual 104, 3) := by decide +kernel
theorem dX7_readClause_62 : decode cX7_readClause 62 = .ok (.ireturn, 1) := by decide +kernel
theorem dX7_readClause_63 : decode cX7_readClause 63 = .ok (.aload_n 0, 1) := by decide +kernel
theorem dX7_readClause_64 : decode cX7_readClause 64 = .ok (.getfield 22, 3) := by decide +kernel
theorem dX7_readClause_67 : decode cX7_readClause 67 = .ok (.getfield 41, 3) := by decide +kernel
theorem dX7_readClause_70 : decode cX7_readClause 70 = .ok (.bipush 20, 2) := by decide +kernel
theorem dX7_readClause_72 : decode cX7_readClause 72 = .ok (.if_icmp .lt 13, 3) := by decide +kernel
theorem dX7_readClause_75 : decode cX7_readClause 75 = .ok (.aload_n 0, 1) := by decide +kernel
theorem dX7_readClause_76 : decode cX7_readClause 76 = .ok (.iconst 4, 1) := by decide +kernel
theorem dX7_readClause_77 : decode cX7_readClause 77 = .ok (.aload_n 0, 1) := by decide +kernel
theorem dX7_readClause_78 : decode cX7_readClause 78 = .ok (.invokevirtual 122, 3) := by decide +kernel
theorem dX7_readClause_81 : decode cX7_readClause 81 = .ok (.invokevirtual 104, 3) := by decide +kernel
theorem dX7_readClause_84 : decode cX7_readClause 84 = .ok (.ireturn, 1) := by decide +kernel
theorem dX7_readClause_85 : decode cX7_readClause 85 = .ok (.iconst 0, 1) := by decide +kernel
theorem dX7_readClause_86 : decode cX7_readClause 86 = .ok (.istore_n 2, 1) := by decide +kernel
theorem dX7_readClause_87 : decode cX7_readClause 87 = .ok (.iload_n 2, 1) := by decide +kernel
theorem dX7_readClause_88 : decode cX7_readClause 88 = .ok (.iconst 4, 1) := by decide +kernel
theorem dX7_readClause_89 : decode cX7_readClause 89 = .ok (.if_icmp .ge 76, 3) := by decide +kernel
theorem dX7_readClause_92 : decode cX7_readClause 92 = .ok (.aload_n 0, 1) := by decide +kernel
theorem dX7_readClause_93 : decode cX7_readClause 93 = .ok (.dup, 1) := by decide +kernel
theorem dX7_readClause_94 : decode cX7_readClause 94 = .ok (.getfield 48, 3) := by decide +kernel
theorem dX7_readClause_97 : decode cX7_readClause 97 = .ok (.iconst 1, 1) := by decide +kernel
theorem dX7_readClause_98 : decode cX7_readClause 98 = .ok (.iadd, 1) := by decide +kernel
theorem dX7_readClause_99 : decode cX7_readClause 99 = .ok (.putfield 48, 3) := by decide +kernel
theorem dX7_readClause_102 : decode cX7_readClause 102 = .ok (.aload_n 1, 1) := by decide +kernel
theorem dX7_readClause_103 : decode cX7_readClause 103 = .ok (.iload_n 2, 1) := by decide +kernel
theorem dX7_readClause_104 : decode cX7_readClause 104 = .ok (.iconst 1, 1) := by decide +kernel
theorem dX7_readClause_105 : decode cX7_readClause 105 = .ok (.iadd, 1) := by decide +kernel
theorem dX7_readClause_106 : decode cX7_readClause 106 = .ok (.putfield 125, 3) := by decide +kernel
theorem dX7_readClause_109 : decode cX7_readClause 109 = .ok (.aload_n 0, 1) := by decide +kernel
theorem dX7_readClause_110 : decode cX7_readClause 110 = .ok (.aload_n 1, 1) := by decide +kernel
theorem dX7_readClause_111 : decode cX7_readClause 111 = .ok (.aload_n 1, 1) := by decide +kernel
theorem dX7_readClause_112 : decode cX7_readClause 112 = .ok (.getfield 126, 3) := by decide +kernel
theorem dX7_readClause_115 : decode cX7_readClause 115 = .ok (.iload_n 2, 1) := by decide +kernel
theorem dX7_readClause_116 : decode cX7_readClause 116 = .ok (.aaload, 1) := by decide +kernel
theorem dX7_readClause_117 : decode cX7_readClause 117 = .ok (.invokevirtual 130, 3) := by decide +kernel
theorem dX7_readClause_120 : decode cX7_readClause 120 = .ok (.ifCond .ne 5, 3) := by decide +kernel
theorem dX7_readClause_123 : decode cX7_readClause 123 = .ok (.iconst 0, 1) := by decide +kernel
theorem dX7_readClause_124 : decode cX7_readClause 124 = .ok (.ireturn, 1) := by decide +kernel
theorem dX7_readClause_125 : decode cX7_readClause 125 = .ok (.aload_n 0, 1) := by decide +kernel
theorem dX7_readClause_126 : decode cX7_readClause 126 = .ok (.invokevirtual 63, 3) := by decide +kernel
theorem dX7_readClause_129 : decode cX7_readClause 129 = .ok (.bipush 46, 2) := by decide +kernel
theorem dX7_readClause_131 : decode cX7_readClause 131 = .ok (.if_icmp .ne 9, 3) := by decide +kernel
theorem dX7_readClause_134 : decode cX7_readClause 134 = .ok (.aload_n 0, 1) := by decide +kernel
theorem dX7_readClause_135 : decode cX7_readClause 135 = .ok (.aload_n 1, 1) := by decide +kernel
theorem dX7_readClause_136 : decode cX7_readClause 136 = .ok (.invokevirtual 133, 3) := by decide +kernel
theorem dX7_readClause_139 : decode cX7_readClause 139 = .ok (.ireturn, 1) := by decide +kernel
theorem dX7_readClause_140 : decode cX7_readClause 140 = .ok (.aload_n 0, 1) := by decide +kernel
theorem dX7_readClause_141 : decode cX7_readClause 141 = .ok (.invokevirtual 63, 3) := by decide +kernel
theorem dX7_readClause_144 : decode cX7_readClause 144 = .ok (.bipush 44, 2) := by decide +kernel
theorem dX7_readClause_146 : decode cX7_readClause 146 = .ok (.if_icmp .eq 13, 3) := by decide +kernel
theorem dX7_readClause_149 : decode cX7_readClause 149 = .ok (.aload_n 0, 1) := by decide +kernel
theorem dX7_readClause_150 : decode cX7_readClause 150 = .ok (.iconst 1, 1) := by decide +kernel
theorem dX7_readClause_151 : decode cX7_readClause 151 = .ok (.aload_n 0, 1) := by decide +kernel
theorem dX7_readClause_152 : decode cX7_readClause 152 = .ok (.invokevirtual 122, 3) := by decide +kernel
theorem dX7_readClause_155 : decode cX7_readClause 155 = .ok (.invokevirtual 104, 3) := by decide +kernel
theorem dX7_readClause_158 : decode cX7_readClause 158 = .ok (.ireturn, 1) := by decide +kernel
theorem dX7_readClause_159 : decode cX7_readClause 159 = .ok (.iinc 2 1, 3) := by decide +kernel
theorem dX7_readClause_162 : decode cX7_readClause 162 = .ok (.goto (-75), 3) := by decide +kernel
theorem dX7_readClause_165 : decode cX7_readClause 165 = .ok (.aload_n 0, 1) := by decide +kernel
theorem dX7_readClause_166 : decode cX7_readClause 166 = .ok (.dup, 1) := by decide +kernel
theorem dX7_readClause_167 : decode cX7_readClause 167 = .ok (.getfield 48, 3) := by decide +kernel
theorem dX7_readClause_170 : decode cX7_readClause 170 = .ok (.iconst 1, 1) := by decide +kernel
theorem dX7_readClause_171 : decode cX7_readClause 171 = .ok (.iadd, 1) := by decide +kernel
theorem dX7_readClause_172 : decode cX7_readClause 172 = .ok (.putfield 48, 3) := by decide +kernel
theorem dX7_readClause_175 : decode cX7_readClause 175 = .ok (.aload_n 0, 1) := by decide +kernel
theorem dX7_readClause_176 : decode cX7_readClause 176 = .ok (.invokevirtual 63, 3) := by decide +kernel
theorem dX7_readClause_179 : decode cX7_readClause 179 = .ok (.iconst 2, 1) := by decide +kernel
theorem dX7_readClause_180 : decode cX7_readClause 180 = .ok (.if_icmp .eq 11, 3) := by decide +kernel
theorem dX7_readClause_183 : decode cX7_readClause 183 = .ok (.aload_n 0, 1) := by decide +kernel
theorem dX7_readClause_184 : decode cX7_readClause 184 = .ok (.invokevirtual 63, 3) := by decide +kernel
theorem dX7_readClause_187 : decode cX7_readClause 187 = .ok (.iconst 3, 1) := by decide +kernel
theorem dX7_readClause_188 : decode cX7_readClause 188 = .ok (.if_icmp .ne 7, 3) := by decide +kernel
theorem dX7_readClause_191 : decode cX7_readClause 191 = .ok (.iconst 1, 1) := by decide +kernel
theorem dX7_readClause_192 : decode cX7_readClause 192 = .ok (.goto 4, 3) := by decide +kernel
theorem dX7_readClause_195 : decode cX7_readClause 195 = .ok (.iconst 0, 1) := by decide +kernel
theorem dX7_readClause_196 : decode cX7_readClause 196 = .ok (.istore_n 2, 1) := by decide +kernel
theorem dX7_readClause_197 : decode cX7_readClause 197 = .ok (.aload_n 0, 1) := by decide +kernel
theorem dX7_readClause_198 : decode cX7_readClause 198 = .ok (.iload_n 2, 1) := by decide +kernel
theorem dX7_readClause_199 : decode cX7_readClause 199 = .ok (.ifCond .eq 7, 3) := by decide +kernel
theorem dX7_readClause_202 : decode cX7_readClause 202 = .ok (.iconst 4, 1) := by decide +kernel
theorem dX7_readClause_203 : decode cX7_readClause 203 = .ok (.goto 4, 3) := by decide +kernel
