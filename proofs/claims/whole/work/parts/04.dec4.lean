theorem dX14_hold_5 : decode cX14_hold 5 = .ok (.aload_n 1, 1) := by decide +kernel
theorem dX14_hold_6 : decode cX14_hold 6 = .ok (.getfield 199, 3) := by decide +kernel
theorem dX14_hold_9 : decode cX14_hold 9 = .ok (.if_icmp .gt 37, 3) := by decide +kernel
theorem dX14_hold_12 : decode cX14_hold 12 = .ok (.iload_n 2, 1) := by decide +kernel
theorem dX14_hold_13 : decode cX14_hold 13 = .ok (.ifCond .eq 25, 3) := by decide +kernel
theorem dX14_hold_16 : decode cX14_hold 16 = .ok (.aload_n 1, 1) := by decide +kernel
theorem dX14_hold_17 : decode cX14_hold 17 = .ok (.getfield 169, 3) := by decide +kernel
theorem dX14_hold_20 : decode cX14_hold 20 = .ok (.iload_n 3, 1) := by decide +kernel
theorem dX14_hold_21 : decode cX14_hold 21 = .ok (.iaload, 1) := by decide +kernel
theorem dX14_hold_22 : decode cX14_hold 22 = .ok (.ifCond .eq 12, 3) := by decide +kernel
theorem dX14_hold_25 : decode cX14_hold 25 = .ok (.aload_n 0, 1) := by decide +kernel
theorem dX14_hold_26 : decode cX14_hold 26 = .ok (.aload_n 1, 1) := by decide +kernel
theorem dX14_hold_27 : decode cX14_hold 27 = .ok (.iload_n 3, 1) := by decide +kernel
theorem dX14_hold_28 : decode cX14_hold 28 = .ok (.invokevirtual 280, 3) := by decide +kernel
theorem dX14_hold_31 : decode cX14_hold 31 = .ok (.ifCond .eq 7, 3) := by decide +kernel
theorem dX14_hold_34 : decode cX14_hold 34 = .ok (.iconst 1, 1) := by decide +kernel
theorem dX14_hold_35 : decode cX14_hold 35 = .ok (.goto 4, 3) := by decide +kernel
theorem dX14_hold_38 : decode cX14_hold 38 = .ok (.iconst 0, 1) := by decide +kernel
theorem dX14_hold_39 : decode cX14_hold 39 = .ok (.istore_n 2, 1) := by decide +kernel
theorem dX14_hold_40 : decode cX14_hold 40 = .ok (.iinc 3 1, 3) := by decide +kernel
theorem dX14_hold_43 : decode cX14_hold 43 = .ok (.goto (-39), 3) := by decide +kernel
theorem dX14_hold_46 : decode cX14_hold 46 = .ok (.iload_n 2, 1) := by decide +kernel
theorem dX14_hold_47 : decode cX14_hold 47 = .ok (.ireturn, 1) := by decide +kernel
theorem dX14_holds_0 : decode cX14_holds 0 = .ok (.aload_n 1, 1) := by decide +kernel
theorem dX14_holds_1 : decode cX14_holds 1 = .ok (.getfield 169, 3) := by decide +kernel
theorem dX14_holds_4 : decode cX14_holds 4 = .ok (.iload_n 2, 1) := by decide +kernel
theorem dX14_holds_5 : decode cX14_holds 5 = .ok (.iaload, 1) := by decide +kernel
theorem dX14_holds_6 : decode cX14_holds 6 = .ok (.iconst 2, 1) := by decide +kernel
theorem dX14_holds_7 : decode cX14_holds 7 = .ok (.if_icmp .ne 32, 3) := by decide +kernel
theorem dX14_holds_10 : decode cX14_holds 10 = .ok (.aload_n 0, 1) := by decide +kernel
theorem dX14_holds_11 : decode cX14_holds 11 = .ok (.aload_n 1, 1) := by decide +kernel
theorem dX14_holds_12 : decode cX14_holds 12 = .ok (.getfield 173, 3) := by decide +kernel
theorem dX14_holds_15 : decode cX14_holds 15 = .ok (.iload_n 2, 1) := by decide +kernel
theorem dX14_holds_16 : decode cX14_holds 16 = .ok (.iaload, 1) := by decide +kernel
theorem dX14_holds_17 : decode cX14_holds 17 = .ok (.invokevirtual 266, 3) := by decide +kernel
theorem dX14_holds_20 : decode cX14_holds 20 = .ok (.aload_n 0, 1) := by decide +kernel
theorem dX14_holds_21 : decode cX14_holds 21 = .ok (.aload_n 1, 1) := by decide +kernel
theorem dX14_holds_22 : decode cX14_holds 22 = .ok (.getfield 176, 3) := by decide +kernel
theorem dX14_holds_25 : decode cX14_holds 25 = .ok (.iload_n 2, 1) := by decide +kernel
theorem dX14_holds_26 : decode cX14_holds 26 = .ok (.iaload, 1) := by decide +kernel
theorem dX14_holds_27 : decode cX14_holds 27 = .ok (.invokevirtual 266, 3) := by decide +kernel
theorem dX14_holds_30 : decode cX14_holds 30 = .ok (.if_icmp .eq 7, 3) := by decide +kernel
theorem dX14_holds_33 : decode cX14_holds 33 = .ok (.iconst 1, 1) := by decide +kernel
theorem dX14_holds_34 : decode cX14_holds 34 = .ok (.goto 4, 3) := by decide +kernel
theorem dX14_holds_37 : decode cX14_holds 37 = .ok (.iconst 0, 1) := by decide +kernel
theorem dX14_holds_38 : decode cX14_holds 38 = .ok (.ireturn, 1) := by decide +kernel
theorem dX14_holds_39 : decode cX14_holds 39 = .ok (.aload_n 0, 1) := by decide +kernel
theorem dX14_holds_40 : decode cX14_holds 40 = .ok (.getfield 63, 3) := by decide +kernel
theorem dX14_holds_43 : decode cX14_holds 43 = .ok (.aload_n 0, 1) := by decide +kernel
theorem dX14_holds_44 : decode cX14_holds 44 = .ok (.aload_n 1, 1) := by decide +kernel
theorem dX14_holds_45 : decode cX14_holds 45 = .ok (.iload_n 2, 1) := by decide +kernel
theorem dX14_holds_46 : decode cX14_holds 46 = .ok (.invokevirtual 273, 3) := by decide +kernel
theorem dX14_holds_49 : decode cX14_holds 49 = .ok (.iaload, 1) := by decide +kernel
theorem dX14_holds_50 : decode cX14_holds 50 = .ok (.ldc 253, 2) := by decide +kernel
theorem dX14_holds_52 : decode cX14_holds 52 = .ok (.if_icmp .ge 7, 3) := by decide +kernel
theorem dX14_holds_55 : decode cX14_holds 55 = .ok (.iconst 1, 1) := by decide +kernel
theorem dX14_holds_56 : decode cX14_holds 56 = .ok (.goto 4, 3) := by decide +kernel
theorem dX14_holds_59 : decode cX14_holds 59 = .ok (.iconst 0, 1) := by decide +kernel
theorem dX14_holds_60 : decode cX14_holds 60 = .ok (.aload_n 1, 1) := by decide +kernel
theorem dX14_holds_61 : decode cX14_holds 61 = .ok (.getfield 169, 3) := by decide +kernel
theorem dX14_holds_64 : decode cX14_holds 64 = .ok (.iload_n 2, 1) := by decide +kernel
theorem dX14_holds_65 : decode cX14_holds 65 = .ok (.iaload, 1) := by decide +kernel
theorem dX14_holds_66 : decode cX14_holds 66 = .ok (.ifCond .ne 7, 3) := by decide +kernel
theorem dX14_holds_69 : decode cX14_holds 69 = .ok (.iconst 1, 1) := by decide +kernel
theorem dX14_holds_70 : decode cX14_holds 70 = .ok (.goto 4, 3) := by decide +kernel
theorem dX14_holds_73 : decode cX14_holds 73 = .ok (.iconst 0, 1) := by decide +kernel
theorem dX14_holds_74 : decode cX14_holds 74 = .ok (.if_icmp .ne 7, 3) := by decide +kernel
theorem dX14_holds_77 : decode cX14_holds 77 = .ok (.iconst 1, 1) := by decide +kernel
theorem dX14_holds_78 : decode cX14_holds 78 = .ok (.goto 4, 3) := by decide +kernel
theorem dX14_holds_81 : decode cX14_holds 81 = .ok (.iconst 0, 1) := by decide +kernel
theorem dX14_holds_82 : decode cX14_holds 82 = .ok (.ireturn, 1) := by decide +kernel
theorem dX14_follows_0 : decode cX14_follows 0 = .ok (.aload_n 0, 1) := by decide +kernel
theorem dX14_follows_1 : decode cX14_follows 1 = .ok (.iconst 0, 1) := by decide +kernel
theorem dX14_follows_2 : decode cX14_follows 2 = .ok (.putfield 84, 3) := by decide +kernel
theorem dX14_follows_5 : decode cX14_follows 5 = .ok (.aload_n 0, 1) := by decide +kernel
theorem dX14_follows_6 : decode cX14_follows 6 = .ok (.iload_n 1, 1) := by decide +kernel
theorem dX14_follows_7 : decode cX14_follows 7 = .ok (.invokevirtual 239, 3) := by decide +kernel
theorem dX14_follows_10 : decode cX14_follows 10 = .ok (.ifCond .ne 5, 3) := by decide +kernel
theorem dX14_follows_13 : decode cX14_follows 13 = .ok (.iconst (-1), 1) := by decide +kernel
theorem dX14_follows_14 : decode cX14_follows 14 = .ok (.ireturn, 1) := by decide +kernel
theorem dX14_follows_15 : decode cX14_follows 15 = .ok (.aload_n 0, 1) := by decide +kernel
theorem dX14_follows_16 : decode cX14_follows 16 = .ok (.iconst (-1), 1) := by decide +kernel
theorem dX14_follows_17 : decode cX14_follows 17 = .ok (.invokevirtual 284, 3) := by decide +kernel
theorem dX14_follows_20 : decode cX14_follows 20 = .ok (.aload_n 0, 1) := by decide +kernel
theorem dX14_follows_21 : decode cX14_follows 21 = .ok (.getfield 33, 3) := by decide +kernel
theorem dX14_follows_24 : decode cX14_follows 24 = .ok (.iload_n 1, 1) := by decide +kernel
theorem dX14_follows_25 : decode cX14_follows 25 = .ok (.baload, 1) := by decide +kernel
theorem dX14_follows_26 : decode cX14_follows 26 = .ok (.ifCond .eq 7, 3) := by decide +kernel
theorem dX14_follows_29 : decode cX14_follows 29 = .ok (.iconst 2, 1) := by decide +kernel
theorem dX14_follows_30 : decode cX14_follows 30 = .ok (.goto 19, 3) := by decide +kernel
theorem dX14_follows_33 : decode cX14_follows 33 = .ok (.aload_n 0, 1) := by decide +kernel
theorem dX14_follows_34 : decode cX14_follows 34 = .ok (.getfield 63, 3) := by decide +kernel
theorem dX14_follows_37 : decode cX14_follows 37 = .ok (.iload_n 1, 1) := by decide +kernel
theorem dX14_follows_38 : decode cX14_follows 38 = .ok (.iaload, 1) := by decide +kernel
theorem dX14_follows_39 : decode cX14_follows 39 = .ok (.ldc 253, 2) := by decide +kernel
theorem dX14_follows_41 : decode cX14_follows 41 = .ok (.if_icmp .ge 7, 3) := by decide +kernel
theorem dX14_follows_44 : decode cX14_follows 44 = .ok (.iconst 1, 1) := by decide +kernel
theorem dX14_follows_45 : decode cX14_follows 45 = .ok (.goto 4, 3) := by decide +kernel
theorem dX14_follows_48 : decode cX14_follows 48 = .ok (.iconst 0, 1) := by decide +kernel
theorem dX14_follows_49 : decode cX14_follows 49 = .ok (.ireturn, 1) := by decide +kernel
theorem dX14_oneOf_0 : decode cX14_oneOf 0 = .ok (.iconst 0, 1) := by decide +kernel
theorem dX14_oneOf_1 : decode cX14_oneOf 1 = .ok (.istore_n 3, 1) := by decide +kernel
theorem dX14_oneOf_2 : decode cX14_oneOf 2 = .ok (.bipush 100, 2) := by decide +kernel
theorem dX14_oneOf_4 : decode cX14_oneOf 4 = .ok (.iload_n 1, 1) := by decide +kernel
theorem dX14_oneOf_5 : decode cX14_oneOf 5 = .ok (.imul, 1) := by decide +kernel
theorem dX14_oneOf_6 : decode cX14_oneOf 6 = .ok (.istore 4, 2) := by decide +kernel
theorem dX14_oneOf_8 : decode cX14_oneOf 8 = .ok (.iload 4, 2) := by decide +kernel
theorem dX14_oneOf_10 : decode cX14_oneOf 10 = .ok (.bipush 100, 2) := by decide +kernel
theorem dX14_oneOf_12 : decode cX14_oneOf 12 = .ok (.iload_n 1, 1) := by decide +kernel
theorem dX14_oneOf_13 : decode cX14_oneOf 13 = .ok (.imul, 1) := by decide +kernel
theorem dX14_oneOf_14 : decode cX14_oneOf 14 = .ok (.bipush 100, 2) := by decide +kernel
theorem dX14_oneOf_16 : decode cX14_oneOf 16 = .ok (.iadd, 1) := by decide +kernel
theorem dX14_oneOf_17 : decode cX14_oneOf 17 = .ok (.if_icmp .ge 35, 3) := by decide +kernel
theorem dX14_oneOf_20 : decode cX14_oneOf 20 = .ok (.aload_n 0, 1) := by decide +kernel
theorem dX14_oneOf_21 : decode cX14_oneOf 21 = .ok (.getfield 63, 3) := by decide +kernel
theorem dX14_oneOf_24 : decode cX14_oneOf 24 = .ok (.iload 4, 2) := by decide +kernel
theorem dX14_oneOf_26 : decode cX14_oneOf 26 = .ok (.iaload, 1) := by decide +kernel
theorem dX14_oneOf_27 : decode cX14_oneOf 27 = .ok (.ldc 253, 2) := by decide +kernel
theorem dX14_oneOf_29 : decode cX14_oneOf 29 = .ok (.if_icmp .lt 6, 3) := by decide +kernel
theorem dX14_oneOf_32 : decode cX14_oneOf 32 = .ok (.goto 14, 3) := by decide +kernel
theorem dX14_oneOf_35 : decode cX14_oneOf 35 = .ok (.iload_n 3, 1) := by decide +kernel
theorem dX14_oneOf_36 : decode cX14_oneOf 36 = .ok (.iload_n 2, 1) := by decide +kernel
theorem dX14_oneOf_37 : decode cX14_oneOf 37 = .ok (.if_icmp .ne 6, 3) := by decide +kernel
theorem dX14_oneOf_40 : decode cX14_oneOf 40 = .ok (.iload 4, 2) := by decide +kernel
theorem dX14_oneOf_42 : decode cX14_oneOf 42 = .ok (.ireturn, 1) := by decide +kernel
theorem dX14_oneOf_43 : decode cX14_oneOf 43 = .ok (.iinc 3 1, 3) := by decide +kernel
theorem dX14_oneOf_46 : decode cX14_oneOf 46 = .ok (.iinc 4 1, 3) := by decide +kernel
theorem dX14_oneOf_49 : decode cX14_oneOf 49 = .ok (.goto (-41), 3) := by decide +kernel
theorem dX14_oneOf_52 : decode cX14_oneOf 52 = .ok (.iconst (-1), 1) := by decide +kernel
theorem dX14_oneOf_53 : decode cX14_oneOf 53 = .ok (.ireturn, 1) := by decide +kernel
theorem dX14_many_0 : decode cX14_many 0 = .ok (.aload_n 0, 1) := by decide +kernel
theorem dX14_many_1 : decode cX14_many 1 = .ok (.iconst 0, 1) := by decide +kernel
theorem dX14_many_2 : decode cX14_many 2 = .ok (.putfield 84, 3) := by decide +kernel
theorem dX14_many_5 : decode cX14_many 5 = .ok (.aload_n 0, 1) := by decide +kernel
theorem dX14_many_6 : decode cX14_many 6 = .ok (.iload_n 1, 1) := by decide +kernel
theorem dX14_many_7 : decode cX14_many 7 = .ok (.invokevirtual 232, 3) := by decide +kernel
theorem dX14_many_10 : decode cX14_many 10 = .ok (.ifCond .ne 5, 3) := by decide +kernel
theorem dX14_many_13 : decode cX14_many 13 = .ok (.iconst (-1), 1) := by decide +kernel
theorem dX14_many_14 : decode cX14_many 14 = .ok (.ireturn, 1) := by decide +kernel
theorem dX14_many_15 : decode cX14_many 15 = .ok (.aload_n 0, 1) := by decide +kernel
theorem dX14_many_16 : decode cX14_many 16 = .ok (.iconst (-1), 1) := by decide +kernel
theorem dX14_many_17 : decode cX14_many 17 = .ok (.invokevirtual 284, 3) := by decide +kernel
theorem dX14_many_20 : decode cX14_many 20 = .ok (.iconst 0, 1) := by decide +kernel
theorem dX14_many_21 : decode cX14_many 21 = .ok (.istore_n 2, 1) := by decide +kernel
theorem dX14_many_22 : decode cX14_many 22 = .ok (.aload_n 0, 1) := by decide +kernel
theorem dX14_many_23 : decode cX14_many 23 = .ok (.iload_n 1, 1) := by decide +kernel
theorem dX14_many_24 : decode cX14_many 24 = .ok (.iload_n 2, 1) := by decide +kernel
theorem dX14_many_25 : decode cX14_many 25 = .ok (.invokevirtual 288, 3) := by decide +kernel
theorem dX14_many_28 : decode cX14_many 28 = .ok (.iconst (-1), 1) := by decide +kernel
theorem dX14_many_29 : decode cX14_many 29 = .ok (.if_icmp .eq 9, 3) := by decide +kernel
theorem dX14_many_32 : decode cX14_many 32 = .ok (.iinc 2 1, 3) := by decide +kernel
theorem dX14_many_35 : decode cX14_many 35 = .ok (.goto (-13), 3) := by decide +kernel
theorem dX14_many_38 : decode cX14_many 38 = .ok (.iload_n 2, 1) := by decide +kernel
theorem dX14_many_39 : decode cX14_many 39 = .ok (.ireturn, 1) := by decide +kernel
theorem dX14_one_0 : decode cX14_one 0 = .ok (.aload_n 0, 1) := by decide +kernel
theorem dX14_one_1 : decode cX14_one 1 = .ok (.iconst 0, 1) := by decide +kernel
theorem dX14_one_2 : decode cX14_one 2 = .ok (.putfield 84, 3) := by decide +kernel
theorem dX14_one_5 : decode cX14_one 5 = .ok (.aload_n 0, 1) := by decide +kernel
theorem dX14_one_6 : decode cX14_one 6 = .ok (.iload_n 1, 1) := by decide +kernel
theorem dX14_one_7 : decode cX14_one 7 = .ok (.invokevirtual 232, 3) := by decide +kernel
theorem dX14_one_10 : decode cX14_one 10 = .ok (.ifCond .eq 7, 3) := by decide +kernel
theorem dX14_one_13 : decode cX14_one 13 = .ok (.iload_n 2, 1) := by decide +kernel
theorem dX14_one_14 : decode cX14_one 14 = .ok (.ifCond .ge 5, 3) := by decide +kernel
theorem dX14_one_17 : decode cX14_one 17 = .ok (.iconst (-1), 1) := by decide +kernel
theorem dX14_one_18 : decode cX14_one 18 = .ok (.ireturn, 1) := by decide +kernel
theorem dX14_one_19 : decode cX14_one 19 = .ok (.aload_n 0, 1) := by decide +kernel
theorem dX14_one_20 : decode cX14_one 20 = .ok (.iconst (-1), 1) := by decide +kernel
theorem dX14_one_21 : decode cX14_one 21 = .ok (.invokevirtual 284, 3) := by decide +kernel
theorem dX14_one_24 : decode cX14_one 24 = .ok (.aload_n 0, 1) := by decide +kernel
theorem dX14_one_25 : decode cX14_one 25 = .ok (.iload_n 1, 1) := by decide +kernel
theorem dX14_one_26 : decode cX14_one 26 = .ok (.iload_n 2, 1) := by decide +kernel
theorem dX14_one_27 : decode cX14_one 27 = .ok (.invokevirtual 288, 3) := by decide +kernel
theorem dX14_one_30 : decode cX14_one 30 = .ok (.ireturn, 1) := by decide +kernel
theorem dX14_steps_0 : decode cX14_steps 0 = .ok (.aload_n 0, 1) := by decide +kernel
theorem dX14_steps_1 : decode cX14_steps 1 = .ok (.iconst 0, 1) := by decide +kernel
theorem dX14_steps_2 : decode cX14_steps 2 = .ok (.putfield 84, 3) := by decide +kernel
theorem dX14_steps_5 : decode cX14_steps 5 = .ok (.aload_n 0, 1) := by decide +kernel
theorem dX14_steps_6 : decode cX14_steps 6 = .ok (.iload_n 1, 1) := by decide +kernel
theorem dX14_steps_7 : decode cX14_steps 7 = .ok (.invokevirtual 239, 3) := by decide +kernel
theorem dX14_steps_10 : decode cX14_steps 10 = .ok (.ifCond .ne 5, 3) := by decide +kernel
theorem dX14_steps_13 : decode cX14_steps 13 = .ok (.iconst (-1), 1) := by decide +kernel
theorem dX14_steps_14 : decode cX14_steps 14 = .ok (.ireturn, 1) := by decide +kernel
theorem dX14_steps_15 : decode cX14_steps 15 = .ok (.aload_n 0, 1) := by decide +kernel
theorem dX14_steps_16 : decode cX14_steps 16 = .ok (.iconst (-1), 1) := by decide +kernel
theorem dX14_steps_17 : decode cX14_steps 17 = .ok (.invokevirtual 284, 3) := by decide +kernel
theorem dX14_steps_20 : decode cX14_steps 20 = .ok (.aload_n 0, 1) := by decide +kernel
theorem dX14_steps_21 : decode cX14_steps 21 = .ok (.getfield 63, 3) := by decide +kernel
theorem dX14_steps_24 : decode cX14_steps 24 = .ok (.iload_n 1, 1) := by decide +kernel
theorem dX14_steps_25 : decode cX14_steps 25 = .ok (.iaload, 1) := by decide +kernel
theorem dX14_steps_26 : decode cX14_steps 26 = .ok (.ldc 253, 2) := by decide +kernel
theorem dX14_steps_28 : decode cX14_steps 28 = .ok (.if_icmp .ge 12, 3) := by decide +kernel
theorem dX14_steps_31 : decode cX14_steps 31 = .ok (.aload_n 0, 1) := by decide +kernel
theorem dX14_steps_32 : decode cX14_steps 32 = .ok (.getfield 63, 3) := by decide +kernel
theorem dX14_steps_35 : decode cX14_steps 35 = .ok (.iload_n 1, 1) := by decide +kernel
theorem dX14_steps_36 : decode cX14_steps 36 = .ok (.iaload, 1) := by decide +kernel
theorem dX14_steps_37 : decode cX14_steps 37 = .ok (.goto 5, 3) := by decide +kernel
theorem dX14_steps_40 : decode cX14_steps 40 = .ok (.bipush (-2), 2) := by decide +kernel
theorem dX14_steps_42 : decode cX14_steps 42 = .ok (.ireturn, 1) := by decide +kernel
theorem dX14_leads_0 : decode cX14_leads 0 = .ok (.aload_n 0, 1) := by decide +kernel
theorem dX14_leads_1 : decode cX14_leads 1 = .ok (.aload_n 1, 1) := by decide +kernel
theorem dX14_leads_2 : decode cX14_leads 2 = .ok (.iconst 0, 1) := by decide +kernel
theorem dX14_leads_3 : decode cX14_leads 3 = .ok (.invokevirtual 273, 3) := by decide +kernel
theorem dX14_leads_6 : decode cX14_leads 6 = .ok (.iload_n 2, 1) := by decide +kernel
theorem dX14_leads_7 : decode cX14_leads 7 = .ok (.if_icmp .eq 5, 3) := by decide +kernel
theorem dX14_leads_10 : decode cX14_leads 10 = .ok (.iconst 0, 1) := by decide +kernel
theorem dX14_leads_11 : decode cX14_leads 11 = .ok (.ireturn, 1) := by decide +kernel
theorem dX14_leads_12 : decode cX14_leads 12 = .ok (.iconst 0, 1) := by decide +kernel
theorem dX14_leads_13 : decode cX14_leads 13 = .ok (.istore 4, 2) := by decide +kernel
theorem dX14_leads_15 : decode cX14_leads 15 = .ok (.iconst 1, 1) := by decide +kernel
theorem dX14_leads_16 : decode cX14_leads 16 = .ok (.istore 5, 2) := by decide +kernel
theorem dX14_leads_18 : decode cX14_leads 18 = .ok (.iload 5, 2) := by decide +kernel
theorem dX14_leads_20 : decode cX14_leads 20 = .ok (.aload_n 1, 1) := by decide +kernel
theorem dX14_leads_21 : decode cX14_leads 21 = .ok (.getfield 199, 3) := by decide +kernel
theorem dX14_leads_24 : decode cX14_leads 24 = .ok (.if_icmp .gt 50, 3) := by decide +kernel
theorem dX14_leads_27 : decode cX14_leads 27 = .ok (.aload_n 0, 1) := by decide +kernel
theorem dX14_leads_28 : decode cX14_leads 28 = .ok (.aload_n 1, 1) := by decide +kernel
theorem dX14_leads_29 : decode cX14_leads 29 = .ok (.iload 5, 2) := by decide +kernel
theorem dX14_leads_31 : decode cX14_leads 31 = .ok (.invokevirtual 280, 3) := by decide +kernel
theorem dX14_leads_34 : decode cX14_leads 34 = .ok (.ifCond .ne 5, 3) := by decide +kernel
theorem dX14_leads_37 : decode cX14_leads 37 = .ok (.iconst 0, 1) := by decide +kernel
theorem dX14_leads_38 : decode cX14_leads 38 = .ok (.ireturn, 1) := by decide +kernel
theorem dX14_leads_39 : decode cX14_leads 39 = .ok (.aload_n 1, 1) := by decide +kernel
theorem dX14_leads_40 : decode cX14_leads 40 = .ok (.getfield 169, 3) := by decide +kernel
theorem dX14_leads_43 : decode cX14_leads 43 = .ok (.iload 5, 2) := by decide +kernel
theorem dX14_leads_45 : decode cX14_leads 45 = .ok (.iaload, 1) := by decide +kernel
theorem dX14_leads_46 : decode cX14_leads 46 = .ok (.ifCond .ne 22, 3) := by decide +kernel
theorem dX14_leads_49 : decode cX14_leads 49 = .ok (.iload 4, 2) := by decide +kernel
theorem dX14_leads_51 : decode cX14_leads 51 = .ok (.aload_n 0, 1) := by decide +kernel
theorem dX14_leads_52 : decode cX14_leads 52 = .ok (.getfield 63, 3) := by decide +kernel
theorem dX14_leads_55 : decode cX14_leads 55 = .ok (.aload_n 0, 1) := by decide +kernel
theorem dX14_leads_56 : decode cX14_leads 56 = .ok (.aload_n 1, 1) := by decide +kernel
theorem dX14_leads_57 : decode cX14_leads 57 = .ok (.iload 5, 2) := by decide +kernel
theorem dX14_leads_59 : decode cX14_leads 59 = .ok (.invokevirtual 273, 3) := by decide +kernel
theorem dX14_leads_62 : decode cX14_leads 62 = .ok (.iaload, 1) := by decide +kernel
theorem dX14_leads_63 : decode cX14_leads 63 = .ok (.invokestatic 205, 3) := by decide +kernel
theorem dX14_leads_66 : decode cX14_leads 66 = .ok (.istore 4, 2) := by decide +kernel
theorem dX14_leads_68 : decode cX14_leads 68 = .ok (.iinc 5 1, 3) := by decide +kernel
theorem dX14_leads_71 : decode cX14_leads 71 = .ok (.goto (-53), 3) := by decide +kernel
theorem dX14_leads_74 : decode cX14_leads 74 = .ok (.iload 4, 2) := by decide +kernel
theorem dX14_leads_76 : decode cX14_leads 76 = .ok (.iconst 1, 1) := by decide +kernel
theorem dX14_leads_77 : decode cX14_leads 77 = .ok (.iadd, 1) := by decide +kernel
theorem dX14_leads_78 : decode cX14_leads 78 = .ok (.iload_n 3, 1) := by decide +kernel
theorem dX14_leads_79 : decode cX14_leads 79 = .ok (.if_icmp .ne 7, 3) := by decide +kernel
theorem dX14_leads_82 : decode cX14_leads 82 = .ok (.iconst 1, 1) := by decide +kernel
theorem dX14_leads_83 : decode cX14_leads 83 = .ok (.goto 4, 3) := by decide +kernel
theorem dX14_leads_86 : decode cX14_leads 86 = .ok (.iconst 0, 1) := by decide +kernel
theorem dX14_leads_87 : decode cX14_leads 87 = .ok (.ireturn, 1) := by decide +kernel
theorem dX14_ways_0 : decode cX14_ways 0 = .ok (.iconst 1, 1) := by decide +kernel
theorem dX14_ways_1 : decode cX14_ways 1 = .ok (.istore_n 2, 1) := by decide +kernel
theorem dX14_ways_2 : decode cX14_ways 2 = .ok (.iconst 0, 1) := by decide +kernel
theorem dX14_ways_3 : decode cX14_ways 3 = .ok (.istore_n 3, 1) := by decide +kernel
theorem dX14_ways_4 : decode cX14_ways 4 = .ok (.iload_n 3, 1) := by decide +kernel
theorem dX14_ways_5 : decode cX14_ways 5 = .ok (.aload_n 1, 1) := by decide +kernel
theorem dX14_ways_6 : decode cX14_ways 6 = .ok (.getfield 153, 3) := by decide +kernel
theorem dX14_ways_9 : decode cX14_ways 9 = .ok (.if_icmp .ge 16, 3) := by decide +kernel
theorem dX14_ways_12 : decode cX14_ways 12 = .ok (.iload_n 2, 1) := by decide +kernel
theorem dX14_ways_13 : decode cX14_ways 13 = .ok (.aload_n 0, 1) := by decide +kernel
theorem dX14_ways_14 : decode cX14_ways 14 = .ok (.getfield 96, 3) := by decide +kernel
theorem dX14_ways_17 : decode cX14_ways 17 = .ok (.imul, 1) := by decide +kernel
theorem dX14_ways_18 : decode cX14_ways 18 = .ok (.istore_n 2, 1) := by decide +kernel
theorem dX14_ways_19 : decode cX14_ways 19 = .ok (.iinc 3 1, 3) := by decide +kernel
theorem dX14_ways_22 : decode cX14_ways 22 = .ok (.goto (-18), 3) := by decide +kernel
theorem dX14_ways_25 : decode cX14_ways 25 = .ok (.iload_n 2, 1) := by decide +kernel
theorem dX14_ways_26 : decode cX14_ways 26 = .ok (.ireturn, 1) := by decide +kernel
theorem dX14_gives_0 : decode cX14_gives 0 = .ok (.iload_n 2, 1) := by decide +kernel
theorem dX14_gives_1 : decode cX14_gives 1 = .ok (.istore_n 3, 1) := by decide +kernel
theorem dX14_gives_2 : decode cX14_gives 2 = .ok (.aload_n 1, 1) := by decide +kernel
theorem dX14_gives_3 : decode cX14_gives 3 = .ok (.getfield 153, 3) := by decide +kernel
theorem dX14_gives_6 : decode cX14_gives 6 = .ok (.iconst 1, 1) := by decide +kernel
theorem dX14_gives_7 : decode cX14_gives 7 = .ok (.isub, 1) := by decide +kernel
theorem dX14_gives_8 : decode cX14_gives 8 = .ok (.istore 4, 2) := by decide +kernel
theorem dX14_gives_10 : decode cX14_gives 10 = .ok (.iload 4, 2) := by decide +kernel
theorem dX14_gives_12 : decode cX14_gives 12 = .ok (.ifCond .lt 29, 3) := by decide +kernel
theorem dX14_gives_15 : decode cX14_gives 15 = .ok (.aload_n 0, 1) := by decide +kernel
theorem dX14_gives_16 : decode cX14_gives 16 = .ok (.getfield 66, 3) := by decide +kernel
theorem dX14_gives_19 : decode cX14_gives 19 = .ok (.iload 4, 2) := by decide +kernel
theorem dX14_gives_21 : decode cX14_gives 21 = .ok (.iload_n 3, 1) := by decide +kernel
theorem dX14_gives_22 : decode cX14_gives 22 = .ok (.aload_n 0, 1) := by decide +kernel
theorem dX14_gives_23 : decode cX14_gives 23 = .ok (.getfield 96, 3) := by decide +kernel
theorem dX14_gives_26 : decode cX14_gives 26 = .ok (.irem, 1) := by decide +kernel
theorem dX14_gives_27 : decode cX14_gives 27 = .ok (.iastore, 1) := by decide +kernel
theorem dX14_gives_28 : decode cX14_gives 28 = .ok (.iload_n 3, 1) := by decide +kernel
theorem dX14_gives_29 : decode cX14_gives 29 = .ok (.aload_n 0, 1) := by decide +kernel
theorem dX14_gives_30 : decode cX14_gives 30 = .ok (.getfield 96, 3) := by decide +kernel
theorem dX14_gives_33 : decode cX14_gives 33 = .ok (.idiv, 1) := by decide +kernel
theorem dX14_gives_34 : decode cX14_gives 34 = .ok (.istore_n 3, 1) := by decide +kernel
theorem dX14_gives_35 : decode cX14_gives 35 = .ok (.iinc 4 (-1), 3) := by decide +kernel
theorem dX14_gives_38 : decode cX14_gives 38 = .ok (.goto (-28), 3) := by decide +kernel
theorem dX14_gives_41 : decode cX14_gives 41 = .ok (.return_, 1) := by decide +kernel
theorem dX14_why_0 : decode cX14_why 0 = .ok (.aload_n 0, 1) := by decide +kernel
theorem dX14_why_1 : decode cX14_why 1 = .ok (.iconst 0, 1) := by decide +kernel
theorem dX14_why_2 : decode cX14_why 2 = .ok (.putfield 84, 3) := by decide +kernel
theorem dX14_why_5 : decode cX14_why 5 = .ok (.aload_n 0, 1) := by decide +kernel
theorem dX14_why_6 : decode cX14_why 6 = .ok (.iload_n 1, 1) := by decide +kernel
theorem dX14_why_7 : decode cX14_why 7 = .ok (.invokevirtual 239, 3) := by decide +kernel
theorem dX14_why_10 : decode cX14_why 10 = .ok (.ifCond .ne 9, 3) := by decide +kernel
theorem dX14_why_13 : decode cX14_why 13 = .ok (.aload_n 0, 1) := by decide +kernel
theorem dX14_why_14 : decode cX14_why 14 = .ok (.iconst 1, 1) := by decide +kernel
theorem dX14_why_15 : decode cX14_why 15 = .ok (.invokevirtual 214, 3) := by decide +kernel
theorem dX14_why_18 : decode cX14_why 18 = .ok (.ireturn, 1) := by decide +kernel
theorem dX14_why_19 : decode cX14_why 19 = .ok (.aload_n 0, 1) := by decide +kernel
theorem dX14_why_20 : decode cX14_why 20 = .ok (.iconst (-1), 1) := by decide +kernel
theorem dX14_why_21 : decode cX14_why 21 = .ok (.invokevirtual 284, 3) := by decide +kernel
theorem dX14_why_24 : decode cX14_why 24 = .ok (.aload_n 0, 1) := by decide +kernel
theorem dX14_why_25 : decode cX14_why 25 = .ok (.getfield 63, 3) := by decide +kernel
theorem dX14_why_28 : decode cX14_why 28 = .ok (.iload_n 1, 1) := by decide +kernel
theorem dX14_why_29 : decode cX14_why 29 = .ok (.iaload, 1) := by decide +kernel
theorem dX14_why_30 : decode cX14_why 30 = .ok (.ldc 253, 2) := by decide +kernel
theorem dX14_why_32 : decode cX14_why 32 = .ok (.if_icmp .lt 9, 3) := by decide +kernel
theorem dX14_why_35 : decode cX14_why 35 = .ok (.aload_n 0, 1) := by decide +kernel
theorem dX14_why_36 : decode cX14_why 36 = .ok (.iconst 5, 1) := by decide +kernel
theorem dX14_why_37 : decode cX14_why 37 = .ok (.invokevirtual 214, 3) := by decide +kernel
theorem dX14_why_40 : decode cX14_why 40 = .ok (.ireturn, 1) := by decide +kernel
theorem dX14_why_41 : decode cX14_why 41 = .ok (.aload_n 0, 1) := by decide +kernel
theorem dX14_why_42 : decode cX14_why 42 = .ok (.getfield 33, 3) := by decide +kernel
theorem dX14_why_45 : decode cX14_why 45 = .ok (.iload_n 1, 1) := by decide +kernel
theorem dX14_why_46 : decode cX14_why 46 = .ok (.baload, 1) := by decide +kernel
theorem dX14_why_47 : decode cX14_why 47 = .ok (.ifCond .eq 10, 3) := by decide +kernel
theorem dX14_why_50 : decode cX14_why 50 = .ok (.aload_n 0, 1) := by decide +kernel
theorem dX14_why_51 : decode cX14_why 51 = .ok (.bipush (-2), 2) := by decide +kernel
theorem dX14_why_53 : decode cX14_why 53 = .ok (.invokevirtual 229, 3) := by decide +kernel
theorem dX14_why_56 : decode cX14_why 56 = .ok (.ireturn, 1) := by decide +kernel
theorem dX14_why_57 : decode cX14_why 57 = .ok (.iconst 0, 1) := by decide +kernel
theorem dX14_why_58 : decode cX14_why 58 = .ok (.istore_n 2, 1) := by decide +kernel
theorem dX14_why_59 : decode cX14_why 59 = .ok (.iload_n 2, 1) := by decide +kernel
theorem dX14_why_60 : decode cX14_why 60 = .ok (.aload_n 0, 1) := by decide +kernel
theorem dX14_why_61 : decode cX14_why 61 = .ok (.getfield 93, 3) := by decide +kernel
theorem dX14_why_64 : decode cX14_why 64 = .ok (.if_icmp .ge 172, 3) := by decide +kernel
theorem dX14_why_67 : decode cX14_why 67 = .ok (.aload_n 0, 1) := by decide +kernel
theorem dX14_why_68 : decode cX14_why 68 = .ok (.getfield 42, 3) := by decide +kernel
theorem dX14_why_71 : decode cX14_why 71 = .ok (.iload_n 2, 1) := by decide +kernel
theorem dX14_why_72 : decode cX14_why 72 = .ok (.aaload, 1) := by decide +kernel
theorem dX14_why_73 : decode cX14_why 73 = .ok (.getfield 171, 3) := by decide +kernel
theorem dX14_why_76 : decode cX14_why 76 = .ok (.iconst 0, 1) := by decide +kernel
theorem dX14_why_77 : decode cX14_why 77 = .ok (.iaload, 1) := by decide +kernel
theorem dX14_why_78 : decode cX14_why 78 = .ok (.iload_n 1, 1) := by decide +kernel
theorem dX14_why_79 : decode cX14_why 79 = .ok (.bipush 100, 2) := by decide +kernel
theorem dX14_why_81 : decode cX14_why 81 = .ok (.idiv, 1) := by decide +kernel
theorem dX14_why_82 : decode cX14_why 82 = .ok (.if_icmp .eq 6, 3) := by decide +kernel
theorem dX14_why_85 : decode cX14_why 85 = .ok (.goto 145, 3) := by decide +kernel
theorem dX14_why_88 : decode cX14_why 88 = .ok (.aload_n 0, 1) := by decide +kernel
theorem dX14_why_89 : decode cX14_why 89 = .ok (.aload_n 0, 1) := by decide +kernel
theorem dX14_why_90 : decode cX14_why 90 = .ok (.getfield 42, 3) := by decide +kernel
theorem dX14_why_93 : decode cX14_why 93 = .ok (.iload_n 2, 1) := by decide +kernel
theorem dX14_why_94 : decode cX14_why 94 = .ok (.aaload, 1) := by decide +kernel
theorem dX14_why_95 : decode cX14_why 95 = .ok (.invokevirtual 291, 3) := by decide +kernel
theorem dX14_why_98 : decode cX14_why 98 = .ok (.istore_n 3, 1) := by decide +kernel
theorem dX14_why_99 : decode cX14_why 99 = .ok (.iconst 0, 1) := by decide +kernel
theorem dX14_why_100 : decode cX14_why 100 = .ok (.istore 4, 2) := by decide +kernel
theorem dX14_why_102 : decode cX14_why 102 = .ok (.iload 4, 2) := by decide +kernel
theorem dX14_why_104 : decode cX14_why 104 = .ok (.iload_n 3, 1) := by decide +kernel
theorem dX14_why_105 : decode cX14_why 105 = .ok (.if_icmp .ge 125, 3) := by decide +kernel
theorem dX14_why_108 : decode cX14_why 108 = .ok (.aload_n 0, 1) := by decide +kernel
theorem dX14_why_109 : decode cX14_why 109 = .ok (.aload_n 0, 1) := by decide +kernel
theorem dX14_why_110 : decode cX14_why 110 = .ok (.getfield 42, 3) := by decide +kernel
theorem dX14_why_113 : decode cX14_why 113 = .ok (.iload_n 2, 1) := by decide +kernel
theorem dX14_why_114 : decode cX14_why 114 = .ok (.aaload, 1) := by decide +kernel
theorem dX14_why_115 : decode cX14_why 115 = .ok (.iload 4, 2) := by decide +kernel
theorem dX14_why_117 : decode cX14_why 117 = .ok (.invokevirtual 295, 3) := by decide +kernel
theorem dX14_why_120 : decode cX14_why 120 = .ok (.aload_n 0, 1) := by decide +kernel
theorem dX14_why_121 : decode cX14_why 121 = .ok (.aload_n 0, 1) := by decide +kernel
theorem dX14_why_122 : decode cX14_why 122 = .ok (.getfield 42, 3) := by decide +kernel
theorem dX14_why_125 : decode cX14_why 125 = .ok (.iload_n 2, 1) := by decide +kernel
theorem dX14_why_126 : decode cX14_why 126 = .ok (.aaload, 1) := by decide +kernel
theorem dX14_why_127 : decode cX14_why 127 = .ok (.iload_n 1, 1) := by decide +kernel
theorem dX14_why_128 : decode cX14_why 128 = .ok (.aload_n 0, 1) := by decide +kernel
theorem dX14_why_129 : decode cX14_why 129 = .ok (.getfield 63, 3) := by decide +kernel
theorem dX14_why_132 : decode cX14_why 132 = .ok (.iload_n 1, 1) := by decide +kernel
theorem dX14_why_133 : decode cX14_why 133 = .ok (.iaload, 1) := by decide +kernel
theorem dX14_why_134 : decode cX14_why 134 = .ok (.invokevirtual 299, 3) := by decide +kernel
theorem dX14_why_137 : decode cX14_why 137 = .ok (.ifCond .ne 6, 3) := by decide +kernel
theorem dX14_why_140 : decode cX14_why 140 = .ok (.goto 84, 3) := by decide +kernel
theorem dX14_why_143 : decode cX14_why 143 = .ok (.aload_n 0, 1) := by decide +kernel
theorem dX14_why_144 : decode cX14_why 144 = .ok (.aload_n 0, 1) := by decide +kernel
theorem dX14_why_145 : decode cX14_why 145 = .ok (.getfield 42, 3) := by decide +kernel
theorem dX14_why_148 : decode cX14_why 148 = .ok (.iload_n 2, 1) := by decide +kernel
theorem dX14_why_149 : decode cX14_why 149 = .ok (.aaload, 1) := by decide +kernel
theorem dX14_why_150 : decode cX14_why 150 = .ok (.getfield 199, 3) := by decide +kernel
theorem dX14_why_153 : decode cX14_why 153 = .ok (.putfield 303, 3) := by decide +kernel
theorem dX14_why_156 : decode cX14_why 156 = .ok (.iconst 0, 1) := by decide +kernel
theorem dX14_why_157 : decode cX14_why 157 = .ok (.istore 5, 2) := by decide +kernel
theorem dX14_why_159 : decode cX14_why 159 = .ok (.iload 5, 2) := by decide +kernel
theorem dX14_why_161 : decode cX14_why 161 = .ok (.aload_n 0, 1) := by decide +kernel
theorem dX14_why_162 : decode cX14_why 162 = .ok (.getfield 303, 3) := by decide +kernel
theorem dX14_why_165 : decode cX14_why 165 = .ok (.if_icmp .ge 53, 3) := by decide +kernel
theorem dX14_why_168 : decode cX14_why 168 = .ok (.aload_n 0, 1) := by decide +kernel
theorem dX14_why_169 : decode cX14_why 169 = .ok (.getfield 69, 3) := by decide +kernel
theorem dX14_why_172 : decode cX14_why 172 = .ok (.iload 5, 2) := by decide +kernel
theorem dX14_why_174 : decode cX14_why 174 = .ok (.aload_n 0, 1) := by decide +kernel
theorem dX14_why_175 : decode cX14_why 175 = .ok (.getfield 42, 3) := by decide +kernel
theorem dX14_why_178 : decode cX14_why 178 = .ok (.iload_n 2, 1) := by decide +kernel
theorem dX14_why_179 : decode cX14_why 179 = .ok (.aaload, 1) := by decide +kernel
theorem dX14_why_180 : decode cX14_why 180 = .ok (.getfield 169, 3) := by decide +kernel
theorem dX14_why_183 : decode cX14_why 183 = .ok (.iload 5, 2) := by decide +kernel
theorem dX14_why_185 : decode cX14_why 185 = .ok (.iconst 1, 1) := by decide +kernel
theorem dX14_why_186 : decode cX14_why 186 = .ok (.iadd, 1) := by decide +kernel
theorem dX14_why_187 : decode cX14_why 187 = .ok (.iaload, 1) := by decide +kernel
theorem dX14_why_188 : decode cX14_why 188 = .ok (.iconst 2, 1) := by decide +kernel
theorem dX14_why_189 : decode cX14_why 189 = .ok (.if_icmp .ne 8, 3) := by decide +kernel
theorem dX14_why_192 : decode cX14_why 192 = .ok (.bipush (-2), 2) := by decide +kernel
theorem dX14_why_194 : decode cX14_why 194 = .ok (.goto 17, 3) := by decide +kernel
theorem dX14_why_197 : decode cX14_why 197 = .ok (.aload_n 0, 1) := by decide +kernel
theorem dX14_why_198 : decode cX14_why 198 = .ok (.aload_n 0, 1) := by decide +kernel
theorem dX14_why_199 : decode cX14_why 199 = .ok (.getfield 42, 3) := by decide +kernel
theorem dX14_why_202 : decode cX14_why 202 = .ok (.iload_n 2, 1) := by decide +kernel
theorem dX14_why_203 : decode cX14_why 203 = .ok (.aaload, 1) := by decide +kernel
theorem dX14_why_204 : decode cX14_why 204 = .ok (.iload 5, 2) := by decide +kernel
theorem dX14_why_206 : decode cX14_why 206 = .ok (.iconst 1, 1) := by decide +kernel
theorem dX14_why_207 : decode cX14_why 207 = .ok (.iadd, 1) := by decide +kernel
theorem dX14_why_208 : decode cX14_why 208 = .ok (.invokevirtual 273, 3) := by decide +kernel
theorem dX14_why_211 : decode cX14_why 211 = .ok (.iastore, 1) := by decide +kernel
theorem dX14_why_212 : decode cX14_why 212 = .ok (.iinc 5 1, 3) := by decide +kernel
theorem dX14_why_215 : decode cX14_why 215 = .ok (.goto (-56), 3) := by decide +kernel
theorem dX14_why_218 : decode cX14_why 218 = .ok (.aload_n 0, 1) := by decide +kernel
theorem dX14_why_219 : decode cX14_why 219 = .ok (.iload_n 2, 1) := by decide +kernel
theorem dX14_why_220 : decode cX14_why 220 = .ok (.invokevirtual 229, 3) := by decide +kernel
theorem dX14_why_223 : decode cX14_why 223 = .ok (.ireturn, 1) := by decide +kernel
theorem dX14_why_224 : decode cX14_why 224 = .ok (.iinc 4 1, 3) := by decide +kernel
theorem dX14_why_227 : decode cX14_why 227 = .ok (.goto (-125), 3) := by decide +kernel
theorem dX14_why_230 : decode cX14_why 230 = .ok (.iinc 2 1, 3) := by decide +kernel
theorem dX14_why_233 : decode cX14_why 233 = .ok (.goto (-174), 3) := by decide +kernel
theorem dX14_why_236 : decode cX14_why 236 = .ok (.aload_n 0, 1) := by decide +kernel
theorem dX14_why_237 : decode cX14_why 237 = .ok (.iconst 5, 1) := by decide +kernel
theorem dX14_why_238 : decode cX14_why 238 = .ok (.invokevirtual 214, 3) := by decide +kernel
theorem dX14_why_241 : decode cX14_why 241 = .ok (.ireturn, 1) := by decide +kernel
theorem dX14_because_0 : decode cX14_because 0 = .ok (.aload_n 0, 1) := by decide +kernel
theorem dX14_because_1 : decode cX14_because 1 = .ok (.iconst 0, 1) := by decide +kernel
theorem dX14_because_2 : decode cX14_because 2 = .ok (.putfield 84, 3) := by decide +kernel
theorem dX14_because_5 : decode cX14_because 5 = .ok (.iload_n 1, 1) := by decide +kernel
theorem dX14_because_6 : decode cX14_because 6 = .ok (.ifCond .lt 20, 3) := by decide +kernel
theorem dX14_because_9 : decode cX14_because 9 = .ok (.iload_n 1, 1) := by decide +kernel
theorem dX14_because_10 : decode cX14_because 10 = .ok (.aload_n 0, 1) := by decide +kernel
theorem dX14_because_11 : decode cX14_because 11 = .ok (.getfield 303, 3) := by decide +kernel
theorem dX14_because_14 : decode cX14_because 14 = .ok (.if_icmp .ge 12, 3) := by decide +kernel
theorem dX14_because_17 : decode cX14_because 17 = .ok (.aload_n 0, 1) := by decide +kernel
theorem dX14_because_18 : decode cX14_because 18 = .ok (.getfield 69, 3) := by decide +kernel
theorem dX14_because_21 : decode cX14_because 21 = .ok (.iload_n 1, 1) := by decide +kernel
theorem dX14_because_22 : decode cX14_because 22 = .ok (.iaload, 1) := by decide +kernel
theorem dX14_because_23 : decode cX14_because 23 = .ok (.goto 4, 3) := by decide +kernel
theorem dX14_because_26 : decode cX14_because 26 = .ok (.iconst (-1), 1) := by decide +kernel
theorem dX14_because_27 : decode cX14_because 27 = .ok (.ireturn, 1) := by decide +kernel
theorem dX14_comes_0 : decode cX14_comes 0 = .ok (.aload_n 0, 1) := by decide +kernel
theorem dX14_comes_1 : decode cX14_comes 1 = .ok (.iconst 0, 1) := by decide +kernel
theorem dX14_comes_2 : decode cX14_comes 2 = .ok (.putfield 84, 3) := by decide +kernel
theorem dX14_comes_5 : decode cX14_comes 5 = .ok (.aload_n 0, 1) := by decide +kernel
theorem dX14_comes_6 : decode cX14_comes 6 = .ok (.iload_n 1, 1) := by decide +kernel
theorem dX14_comes_7 : decode cX14_comes 7 = .ok (.invokevirtual 244, 3) := by decide +kernel
theorem dX14_comes_10 : decode cX14_comes 10 = .ok (.ifCond .eq 29, 3) := by decide +kernel
theorem dX14_comes_13 : decode cX14_comes 13 = .ok (.aload_n 0, 1) := by decide +kernel
theorem dX14_comes_14 : decode cX14_comes 14 = .ok (.iload_n 2, 1) := by decide +kernel
theorem dX14_comes_15 : decode cX14_comes 15 = .ok (.invokevirtual 239, 3) := by decide +kernel
theorem dX14_comes_18 : decode cX14_comes 18 = .ok (.ifCond .eq 21, 3) := by decide +kernel
theorem dX14_comes_21 : decode cX14_comes 21 = .ok (.aload_n 0, 1) := by decide +kernel
theorem dX14_comes_22 : decode cX14_comes 22 = .ok (.getfield 42, 3) := by decide +kernel
theorem dX14_comes_25 : decode cX14_comes 25 = .ok (.iload_n 1, 1) := by decide +kernel
theorem dX14_comes_26 : decode cX14_comes 26 = .ok (.aaload, 1) := by decide +kernel
theorem dX14_comes_27 : decode cX14_comes 27 = .ok (.getfield 171, 3) := by decide +kernel
theorem dX14_comes_30 : decode cX14_comes 30 = .ok (.iconst 0, 1) := by decide +kernel
theorem dX14_comes_31 : decode cX14_comes 31 = .ok (.iaload, 1) := by decide +kernel
theorem dX14_comes_32 : decode cX14_comes 32 = .ok (.iload_n 2, 1) := by decide +kernel
theorem dX14_comes_33 : decode cX14_comes 33 = .ok (.bipush 100, 2) := by decide +kernel
theorem dX14_comes_35 : decode cX14_comes 35 = .ok (.idiv, 1) := by decide +kernel
theorem dX14_comes_36 : decode cX14_comes 36 = .ok (.if_icmp .eq 9, 3) := by decide +kernel
theorem dX14_comes_39 : decode cX14_comes 39 = .ok (.aload_n 0, 1) := by decide +kernel
theorem dX14_comes_40 : decode cX14_comes 40 = .ok (.iconst 1, 1) := by decide +kernel
theorem dX14_comes_41 : decode cX14_comes 41 = .ok (.invokevirtual 214, 3) := by decide +kernel
theorem dX14_comes_44 : decode cX14_comes 44 = .ok (.ireturn, 1) := by decide +kernel
theorem dX14_comes_45 : decode cX14_comes 45 = .ok (.aload_n 0, 1) := by decide +kernel
theorem dX14_comes_46 : decode cX14_comes 46 = .ok (.iconst (-1), 1) := by decide +kernel
theorem dX14_comes_47 : decode cX14_comes 47 = .ok (.invokevirtual 284, 3) := by decide +kernel
theorem dX14_comes_50 : decode cX14_comes 50 = .ok (.aload_n 0, 1) := by decide +kernel
theorem dX14_comes_51 : decode cX14_comes 51 = .ok (.getfield 42, 3) := by decide +kernel
theorem dX14_comes_54 : decode cX14_comes 54 = .ok (.iload_n 1, 1) := by decide +kernel
theorem dX14_comes_55 : decode cX14_comes 55 = .ok (.aaload, 1) := by decide +kernel
theorem dX14_comes_56 : decode cX14_comes 56 = .ok (.astore_n 3, 1) := by decide +kernel
theorem dX14_comes_57 : decode cX14_comes 57 = .ok (.bipush (-2), 2) := by decide +kernel
theorem dX14_comes_59 : decode cX14_comes 59 = .ok (.istore 4, 2) := by decide +kernel
theorem dX14_comes_61 : decode cX14_comes 61 = .ok (.aload_n 0, 1) := by decide +kernel
theorem dX14_comes_62 : decode cX14_comes 62 = .ok (.aload_n 3, 1) := by decide +kernel
theorem dX14_comes_63 : decode cX14_comes 63 = .ok (.invokevirtual 291, 3) := by decide +kernel
theorem dX14_comes_66 : decode cX14_comes 66 = .ok (.istore 5, 2) := by decide +kernel
theorem dX14_comes_68 : decode cX14_comes 68 = .ok (.iconst 0, 1) := by decide +kernel
theorem dX14_comes_69 : decode cX14_comes 69 = .ok (.istore 6, 2) := by decide +kernel
theorem dX14_comes_71 : decode cX14_comes 71 = .ok (.iload 6, 2) := by decide +kernel
theorem dX14_comes_73 : decode cX14_comes 73 = .ok (.aload_n 3, 1) := by decide +kernel
theorem dX14_comes_74 : decode cX14_comes 74 = .ok (.getfield 199, 3) := by decide +kernel
theorem dX14_comes_77 : decode cX14_comes 77 = .ok (.if_icmp .ge 49, 3) := by decide +kernel
theorem dX14_comes_80 : decode cX14_comes 80 = .ok (.aload_n 3, 1) := by decide +kernel
theorem dX14_comes_81 : decode cX14_comes 81 = .ok (.getfield 173, 3) := by decide +kernel
theorem dX14_comes_84 : decode cX14_comes 84 = .ok (.iload 6, 2) := by decide +kernel
theorem dX14_comes_86 : decode cX14_comes 86 = .ok (.iconst 1, 1) := by decide +kernel
theorem dX14_comes_87 : decode cX14_comes 87 = .ok (.iadd, 1) := by decide +kernel
theorem dX14_comes_88 : decode cX14_comes 88 = .ok (.iaload, 1) := by decide +kernel
theorem dX14_comes_89 : decode cX14_comes 89 = .ok (.bipush 100, 2) := by decide +kernel
theorem dX14_comes_91 : decode cX14_comes 91 = .ok (.if_icmp .ge 35, 3) := by decide +kernel
theorem dX14_comes_94 : decode cX14_comes 94 = .ok (.aload_n 3, 1) := by decide +kernel
theorem dX14_comes_95 : decode cX14_comes 95 = .ok (.getfield 176, 3) := by decide +kernel
theorem dX14_comes_98 : decode cX14_comes 98 = .ok (.iload 6, 2) := by decide +kernel
theorem dX14_comes_100 : decode cX14_comes 100 = .ok (.iconst 1, 1) := by decide +kernel
theorem dX14_comes_101 : decode cX14_comes 101 = .ok (.iadd, 1) := by decide +kernel
theorem dX14_comes_102 : decode cX14_comes 102 = .ok (.iaload, 1) := by decide +kernel
theorem dX14_comes_103 : decode cX14_comes 103 = .ok (.bipush 100, 2) := by decide +kernel
theorem dX14_comes_105 : decode cX14_comes 105 = .ok (.if_icmp .ge 21, 3) := by decide +kernel
theorem dX14_comes_108 : decode cX14_comes 108 = .ok (.aload_n 0, 1) := by decide +kernel
theorem dX14_comes_109 : decode cX14_comes 109 = .ok (.aload_n 3, 1) := by decide +kernel
theorem dX14_comes_110 : decode cX14_comes 110 = .ok (.iload 6, 2) := by decide +kernel
theorem dX14_comes_112 : decode cX14_comes 112 = .ok (.iconst 1, 1) := by decide +kernel
theorem dX14_comes_113 : decode cX14_comes 113 = .ok (.iadd, 1) := by decide +kernel
theorem dX14_comes_114 : decode cX14_comes 114 = .ok (.invokevirtual 280, 3) := by decide +kernel
theorem dX14_comes_117 : decode cX14_comes 117 = .ok (.ifCond .eq 9, 3) := by decide +kernel
theorem dX14_comes_120 : decode cX14_comes 120 = .ok (.iinc 6 1, 3) := by decide +kernel
theorem dX14_comes_123 : decode cX14_comes 123 = .ok (.goto (-52), 3) := by decide +kernel
theorem dX14_comes_126 : decode cX14_comes 126 = .ok (.iload 5, 2) := by decide +kernel
theorem dX14_comes_128 : decode cX14_comes 128 = .ok (.ifCond .ne 7, 3) := by decide +kernel
theorem dX14_comes_131 : decode cX14_comes 131 = .ok (.iload 6, 2) := by decide +kernel
theorem dX14_comes_133 : decode cX14_comes 133 = .ok (.istore 4, 2) := by decide +kernel
theorem dX14_comes_135 : decode cX14_comes 135 = .ok (.iconst 0, 1) := by decide +kernel
theorem dX14_comes_136 : decode cX14_comes 136 = .ok (.istore 7, 2) := by decide +kernel
theorem dX14_comes_138 : decode cX14_comes 138 = .ok (.iload 7, 2) := by decide +kernel
theorem dX14_comes_140 : decode cX14_comes 140 = .ok (.iload 5, 2) := by decide +kernel
theorem dX14_comes_142 : decode cX14_comes 142 = .ok (.if_icmp .ge 68, 3) := by decide +kernel
theorem dX14_comes_145 : decode cX14_comes 145 = .ok (.aload_n 0, 1) := by decide +kernel
theorem dX14_comes_146 : decode cX14_comes 146 = .ok (.aload_n 3, 1) := by decide +kernel
theorem dX14_comes_147 : decode cX14_comes 147 = .ok (.iload 7, 2) := by decide +kernel
theorem dX14_comes_149 : decode cX14_comes 149 = .ok (.invokevirtual 295, 3) := by decide +kernel
theorem dX14_comes_152 : decode cX14_comes 152 = .ok (.aload_n 0, 1) := by decide +kernel
theorem dX14_comes_153 : decode cX14_comes 153 = .ok (.aload_n 3, 1) := by decide +kernel
theorem dX14_comes_154 : decode cX14_comes 154 = .ok (.iconst 0, 1) := by decide +kernel
theorem dX14_comes_155 : decode cX14_comes 155 = .ok (.invokevirtual 273, 3) := by decide +kernel
theorem dX14_comes_158 : decode cX14_comes 158 = .ok (.iload_n 2, 1) := by decide +kernel
theorem dX14_comes_159 : decode cX14_comes 159 = .ok (.if_icmp .eq 6, 3) := by decide +kernel
theorem dX14_comes_162 : decode cX14_comes 162 = .ok (.goto 42, 3) := by decide +kernel
theorem dX14_comes_165 : decode cX14_comes 165 = .ok (.iconst 0, 1) := by decide +kernel
theorem dX14_comes_166 : decode cX14_comes 166 = .ok (.istore 8, 2) := by decide +kernel
theorem dX14_comes_168 : decode cX14_comes 168 = .ok (.iload 8, 2) := by decide +kernel
theorem dX14_comes_170 : decode cX14_comes 170 = .ok (.aload_n 3, 1) := by decide +kernel
theorem dX14_comes_171 : decode cX14_comes 171 = .ok (.getfield 199, 3) := by decide +kernel
theorem dX14_comes_174 : decode cX14_comes 174 = .ok (.if_icmp .ge 21, 3) := by decide +kernel
theorem dX14_comes_177 : decode cX14_comes 177 = .ok (.aload_n 0, 1) := by decide +kernel
theorem dX14_comes_178 : decode cX14_comes 178 = .ok (.aload_n 3, 1) := by decide +kernel
theorem dX14_comes_179 : decode cX14_comes 179 = .ok (.iload 8, 2) := by decide +kernel
theorem dX14_comes_181 : decode cX14_comes 181 = .ok (.iconst 1, 1) := by decide +kernel
theorem dX14_comes_182 : decode cX14_comes 182 = .ok (.iadd, 1) := by decide +kernel
theorem dX14_comes_183 : decode cX14_comes 183 = .ok (.invokevirtual 280, 3) := by decide +kernel
theorem dX14_comes_186 : decode cX14_comes 186 = .ok (.ifCond .eq 9, 3) := by decide +kernel
theorem dX14_comes_189 : decode cX14_comes 189 = .ok (.iinc 8 1, 3) := by decide +kernel
theorem dX14_comes_192 : decode cX14_comes 192 = .ok (.goto (-24), 3) := by decide +kernel
theorem dX14_comes_195 : decode cX14_comes 195 = .ok (.iload 4, 2) := by decide +kernel
theorem dX14_comes_197 : decode cX14_comes 197 = .ok (.iload 8, 2) := by decide +kernel
theorem dX14_comes_199 : decode cX14_comes 199 = .ok (.invokestatic 205, 3) := by decide +kernel
theorem dX14_comes_202 : decode cX14_comes 202 = .ok (.istore 4, 2) := by decide +kernel
theorem dX14_comes_204 : decode cX14_comes 204 = .ok (.iinc 7 1, 3) := by decide +kernel
theorem dX14_comes_207 : decode cX14_comes 207 = .ok (.goto (-69), 3) := by decide +kernel
theorem dX14_comes_210 : decode cX14_comes 210 = .ok (.aload_n 0, 1) := by decide +kernel
theorem dX14_comes_211 : decode cX14_comes 211 = .ok (.iload 4, 2) := by decide +kernel
theorem dX14_comes_213 : decode cX14_comes 213 = .ok (.invokevirtual 229, 3) := by decide +kernel
theorem dX14_comes_216 : decode cX14_comes 216 = .ok (.ireturn, 1) := by decide +kernel
theorem dX14_isIdle_0 : decode cX14_isIdle 0 = .ok (.aload_n 0, 1) := by decide +kernel
theorem dX14_isIdle_1 : decode cX14_isIdle 1 = .ok (.iconst (-1), 1) := by decide +kernel
theorem dX14_isIdle_2 : decode cX14_isIdle 2 = .ok (.invokevirtual 284, 3) := by decide +kernel
theorem dX14_isIdle_5 : decode cX14_isIdle 5 = .ok (.aload_n 0, 1) := by decide +kernel
theorem dX14_isIdle_6 : decode cX14_isIdle 6 = .ok (.aload_n 1, 1) := by decide +kernel
theorem dX14_isIdle_7 : decode cX14_isIdle 7 = .ok (.invokevirtual 291, 3) := by decide +kernel
theorem dX14_isIdle_10 : decode cX14_isIdle 10 = .ok (.istore_n 2, 1) := by decide +kernel
theorem dX14_isIdle_11 : decode cX14_isIdle 11 = .ok (.iconst 0, 1) := by decide +kernel
theorem dX14_isIdle_12 : decode cX14_isIdle 12 = .ok (.istore_n 3, 1) := by decide +kernel
theorem dX14_isIdle_13 : decode cX14_isIdle 13 = .ok (.iload_n 3, 1) := by decide +kernel
theorem dX14_isIdle_14 : decode cX14_isIdle 14 = .ok (.iload_n 2, 1) := by decide +kernel
theorem dX14_isIdle_15 : decode cX14_isIdle 15 = .ok (.if_icmp .ge 56, 3) := by decide +kernel
theorem dX14_isIdle_18 : decode cX14_isIdle 18 = .ok (.aload_n 0, 1) := by decide +kernel
theorem dX14_isIdle_19 : decode cX14_isIdle 19 = .ok (.aload_n 1, 1) := by decide +kernel
theorem dX14_isIdle_20 : decode cX14_isIdle 20 = .ok (.iload_n 3, 1) := by decide +kernel
theorem dX14_isIdle_21 : decode cX14_isIdle 21 = .ok (.invokevirtual 295, 3) := by decide +kernel
theorem dX14_isIdle_24 : decode cX14_isIdle 24 = .ok (.iconst 0, 1) := by decide +kernel
theorem dX14_isIdle_25 : decode cX14_isIdle 25 = .ok (.istore 4, 2) := by decide +kernel
theorem dX14_isIdle_27 : decode cX14_isIdle 27 = .ok (.iload 4, 2) := by decide +kernel
theorem dX14_isIdle_29 : decode cX14_isIdle 29 = .ok (.aload_n 1, 1) := by decide +kernel
theorem dX14_isIdle_30 : decode cX14_isIdle 30 = .ok (.getfield 199, 3) := by decide +kernel
theorem dX14_isIdle_33 : decode cX14_isIdle 33 = .ok (.if_icmp .ge 21, 3) := by decide +kernel
theorem dX14_isIdle_36 : decode cX14_isIdle 36 = .ok (.aload_n 0, 1) := by decide +kernel
theorem dX14_isIdle_37 : decode cX14_isIdle 37 = .ok (.aload_n 1, 1) := by decide +kernel
theorem dX14_isIdle_38 : decode cX14_isIdle 38 = .ok (.iload 4, 2) := by decide +kernel
theorem dX14_isIdle_40 : decode cX14_isIdle 40 = .ok (.iconst 1, 1) := by decide +kernel
theorem dX14_isIdle_41 : decode cX14_isIdle 41 = .ok (.iadd, 1) := by decide +kernel
theorem dX14_isIdle_42 : decode cX14_isIdle 42 = .ok (.invokevirtual 280, 3) := by decide +kernel
theorem dX14_isIdle_45 : decode cX14_isIdle 45 = .ok (.ifCond .eq 9, 3) := by decide +kernel
theorem dX14_isIdle_48 : decode cX14_isIdle 48 = .ok (.iinc 4 1, 3) := by decide +kernel
theorem dX14_isIdle_51 : decode cX14_isIdle 51 = .ok (.goto (-24), 3) := by decide +kernel
theorem dX14_isIdle_54 : decode cX14_isIdle 54 = .ok (.iload 4, 2) := by decide +kernel
theorem dX14_isIdle_56 : decode cX14_isIdle 56 = .ok (.aload_n 1, 1) := by decide +kernel
theorem dX14_isIdle_57 : decode cX14_isIdle 57 = .ok (.getfield 199, 3) := by decide +kernel
theorem dX14_isIdle_60 : decode cX14_isIdle 60 = .ok (.if_icmp .ne 5, 3) := by decide +kernel
theorem dX14_isIdle_63 : decode cX14_isIdle 63 = .ok (.iconst 0, 1) := by decide +kernel
theorem dX14_isIdle_64 : decode cX14_isIdle 64 = .ok (.ireturn, 1) := by decide +kernel
theorem dX14_isIdle_65 : decode cX14_isIdle 65 = .ok (.iinc 3 1, 3) := by decide +kernel
theorem dX14_isIdle_68 : decode cX14_isIdle 68 = .ok (.goto (-55), 3) := by decide +kernel
theorem dX14_isIdle_71 : decode cX14_isIdle 71 = .ok (.iconst 1, 1) := by decide +kernel
theorem dX14_isIdle_72 : decode cX14_isIdle 72 = .ok (.ireturn, 1) := by decide +kernel
theorem dX14_remembers_0 : decode cX14_remembers 0 = .ok (.iconst 0, 1) := by decide +kernel
theorem dX14_remembers_1 : decode cX14_remembers 1 = .ok (.istore_n 1, 1) := by decide +kernel
theorem dX14_remembers_2 : decode cX14_remembers 2 = .ok (.iload_n 1, 1) := by decide +kernel
theorem dX14_remembers_3 : decode cX14_remembers 3 = .ok (.sipush 1000, 3) := by decide +kernel
theorem dX14_remembers_6 : decode cX14_remembers 6 = .ok (.if_icmp .ge 31, 3) := by decide +kernel
theorem dX14_remembers_9 : decode cX14_remembers 9 = .ok (.aload_n 0, 1) := by decide +kernel
theorem dX14_remembers_10 : decode cX14_remembers 10 = .ok (.getfield 72, 3) := by decide +kernel
theorem dX14_remembers_13 : decode cX14_remembers 13 = .ok (.iload_n 1, 1) := by decide +kernel
theorem dX14_remembers_14 : decode cX14_remembers 14 = .ok (.aload_n 0, 1) := by decide +kernel
theorem dX14_remembers_15 : decode cX14_remembers 15 = .ok (.getfield 63, 3) := by decide +kernel
theorem dX14_remembers_18 : decode cX14_remembers 18 = .ok (.iload_n 1, 1) := by decide +kernel
theorem dX14_remembers_19 : decode cX14_remembers 19 = .ok (.iaload, 1) := by decide +kernel
theorem dX14_remembers_20 : decode cX14_remembers 20 = .ok (.ldc 253, 2) := by decide +kernel
theorem dX14_remembers_22 : decode cX14_remembers 22 = .ok (.if_icmp .ge 7, 3) := by decide +kernel
theorem dX14_remembers_25 : decode cX14_remembers 25 = .ok (.iconst 1, 1) := by decide +kernel
theorem dX14_remembers_26 : decode cX14_remembers 26 = .ok (.goto 4, 3) := by decide +kernel
theorem dX14_remembers_29 : decode cX14_remembers 29 = .ok (.iconst 0, 1) := by decide +kernel
theorem dX14_remembers_30 : decode cX14_remembers 30 = .ok (.bastore, 1) := by decide +kernel
theorem dX14_remembers_31 : decode cX14_remembers 31 = .ok (.iinc 1 1, 3) := by decide +kernel
theorem dX14_remembers_34 : decode cX14_remembers 34 = .ok (.goto (-32), 3) := by decide +kernel
theorem dX14_remembers_37 : decode cX14_remembers 37 = .ok (.return_, 1) := by decide +kernel
theorem dX14_isSpare_0 : decode cX14_isSpare 0 = .ok (.aload_n 0, 1) := by decide +kernel
theorem dX14_isSpare_1 : decode cX14_isSpare 1 = .ok (.iconst (-1), 1) := by decide +kernel
theorem dX14_isSpare_2 : decode cX14_isSpare 2 = .ok (.invokevirtual 284, 3) := by decide +kernel
theorem dX14_isSpare_5 : decode cX14_isSpare 5 = .ok (.aload_n 0, 1) := by decide +kernel
theorem dX14_isSpare_6 : decode cX14_isSpare 6 = .ok (.invokevirtual 306, 3) := by decide +kernel
theorem dX14_isSpare_9 : decode cX14_isSpare 9 = .ok (.aload_n 0, 1) := by decide +kernel
theorem dX14_isSpare_10 : decode cX14_isSpare 10 = .ok (.iload_n 1, 1) := by decide +kernel
theorem dX14_isSpare_11 : decode cX14_isSpare 11 = .ok (.invokevirtual 284, 3) := by decide +kernel
theorem dX14_isSpare_14 : decode cX14_isSpare 14 = .ok (.iconst 1, 1) := by decide +kernel
theorem dX14_isSpare_15 : decode cX14_isSpare 15 = .ok (.istore_n 2, 1) := by decide +kernel
theorem dX14_isSpare_16 : decode cX14_isSpare 16 = .ok (.iconst 0, 1) := by decide +kernel
theorem dX14_isSpare_17 : decode cX14_isSpare 17 = .ok (.istore_n 3, 1) := by decide +kernel
theorem dX14_isSpare_18 : decode cX14_isSpare 18 = .ok (.iload_n 3, 1) := by decide +kernel
theorem dX14_isSpare_19 : decode cX14_isSpare 19 = .ok (.sipush 1000, 3) := by decide +kernel
theorem dX14_isSpare_22 : decode cX14_isSpare 22 = .ok (.if_icmp .ge 44, 3) := by decide +kernel
theorem dX14_isSpare_25 : decode cX14_isSpare 25 = .ok (.iload_n 2, 1) := by decide +kernel
theorem dX14_isSpare_26 : decode cX14_isSpare 26 = .ok (.ifCond .eq 32, 3) := by decide +kernel
theorem dX14_isSpare_29 : decode cX14_isSpare 29 = .ok (.aload_n 0, 1) := by decide +kernel
theorem dX14_isSpare_30 : decode cX14_isSpare 30 = .ok (.getfield 72, 3) := by decide +kernel
theorem dX14_isSpare_33 : decode cX14_isSpare 33 = .ok (.iload_n 3, 1) := by decide +kernel
theorem dX14_isSpare_34 : decode cX14_isSpare 34 = .ok (.baload, 1) := by decide +kernel
theorem dX14_isSpare_35 : decode cX14_isSpare 35 = .ok (.aload_n 0, 1) := by decide +kernel
theorem dX14_isSpare_36 : decode cX14_isSpare 36 = .ok (.getfield 63, 3) := by decide +kernel
theorem dX14_isSpare_39 : decode cX14_isSpare 39 = .ok (.iload_n 3, 1) := by decide +kernel
theorem dX14_isSpare_40 : decode cX14_isSpare 40 = .ok (.iaload, 1) := by decide +kernel
theorem dX14_isSpare_41 : decode cX14_isSpare 41 = .ok (.ldc 253, 2) := by decide +kernel
theorem dX14_isSpare_43 : decode cX14_isSpare 43 = .ok (.if_icmp .ge 7, 3) := by decide +kernel
theorem dX14_isSpare_46 : decode cX14_isSpare 46 = .ok (.iconst 1, 1) := by decide +kernel
theorem dX14_isSpare_47 : decode cX14_isSpare 47 = .ok (.goto 4, 3) := by decide +kernel
theorem dX14_isSpare_50 : decode cX14_isSpare 50 = .ok (.iconst 0, 1) := by decide +kernel
theorem dX14_isSpare_51 : decode cX14_isSpare 51 = .ok (.if_icmp .ne 7, 3) := by decide +kernel
theorem dX14_isSpare_54 : decode cX14_isSpare 54 = .ok (.iconst 1, 1) := by decide +kernel
theorem dX14_isSpare_55 : decode cX14_isSpare 55 = .ok (.goto 4, 3) := by decide +kernel
theorem dX14_isSpare_58 : decode cX14_isSpare 58 = .ok (.iconst 0, 1) := by decide +kernel
theorem dX14_isSpare_59 : decode cX14_isSpare 59 = .ok (.istore_n 2, 1) := by decide +kernel
theorem dX14_isSpare_60 : decode cX14_isSpare 60 = .ok (.iinc 3 1, 3) := by decide +kernel
theorem dX14_isSpare_63 : decode cX14_isSpare 63 = .ok (.goto (-45), 3) := by decide +kernel
theorem dX14_isSpare_66 : decode cX14_isSpare 66 = .ok (.iload_n 2, 1) := by decide +kernel
theorem dX14_isSpare_67 : decode cX14_isSpare 67 = .ok (.ireturn, 1) := by decide +kernel
theorem dX14_rule_0 : decode cX14_rule 0 = .ok (.aload_n 0, 1) := by decide +kernel
theorem dX14_rule_1 : decode cX14_rule 1 = .ok (.iconst 0, 1) := by decide +kernel
theorem dX14_rule_2 : decode cX14_rule 2 = .ok (.putfield 84, 3) := by decide +kernel
theorem dX14_rule_5 : decode cX14_rule 5 = .ok (.aload_n 0, 1) := by decide +kernel
theorem dX14_rule_6 : decode cX14_rule 6 = .ok (.iload_n 1, 1) := by decide +kernel
theorem dX14_rule_7 : decode cX14_rule 7 = .ok (.invokevirtual 244, 3) := by decide +kernel
theorem dX14_rule_10 : decode cX14_rule 10 = .ok (.ifCond .ne 5, 3) := by decide +kernel
theorem dX14_rule_13 : decode cX14_rule 13 = .ok (.iconst (-1), 1) := by decide +kernel
theorem dX14_rule_14 : decode cX14_rule 14 = .ok (.ireturn, 1) := by decide +kernel
theorem dX14_rule_15 : decode cX14_rule 15 = .ok (.iload_n 2, 1) := by decide +kernel
theorem dX14_rule_16 : decode cX14_rule 16 = .ok (.tableswitch 101 0 4 #[36, 48, 58, 68, 87], 36) := by decide +kernel
theorem dX14_rule_52 : decode cX14_rule 52 = .ok (.aload_n 0, 1) := by decide +kernel
theorem dX14_rule_53 : decode cX14_rule 53 = .ok (.getfield 42, 3) := by decide +kernel
theorem dX14_rule_56 : decode cX14_rule 56 = .ok (.iload_n 1, 1) := by decide +kernel
theorem dX14_rule_57 : decode cX14_rule 57 = .ok (.aaload, 1) := by decide +kernel
theorem dX14_rule_58 : decode cX14_rule 58 = .ok (.getfield 171, 3) := by decide +kernel
theorem dX14_rule_61 : decode cX14_rule 61 = .ok (.iconst 0, 1) := by decide +kernel
theorem dX14_rule_62 : decode cX14_rule 62 = .ok (.iaload, 1) := by decide +kernel
theorem dX14_rule_63 : decode cX14_rule 63 = .ok (.ireturn, 1) := by decide +kernel
theorem dX14_rule_64 : decode cX14_rule 64 = .ok (.aload_n 0, 1) := by decide +kernel
theorem dX14_rule_65 : decode cX14_rule 65 = .ok (.getfield 42, 3) := by decide +kernel
theorem dX14_rule_68 : decode cX14_rule 68 = .ok (.iload_n 1, 1) := by decide +kernel
theorem dX14_rule_69 : decode cX14_rule 69 = .ok (.aaload, 1) := by decide +kernel
theorem dX14_rule_70 : decode cX14_rule 70 = .ok (.getfield 199, 3) := by decide +kernel
theorem dX14_rule_73 : decode cX14_rule 73 = .ok (.ireturn, 1) := by decide +kernel
theorem dX14_rule_74 : decode cX14_rule 74 = .ok (.aload_n 0, 1) := by decide +kernel
theorem dX14_rule_75 : decode cX14_rule 75 = .ok (.getfield 42, 3) := by decide +kernel
theorem dX14_rule_78 : decode cX14_rule 78 = .ok (.iload_n 1, 1) := by decide +kernel
theorem dX14_rule_79 : decode cX14_rule 79 = .ok (.aaload, 1) := by decide +kernel
theorem dX14_rule_80 : decode cX14_rule 80 = .ok (.getfield 153, 3) := by decide +kernel
theorem dX14_rule_83 : decode cX14_rule 83 = .ok (.ireturn, 1) := by decide +kernel
theorem dX14_rule_84 : decode cX14_rule 84 = .ok (.aload_n 0, 1) := by decide +kernel
theorem dX14_rule_85 : decode cX14_rule 85 = .ok (.aload_n 0, 1) := by decide +kernel
theorem dX14_rule_86 : decode cX14_rule 86 = .ok (.getfield 42, 3) := by decide +kernel
theorem dX14_rule_89 : decode cX14_rule 89 = .ok (.iload_n 1, 1) := by decide +kernel
theorem dX14_rule_90 : decode cX14_rule 90 = .ok (.aaload, 1) := by decide +kernel
theorem dX14_rule_91 : decode cX14_rule 91 = .ok (.invokevirtual 309, 3) := by decide +kernel
theorem dX14_rule_94 : decode cX14_rule 94 = .ok (.ifCond .eq 7, 3) := by decide +kernel
theorem dX14_rule_97 : decode cX14_rule 97 = .ok (.iconst 1, 1) := by decide +kernel
theorem dX14_rule_98 : decode cX14_rule 98 = .ok (.goto 4, 3) := by decide +kernel
theorem dX14_rule_101 : decode cX14_rule 101 = .ok (.iconst 0, 1) := by decide +kernel
theorem dX14_rule_102 : decode cX14_rule 102 = .ok (.ireturn, 1) := by decide +kernel
theorem dX14_rule_103 : decode cX14_rule 103 = .ok (.aload_n 0, 1) := by decide +kernel
theorem dX14_rule_104 : decode cX14_rule 104 = .ok (.iload_n 1, 1) := by decide +kernel
theorem dX14_rule_105 : decode cX14_rule 105 = .ok (.invokevirtual 312, 3) := by decide +kernel
theorem dX14_rule_108 : decode cX14_rule 108 = .ok (.ifCond .eq 7, 3) := by decide +kernel
theorem dX14_rule_111 : decode cX14_rule 111 = .ok (.iconst 1, 1) := by decide +kernel
theorem dX14_rule_112 : decode cX14_rule 112 = .ok (.goto 4, 3) := by decide +kernel
theorem dX14_rule_115 : decode cX14_rule 115 = .ok (.iconst 0, 1) := by decide +kernel
theorem dX14_rule_116 : decode cX14_rule 116 = .ok (.ireturn, 1) := by decide +kernel
theorem dX14_rule_117 : decode cX14_rule 117 = .ok (.iconst (-1), 1) := by decide +kernel
theorem dX14_rule_118 : decode cX14_rule 118 = .ok (.ireturn, 1) := by decide +kernel
theorem dX14_term_0 : decode cX14_term 0 = .ok (.aload_n 0, 1) := by decide +kernel
theorem dX14_term_1 : decode cX14_term 1 = .ok (.iconst 0, 1) := by decide +kernel
theorem dX14_term_2 : decode cX14_term 2 = .ok (.putfield 84, 3) := by decide +kernel
theorem dX14_term_5 : decode cX14_term 5 = .ok (.aload_n 0, 1) := by decide +kernel
theorem dX14_term_6 : decode cX14_term 6 = .ok (.iload_n 1, 1) := by decide +kernel
theorem dX14_term_7 : decode cX14_term 7 = .ok (.invokevirtual 244, 3) := by decide +kernel
theorem dX14_term_10 : decode cX14_term 10 = .ok (.ifCond .eq 20, 3) := by decide +kernel
theorem dX14_term_13 : decode cX14_term 13 = .ok (.iload_n 2, 1) := by decide +kernel
theorem dX14_term_14 : decode cX14_term 14 = .ok (.ifCond .lt 16, 3) := by decide +kernel
theorem dX14_term_17 : decode cX14_term 17 = .ok (.iload_n 2, 1) := by decide +kernel
theorem dX14_term_18 : decode cX14_term 18 = .ok (.aload_n 0, 1) := by decide +kernel
theorem dX14_term_19 : decode cX14_term 19 = .ok (.getfield 42, 3) := by decide +kernel
theorem dX14_term_22 : decode cX14_term 22 = .ok (.iload_n 1, 1) := by decide +kernel
theorem dX14_term_23 : decode cX14_term 23 = .ok (.aaload, 1) := by decide +kernel
theorem dX14_term_24 : decode cX14_term 24 = .ok (.getfield 199, 3) := by decide +kernel
theorem dX14_term_27 : decode cX14_term 27 = .ok (.if_icmp .lt 5, 3) := by decide +kernel
theorem dX14_term_30 : decode cX14_term 30 = .ok (.iconst (-1), 1) := by decide +kernel
theorem dX14_term_31 : decode cX14_term 31 = .ok (.ireturn, 1) := by decide +kernel
theorem dX14_term_32 : decode cX14_term 32 = .ok (.aload_n 0, 1) := by decide +kernel
theorem dX14_term_33 : decode cX14_term 33 = .ok (.getfield 42, 3) := by decide +kernel
theorem dX14_term_36 : decode cX14_term 36 = .ok (.iload_n 1, 1) := by decide +kernel
theorem dX14_term_37 : decode cX14_term 37 = .ok (.aaload, 1) := by decide +kernel
theorem dX14_term_38 : decode cX14_term 38 = .ok (.astore 4, 2) := by decide +kernel
theorem dX14_term_40 : decode cX14_term 40 = .ok (.iload_n 3, 1) := by decide +kernel
theorem dX14_term_41 : decode cX14_term 41 = .ok (.tableswitch 71 0 3 #[31, 41, 51, 61], 31) := by decide +kernel
theorem dX14_term_72 : decode cX14_term 72 = .ok (.aload 4, 2) := by decide +kernel
theorem dX14_term_74 : decode cX14_term 74 = .ok (.getfield 169, 3) := by decide +kernel
theorem dX14_term_77 : decode cX14_term 77 = .ok (.iload_n 2, 1) := by decide +kernel
theorem dX14_term_78 : decode cX14_term 78 = .ok (.iconst 1, 1) := by decide +kernel
theorem dX14_term_79 : decode cX14_term 79 = .ok (.iadd, 1) := by decide +kernel
theorem dX14_term_80 : decode cX14_term 80 = .ok (.iaload, 1) := by decide +kernel
theorem dX14_term_81 : decode cX14_term 81 = .ok (.ireturn, 1) := by decide +kernel
theorem dX14_term_82 : decode cX14_term 82 = .ok (.aload 4, 2) := by decide +kernel
theorem dX14_term_84 : decode cX14_term 84 = .ok (.getfield 171, 3) := by decide +kernel
theorem dX14_term_87 : decode cX14_term 87 = .ok (.iload_n 2, 1) := by decide +kernel
theorem dX14_term_88 : decode cX14_term 88 = .ok (.iconst 1, 1) := by decide +kernel
theorem dX14_term_89 : decode cX14_term 89 = .ok (.iadd, 1) := by decide +kernel
theorem dX14_term_90 : decode cX14_term 90 = .ok (.iaload, 1) := by decide +kernel
theorem dX14_term_91 : decode cX14_term 91 = .ok (.ireturn, 1) := by decide +kernel
theorem dX14_term_92 : decode cX14_term 92 = .ok (.aload 4, 2) := by decide +kernel
theorem dX14_term_94 : decode cX14_term 94 = .ok (.getfield 173, 3) := by decide +kernel
theorem dX14_term_97 : decode cX14_term 97 = .ok (.iload_n 2, 1) := by decide +kernel
theorem dX14_term_98 : decode cX14_term 98 = .ok (.iconst 1, 1) := by decide +kernel
theorem dX14_term_99 : decode cX14_term 99 = .ok (.iadd, 1) := by decide +kernel
theorem dX14_term_100 : decode cX14_term 100 = .ok (.iaload, 1) := by decide +kernel
theorem dX14_term_101 : decode cX14_term 101 = .ok (.ireturn, 1) := by decide +kernel
theorem dX14_term_102 : decode cX14_term 102 = .ok (.aload 4, 2) := by decide +kernel
theorem dX14_term_104 : decode cX14_term 104 = .ok (.getfield 176, 3) := by decide +kernel
theorem dX14_term_107 : decode cX14_term 107 = .ok (.iload_n 2, 1) := by decide +kernel
theorem dX14_term_108 : decode cX14_term 108 = .ok (.iconst 1, 1) := by decide +kernel
theorem dX14_term_109 : decode cX14_term 109 = .ok (.iadd, 1) := by decide +kernel
theorem dX14_term_110 : decode cX14_term 110 = .ok (.iaload, 1) := by decide +kernel
theorem dX14_term_111 : decode cX14_term 111 = .ok (.ireturn, 1) := by decide +kernel
theorem dX14_term_112 : decode cX14_term 112 = .ok (.iconst (-1), 1) := by decide +kernel
theorem dX14_term_113 : decode cX14_term 113 = .ok (.ireturn, 1) := by decide +kernel
theorem dX14_loses_0 : decode cX14_loses 0 = .ok (.iload_n 3, 1) := by decide +kernel
theorem dX14_loses_1 : decode cX14_loses 1 = .ok (.ifCond .ne 25, 3) := by decide +kernel
theorem dX14_loses_4 : decode cX14_loses 4 = .ok (.aload_n 0, 1) := by decide +kernel
theorem dX14_loses_5 : decode cX14_loses 5 = .ok (.iconst (-1), 1) := by decide +kernel
theorem dX14_loses_6 : decode cX14_loses 6 = .ok (.invokevirtual 284, 3) := by decide +kernel
theorem dX14_loses_9 : decode cX14_loses 9 = .ok (.aload_n 0, 1) := by decide +kernel
theorem dX14_loses_10 : decode cX14_loses 10 = .ok (.getfield 63, 3) := by decide +kernel
theorem dX14_loses_13 : decode cX14_loses 13 = .ok (.iload_n 1, 1) := by decide +kernel
theorem dX14_loses_14 : decode cX14_loses 14 = .ok (.iaload, 1) := by decide +kernel
theorem dX14_loses_15 : decode cX14_loses 15 = .ok (.ldc 253, 2) := by decide +kernel
theorem dX14_loses_17 : decode cX14_loses 17 = .ok (.if_icmp .lt 7, 3) := by decide +kernel
theorem dX14_loses_20 : decode cX14_loses 20 = .ok (.iconst 1, 1) := by decide +kernel
theorem dX14_loses_21 : decode cX14_loses 21 = .ok (.goto 4, 3) := by decide +kernel
theorem dX14_loses_24 : decode cX14_loses 24 = .ok (.iconst 0, 1) := by decide +kernel
theorem dX14_loses_25 : decode cX14_loses 25 = .ok (.ireturn, 1) := by decide +kernel
theorem dX14_loses_26 : decode cX14_loses 26 = .ok (.iload_n 2, 1) := by decide +kernel
theorem dX14_loses_27 : decode cX14_loses 27 = .ok (.istore 5, 2) := by decide +kernel
theorem dX14_loses_29 : decode cX14_loses 29 = .ok (.iload 5, 2) := by decide +kernel
theorem dX14_loses_31 : decode cX14_loses 31 = .ok (.aload_n 0, 1) := by decide +kernel
theorem dX14_loses_32 : decode cX14_loses 32 = .ok (.getfield 315, 3) := by decide +kernel
theorem dX14_loses_35 : decode cX14_loses 35 = .ok (.if_icmp .ge 74, 3) := by decide +kernel
theorem dX14_loses_38 : decode cX14_loses 38 = .ok (.aload_n 0, 1) := by decide +kernel
theorem dX14_loses_39 : decode cX14_loses 39 = .ok (.getfield 33, 3) := by decide +kernel
theorem dX14_loses_42 : decode cX14_loses 42 = .ok (.aload_n 0, 1) := by decide +kernel
theorem dX14_loses_43 : decode cX14_loses 43 = .ok (.getfield 75, 3) := by decide +kernel
theorem dX14_loses_46 : decode cX14_loses 46 = .ok (.iload 5, 2) := by decide +kernel
theorem dX14_loses_48 : decode cX14_loses 48 = .ok (.iaload, 1) := by decide +kernel
theorem dX14_loses_49 : decode cX14_loses 49 = .ok (.iconst 0, 1) := by decide +kernel
theorem dX14_loses_50 : decode cX14_loses 50 = .ok (.bastore, 1) := by decide +kernel
theorem dX14_loses_51 : decode cX14_loses 51 = .ok (.aload_n 0, 1) := by decide +kernel
theorem dX14_loses_52 : decode cX14_loses 52 = .ok (.getfield 81, 3) := by decide +kernel
theorem dX14_loses_55 : decode cX14_loses 55 = .ok (.iload 4, 2) := by decide +kernel
theorem dX14_loses_57 : decode cX14_loses 57 = .ok (.aload_n 0, 1) := by decide +kernel
theorem dX14_loses_58 : decode cX14_loses 58 = .ok (.getfield 75, 3) := by decide +kernel
theorem dX14_loses_61 : decode cX14_loses 61 = .ok (.iload 5, 2) := by decide +kernel
theorem dX14_loses_63 : decode cX14_loses 63 = .ok (.iaload, 1) := by decide +kernel
theorem dX14_loses_64 : decode cX14_loses 64 = .ok (.iastore, 1) := by decide +kernel
theorem dX14_loses_65 : decode cX14_loses 65 = .ok (.aload_n 0, 1) := by decide +kernel
theorem dX14_loses_66 : decode cX14_loses 66 = .ok (.iload_n 1, 1) := by decide +kernel
theorem dX14_loses_67 : decode cX14_loses 67 = .ok (.iload 5, 2) := by decide +kernel
theorem dX14_loses_69 : decode cX14_loses 69 = .ok (.iconst 1, 1) := by decide +kernel
theorem dX14_loses_70 : decode cX14_loses 70 = .ok (.iadd, 1) := by decide +kernel
theorem dX14_loses_71 : decode cX14_loses 71 = .ok (.iload_n 3, 1) := by decide +kernel
theorem dX14_loses_72 : decode cX14_loses 72 = .ok (.iconst 1, 1) := by decide +kernel
theorem dX14_loses_73 : decode cX14_loses 73 = .ok (.isub, 1) := by decide +kernel
theorem dX14_loses_74 : decode cX14_loses 74 = .ok (.iload 4, 2) := by decide +kernel
theorem dX14_loses_76 : decode cX14_loses 76 = .ok (.iconst 1, 1) := by decide +kernel
theorem dX14_loses_77 : decode cX14_loses 77 = .ok (.iadd, 1) := by decide +kernel
theorem dX14_loses_78 : decode cX14_loses 78 = .ok (.invokevirtual 318, 3) := by decide +kernel
theorem dX14_loses_81 : decode cX14_loses 81 = .ok (.istore 6, 2) := by decide +kernel
theorem dX14_loses_83 : decode cX14_loses 83 = .ok (.aload_n 0, 1) := by decide +kernel
theorem dX14_loses_84 : decode cX14_loses 84 = .ok (.getfield 33, 3) := by decide +kernel
theorem dX14_loses_87 : decode cX14_loses 87 = .ok (.aload_n 0, 1) := by decide +kernel
theorem dX14_loses_88 : decode cX14_loses 88 = .ok (.getfield 75, 3) := by decide +kernel
theorem dX14_loses_91 : decode cX14_loses 91 = .ok (.iload 5, 2) := by decide +kernel
theorem dX14_loses_93 : decode cX14_loses 93 = .ok (.iaload, 1) := by decide +kernel
theorem dX14_loses_94 : decode cX14_loses 94 = .ok (.iconst 1, 1) := by decide +kernel
theorem dX14_loses_95 : decode cX14_loses 95 = .ok (.bastore, 1) := by decide +kernel
theorem dX14_loses_96 : decode cX14_loses 96 = .ok (.iload 6, 2) := by decide +kernel
theorem dX14_loses_98 : decode cX14_loses 98 = .ok (.ifCond .eq 5, 3) := by decide +kernel
theorem dX14_loses_101 : decode cX14_loses 101 = .ok (.iconst 1, 1) := by decide +kernel
theorem dX14_loses_102 : decode cX14_loses 102 = .ok (.ireturn, 1) := by decide +kernel
theorem dX14_loses_103 : decode cX14_loses 103 = .ok (.iinc 5 1, 3) := by decide +kernel
theorem dX14_loses_106 : decode cX14_loses 106 = .ok (.goto (-77), 3) := by decide +kernel
theorem dX14_loses_109 : decode cX14_loses 109 = .ok (.iconst 0, 1) := by decide +kernel
theorem dX14_loses_110 : decode cX14_loses 110 = .ok (.ireturn, 1) := by decide +kernel
theorem dX14_go_0 : decode cX14_go 0 = .ok (.aload_n 0, 1) := by decide +kernel
theorem dX14_go_1 : decode cX14_go 1 = .ok (.iconst 0, 1) := by decide +kernel
theorem dX14_go_2 : decode cX14_go 2 = .ok (.putfield 84, 3) := by decide +kernel
theorem dX14_go_5 : decode cX14_go 5 = .ok (.aload_n 0, 1) := by decide +kernel
theorem dX14_go_6 : decode cX14_go 6 = .ok (.iload_n 1, 1) := by decide +kernel
theorem dX14_go_7 : decode cX14_go 7 = .ok (.invokevirtual 239, 3) := by decide +kernel
theorem dX14_go_10 : decode cX14_go 10 = .ok (.ifCond .ne 9, 3) := by decide +kernel
theorem dX14_go_13 : decode cX14_go 13 = .ok (.aload_n 0, 1) := by decide +kernel
theorem dX14_go_14 : decode cX14_go 14 = .ok (.iconst 1, 1) := by decide +kernel
theorem dX14_go_15 : decode cX14_go 15 = .ok (.invokevirtual 214, 3) := by decide +kernel
theorem dX14_go_18 : decode cX14_go 18 = .ok (.ireturn, 1) := by decide +kernel
theorem dX14_go_19 : decode cX14_go 19 = .ok (.aload_n 0, 1) := by decide +kernel
theorem dX14_go_20 : decode cX14_go 20 = .ok (.iconst (-1), 1) := by decide +kernel
theorem dX14_go_21 : decode cX14_go 21 = .ok (.invokevirtual 284, 3) := by decide +kernel
theorem dX14_go_24 : decode cX14_go 24 = .ok (.aload_n 0, 1) := by decide +kernel
theorem dX14_go_25 : decode cX14_go 25 = .ok (.getfield 63, 3) := by decide +kernel
theorem dX14_go_28 : decode cX14_go 28 = .ok (.iload_n 1, 1) := by decide +kernel
theorem dX14_go_29 : decode cX14_go 29 = .ok (.iaload, 1) := by decide +kernel
theorem dX14_go_30 : decode cX14_go 30 = .ok (.ldc 253, 2) := by decide +kernel
theorem dX14_go_32 : decode cX14_go 32 = .ok (.if_icmp .lt 9, 3) := by decide +kernel
theorem dX14_go_35 : decode cX14_go 35 = .ok (.aload_n 0, 1) := by decide +kernel
theorem dX14_go_36 : decode cX14_go 36 = .ok (.iconst 5, 1) := by decide +kernel
theorem dX14_go_37 : decode cX14_go 37 = .ok (.invokevirtual 214, 3) := by decide +kernel
theorem dX14_go_40 : decode cX14_go 40 = .ok (.ireturn, 1) := by decide +kernel
theorem dX14_go_41 : decode cX14_go 41 = .ok (.aload_n 0, 1) := by decide +kernel
theorem dX14_go_42 : decode cX14_go 42 = .ok (.iconst 0, 1) := by decide +kernel
theorem dX14_go_43 : decode cX14_go 43 = .ok (.putfield 315, 3) := by decide +kernel
theorem dX14_go_46 : decode cX14_go 46 = .ok (.iconst 0, 1) := by decide +kernel
theorem dX14_go_47 : decode cX14_go 47 = .ok (.istore_n 2, 1) := by decide +kernel
theorem dX14_go_48 : decode cX14_go 48 = .ok (.iload_n 2, 1) := by decide +kernel
theorem dX14_go_49 : decode cX14_go 49 = .ok (.sipush 1000, 3) := by decide +kernel
theorem dX14_go_52 : decode cX14_go 52 = .ok (.if_icmp .ge 57, 3) := by decide +kernel
theorem dX14_go_55 : decode cX14_go 55 = .ok (.aload_n 0, 1) := by decide +kernel
theorem dX14_go_56 : decode cX14_go 56 = .ok (.getfield 33, 3) := by decide +kernel
theorem dX14_go_59 : decode cX14_go 59 = .ok (.iload_n 2, 1) := by decide +kernel
theorem dX14_go_60 : decode cX14_go 60 = .ok (.baload, 1) := by decide +kernel
theorem dX14_go_61 : decode cX14_go 61 = .ok (.ifCond .ne 6, 3) := by decide +kernel
theorem dX14_go_64 : decode cX14_go 64 = .ok (.goto 39, 3) := by decide +kernel
theorem dX14_go_67 : decode cX14_go 67 = .ok (.aload_n 0, 1) := by decide +kernel
theorem dX14_go_68 : decode cX14_go 68 = .ok (.getfield 315, 3) := by decide +kernel
theorem dX14_go_71 : decode cX14_go 71 = .ok (.bipush 12, 2) := by decide +kernel
theorem dX14_go_73 : decode cX14_go 73 = .ok (.if_icmp .ne 10, 3) := by decide +kernel
theorem dX14_go_76 : decode cX14_go 76 = .ok (.aload_n 0, 1) := by decide +kernel
theorem dX14_go_77 : decode cX14_go 77 = .ok (.bipush 6, 2) := by decide +kernel
theorem dX14_go_79 : decode cX14_go 79 = .ok (.invokevirtual 214, 3) := by decide +kernel
theorem dX14_go_82 : decode cX14_go 82 = .ok (.ireturn, 1) := by decide +kernel
theorem dX14_go_83 : decode cX14_go 83 = .ok (.aload_n 0, 1) := by decide +kernel
theorem dX14_go_84 : decode cX14_go 84 = .ok (.getfield 75, 3) := by decide +kernel
theorem dX14_go_87 : decode cX14_go 87 = .ok (.aload_n 0, 1) := by decide +kernel
theorem dX14_go_88 : decode cX14_go 88 = .ok (.getfield 315, 3) := by decide +kernel
theorem dX14_go_91 : decode cX14_go 91 = .ok (.iload_n 2, 1) := by decide +kernel
theorem dX14_go_92 : decode cX14_go 92 = .ok (.iastore, 1) := by decide +kernel
theorem dX14_go_93 : decode cX14_go 93 = .ok (.aload_n 0, 1) := by decide +kernel
theorem dX14_go_94 : decode cX14_go 94 = .ok (.dup, 1) := by decide +kernel
theorem dX14_go_95 : decode cX14_go 95 = .ok (.getfield 315, 3) := by decide +kernel
theorem dX14_go_98 : decode cX14_go 98 = .ok (.iconst 1, 1) := by decide +kernel
theorem dX14_go_99 : decode cX14_go 99 = .ok (.iadd, 1) := by decide +kernel
theorem dX14_go_100 : decode cX14_go 100 = .ok (.putfield 315, 3) := by decide +kernel
theorem dX14_go_103 : decode cX14_go 103 = .ok (.iinc 2 1, 3) := by decide +kernel
theorem dX14_go_106 : decode cX14_go 106 = .ok (.goto (-58), 3) := by decide +kernel
theorem dX14_go_109 : decode cX14_go 109 = .ok (.iconst 0, 1) := by decide +kernel
theorem dX14_go_110 : decode cX14_go 110 = .ok (.istore_n 2, 1) := by decide +kernel
theorem dX14_go_111 : decode cX14_go 111 = .ok (.iload_n 2, 1) := by decide +kernel
theorem dX14_go_112 : decode cX14_go 112 = .ok (.iconst 3, 1) := by decide +kernel
theorem dX14_go_113 : decode cX14_go 113 = .ok (.if_icmp .gt 59, 3) := by decide +kernel
theorem dX14_go_116 : decode cX14_go 116 = .ok (.aload_n 0, 1) := by decide +kernel
theorem dX14_go_117 : decode cX14_go 117 = .ok (.iload_n 1, 1) := by decide +kernel
theorem dX14_go_118 : decode cX14_go 118 = .ok (.iconst 0, 1) := by decide +kernel
theorem dX14_go_119 : decode cX14_go 119 = .ok (.iload_n 2, 1) := by decide +kernel
theorem dX14_go_120 : decode cX14_go 120 = .ok (.iconst 0, 1) := by decide +kernel
theorem dX14_go_121 : decode cX14_go 121 = .ok (.invokevirtual 318, 3) := by decide +kernel
theorem dX14_go_124 : decode cX14_go 124 = .ok (.ifCond .ne 6, 3) := by decide +kernel
theorem dX14_go_127 : decode cX14_go 127 = .ok (.goto 39, 3) := by decide +kernel
theorem dX14_go_130 : decode cX14_go 130 = .ok (.aload_n 0, 1) := by decide +kernel
theorem dX14_go_131 : decode cX14_go 131 = .ok (.iload_n 2, 1) := by decide +kernel
theorem dX14_go_132 : decode cX14_go 132 = .ok (.putfield 322, 3) := by decide +kernel
theorem dX14_go_135 : decode cX14_go 135 = .ok (.iconst 0, 1) := by decide +kernel
theorem dX14_go_136 : decode cX14_go 136 = .ok (.istore_n 3, 1) := by decide +kernel
theorem dX14_go_137 : decode cX14_go 137 = .ok (.iload_n 3, 1) := by decide +kernel
theorem dX14_go_138 : decode cX14_go 138 = .ok (.iload_n 2, 1) := by decide +kernel
theorem dX14_go_139 : decode cX14_go 139 = .ok (.if_icmp .ge 21, 3) := by decide +kernel
theorem dX14_go_142 : decode cX14_go 142 = .ok (.aload_n 0, 1) := by decide +kernel
theorem dX14_go_143 : decode cX14_go 143 = .ok (.getfield 78, 3) := by decide +kernel
theorem dX14_go_146 : decode cX14_go 146 = .ok (.iload_n 3, 1) := by decide +kernel
theorem dX14_go_147 : decode cX14_go 147 = .ok (.aload_n 0, 1) := by decide +kernel
theorem dX14_go_148 : decode cX14_go 148 = .ok (.getfield 81, 3) := by decide +kernel
theorem dX14_go_151 : decode cX14_go 151 = .ok (.iload_n 3, 1) := by decide +kernel
theorem dX14_go_152 : decode cX14_go 152 = .ok (.iaload, 1) := by decide +kernel
theorem dX14_go_153 : decode cX14_go 153 = .ok (.iastore, 1) := by decide +kernel
theorem dX14_go_154 : decode cX14_go 154 = .ok (.iinc 3 1, 3) := by decide +kernel
theorem dX14_go_157 : decode cX14_go 157 = .ok (.goto (-20), 3) := by decide +kernel
theorem dX14_go_160 : decode cX14_go 160 = .ok (.aload_n 0, 1) := by decide +kernel
theorem dX14_go_161 : decode cX14_go 161 = .ok (.iload_n 2, 1) := by decide +kernel
theorem dX14_go_162 : decode cX14_go 162 = .ok (.invokevirtual 229, 3) := by decide +kernel
theorem dX14_go_165 : decode cX14_go 165 = .ok (.ireturn, 1) := by decide +kernel
theorem dX14_go_166 : decode cX14_go 166 = .ok (.iinc 2 1, 3) := by decide +kernel
theorem dX14_go_169 : decode cX14_go 169 = .ok (.goto (-58), 3) := by decide +kernel
theorem dX14_go_172 : decode cX14_go 172 = .ok (.aload_n 0, 1) := by decide +kernel
theorem dX14_go_173 : decode cX14_go 173 = .ok (.bipush (-2), 2) := by decide +kernel
theorem dX14_go_175 : decode cX14_go 175 = .ok (.invokevirtual 229, 3) := by decide +kernel
theorem dX14_go_178 : decode cX14_go 178 = .ok (.ireturn, 1) := by decide +kernel
theorem dX14_gone_0 : decode cX14_gone 0 = .ok (.aload_n 0, 1) := by decide +kernel
theorem dX14_gone_1 : decode cX14_gone 1 = .ok (.iconst 0, 1) := by decide +kernel
theorem dX14_gone_2 : decode cX14_gone 2 = .ok (.putfield 84, 3) := by decide +kernel
theorem dX14_gone_5 : decode cX14_gone 5 = .ok (.iload_n 1, 1) := by decide +kernel
theorem dX14_gone_6 : decode cX14_gone 6 = .ok (.ifCond .lt 20, 3) := by decide +kernel
theorem dX14_gone_9 : decode cX14_gone 9 = .ok (.iload_n 1, 1) := by decide +kernel
theorem dX14_gone_10 : decode cX14_gone 10 = .ok (.aload_n 0, 1) := by decide +kernel
theorem dX14_gone_11 : decode cX14_gone 11 = .ok (.getfield 322, 3) := by decide +kernel
theorem dX14_gone_14 : decode cX14_gone 14 = .ok (.if_icmp .ge 12, 3) := by decide +kernel
theorem dX14_gone_17 : decode cX14_gone 17 = .ok (.aload_n 0, 1) := by decide +kernel
theorem dX14_gone_18 : decode cX14_gone 18 = .ok (.getfield 78, 3) := by decide +kernel
theorem dX14_gone_21 : decode cX14_gone 21 = .ok (.iload_n 1, 1) := by decide +kernel
theorem dX14_gone_22 : decode cX14_gone 22 = .ok (.iaload, 1) := by decide +kernel
theorem dX14_gone_23 : decode cX14_gone 23 = .ok (.goto 4, 3) := by decide +kernel
theorem dX14_gone_26 : decode cX14_gone 26 = .ok (.iconst (-1), 1) := by decide +kernel
theorem dX14_gone_27 : decode cX14_gone 27 = .ok (.ireturn, 1) := by decide +kernel
theorem dX14_derived_0 : decode cX14_derived 0 = .ok (.aload_n 0, 1) := by decide +kernel
theorem dX14_derived_1 : decode cX14_derived 1 = .ok (.iconst 0, 1) := by decide +kernel
theorem dX14_derived_2 : decode cX14_derived 2 = .ok (.putfield 84, 3) := by decide +kernel
theorem dX14_derived_5 : decode cX14_derived 5 = .ok (.aload_n 0, 1) := by decide +kernel
theorem dX14_derived_6 : decode cX14_derived 6 = .ok (.iconst (-1), 1) := by decide +kernel
theorem dX14_derived_7 : decode cX14_derived 7 = .ok (.invokevirtual 284, 3) := by decide +kernel
theorem dX14_derived_10 : decode cX14_derived 10 = .ok (.iconst 0, 1) := by decide +kernel
theorem dX14_derived_11 : decode cX14_derived 11 = .ok (.istore_n 1, 1) := by decide +kernel
theorem dX14_derived_12 : decode cX14_derived 12 = .ok (.iconst 0, 1) := by decide +kernel
theorem dX14_derived_13 : decode cX14_derived 13 = .ok (.istore_n 2, 1) := by decide +kernel
theorem dX14_derived_14 : decode cX14_derived 14 = .ok (.iload_n 2, 1) := by decide +kernel
theorem dX14_derived_15 : decode cX14_derived 15 = .ok (.sipush 1000, 3) := by decide +kernel
theorem dX14_derived_18 : decode cX14_derived 18 = .ok (.if_icmp .ge 37, 3) := by decide +kernel
theorem dX14_derived_21 : decode cX14_derived 21 = .ok (.iload_n 1, 1) := by decide +kernel
theorem dX14_derived_22 : decode cX14_derived 22 = .ok (.aload_n 0, 1) := by decide +kernel
theorem dX14_derived_23 : decode cX14_derived 23 = .ok (.getfield 63, 3) := by decide +kernel
theorem dX14_derived_26 : decode cX14_derived 26 = .ok (.iload_n 2, 1) := by decide +kernel
theorem dX14_derived_27 : decode cX14_derived 27 = .ok (.iaload, 1) := by decide +kernel
theorem dX14_derived_28 : decode cX14_derived 28 = .ok (.ldc 253, 2) := by decide +kernel
theorem dX14_derived_30 : decode cX14_derived 30 = .ok (.if_icmp .ge 16, 3) := by decide +kernel
theorem dX14_derived_33 : decode cX14_derived 33 = .ok (.aload_n 0, 1) := by decide +kernel
theorem dX14_derived_34 : decode cX14_derived 34 = .ok (.getfield 33, 3) := by decide +kernel
theorem dX14_derived_37 : decode cX14_derived 37 = .ok (.iload_n 2, 1) := by decide +kernel
theorem dX14_derived_38 : decode cX14_derived 38 = .ok (.baload, 1) := by decide +kernel
theorem dX14_derived_39 : decode cX14_derived 39 = .ok (.ifCond .ne 7, 3) := by decide +kernel
theorem dX14_derived_42 : decode cX14_derived 42 = .ok (.iconst 1, 1) := by decide +kernel
theorem dX14_derived_43 : decode cX14_derived 43 = .ok (.goto 4, 3) := by decide +kernel
theorem dX14_derived_46 : decode cX14_derived 46 = .ok (.iconst 0, 1) := by decide +kernel
theorem dX14_derived_47 : decode cX14_derived 47 = .ok (.iadd, 1) := by decide +kernel
theorem dX14_derived_48 : decode cX14_derived 48 = .ok (.istore_n 1, 1) := by decide +kernel
theorem dX14_derived_49 : decode cX14_derived 49 = .ok (.iinc 2 1, 3) := by decide +kernel
theorem dX14_derived_52 : decode cX14_derived 52 = .ok (.goto (-38), 3) := by decide +kernel
theorem dX14_derived_55 : decode cX14_derived 55 = .ok (.iload_n 1, 1) := by decide +kernel
theorem dX14_derived_56 : decode cX14_derived 56 = .ok (.ireturn, 1) := by decide +kernel
theorem dX14_deepest_0 : decode cX14_deepest 0 = .ok (.aload_n 0, 1) := by decide +kernel
theorem dX14_deepest_1 : decode cX14_deepest 1 = .ok (.iconst 0, 1) := by decide +kernel
theorem dX14_deepest_2 : decode cX14_deepest 2 = .ok (.putfield 84, 3) := by decide +kernel
theorem dX14_deepest_5 : decode cX14_deepest 5 = .ok (.aload_n 0, 1) := by decide +kernel
theorem dX14_deepest_6 : decode cX14_deepest 6 = .ok (.iconst (-1), 1) := by decide +kernel
theorem dX14_deepest_7 : decode cX14_deepest 7 = .ok (.invokevirtual 284, 3) := by decide +kernel
theorem dX14_deepest_10 : decode cX14_deepest 10 = .ok (.iconst 0, 1) := by decide +kernel
theorem dX14_deepest_11 : decode cX14_deepest 11 = .ok (.istore_n 1, 1) := by decide +kernel
theorem dX14_deepest_12 : decode cX14_deepest 12 = .ok (.iconst 0, 1) := by decide +kernel
theorem dX14_deepest_13 : decode cX14_deepest 13 = .ok (.istore_n 2, 1) := by decide +kernel
theorem dX14_deepest_14 : decode cX14_deepest 14 = .ok (.iload_n 2, 1) := by decide +kernel
theorem dX14_deepest_15 : decode cX14_deepest 15 = .ok (.sipush 1000, 3) := by decide +kernel
theorem dX14_deepest_18 : decode cX14_deepest 18 = .ok (.if_icmp .ge 35, 3) := by decide +kernel
theorem dX14_deepest_21 : decode cX14_deepest 21 = .ok (.aload_n 0, 1) := by decide +kernel
theorem dX14_deepest_22 : decode cX14_deepest 22 = .ok (.getfield 63, 3) := by decide +kernel
theorem dX14_deepest_25 : decode cX14_deepest 25 = .ok (.iload_n 2, 1) := by decide +kernel
theorem dX14_deepest_26 : decode cX14_deepest 26 = .ok (.iaload, 1) := by decide +kernel
theorem dX14_deepest_27 : decode cX14_deepest 27 = .ok (.ldc 253, 2) := by decide +kernel
theorem dX14_deepest_29 : decode cX14_deepest 29 = .ok (.if_icmp .ge 16, 3) := by decide +kernel
theorem dX14_deepest_32 : decode cX14_deepest 32 = .ok (.iload_n 1, 1) := by decide +kernel
theorem dX14_deepest_33 : decode cX14_deepest 33 = .ok (.aload_n 0, 1) := by decide +kernel
theorem dX14_deepest_34 : decode cX14_deepest 34 = .ok (.getfield 63, 3) := by decide +kernel
theorem dX14_deepest_37 : decode cX14_deepest 37 = .ok (.iload_n 2, 1) := by decide +kernel
theorem dX14_deepest_38 : decode cX14_deepest 38 = .ok (.iaload, 1) := by decide +kernel
theorem dX14_deepest_39 : decode cX14_deepest 39 = .ok (.invokestatic 205, 3) := by decide +kernel
theorem dX14_deepest_42 : decode cX14_deepest 42 = .ok (.goto 4, 3) := by decide +kernel
theorem dX14_deepest_45 : decode cX14_deepest 45 = .ok (.iload_n 1, 1) := by decide +kernel
theorem dX14_deepest_46 : decode cX14_deepest 46 = .ok (.istore_n 1, 1) := by decide +kernel
theorem dX14_deepest_47 : decode cX14_deepest 47 = .ok (.iinc 2 1, 3) := by decide +kernel
theorem dX14_deepest_50 : decode cX14_deepest 50 = .ok (.goto (-36), 3) := by decide +kernel
theorem dX14_deepest_53 : decode cX14_deepest 53 = .ok (.iload_n 1, 1) := by decide +kernel
theorem dX14_deepest_54 : decode cX14_deepest 54 = .ok (.ireturn, 1) := by decide +kernel
theorem dX14_turned_0 : decode cX14_turned 0 = .ok (.aload_n 0, 1) := by decide +kernel
theorem dX14_turned_1 : decode cX14_turned 1 = .ok (.iconst 0, 1) := by decide +kernel
theorem dX14_turned_2 : decode cX14_turned 2 = .ok (.putfield 84, 3) := by decide +kernel
theorem dX14_turned_5 : decode cX14_turned 5 = .ok (.aload_n 0, 1) := by decide +kernel
theorem dX14_turned_6 : decode cX14_turned 6 = .ok (.iload_n 1, 1) := by decide +kernel
theorem dX14_turned_7 : decode cX14_turned 7 = .ok (.invokevirtual 239, 3) := by decide +kernel
theorem dX14_turned_10 : decode cX14_turned 10 = .ok (.ifCond .ne 9, 3) := by decide +kernel
theorem dX14_turned_13 : decode cX14_turned 13 = .ok (.aload_n 0, 1) := by decide +kernel
theorem dX14_turned_14 : decode cX14_turned 14 = .ok (.iconst 1, 1) := by decide +kernel
theorem dX14_turned_15 : decode cX14_turned 15 = .ok (.invokevirtual 214, 3) := by decide +kernel
theorem dX14_turned_18 : decode cX14_turned 18 = .ok (.ireturn, 1) := by decide +kernel
theorem dX14_turned_19 : decode cX14_turned 19 = .ok (.aload_n 0, 1) := by decide +kernel
theorem dX14_turned_20 : decode cX14_turned 20 = .ok (.iconst (-1), 1) := by decide +kernel
theorem dX14_turned_21 : decode cX14_turned 21 = .ok (.invokevirtual 284, 3) := by decide +kernel
theorem dX14_turned_24 : decode cX14_turned 24 = .ok (.aload_n 0, 1) := by decide +kernel
theorem dX14_turned_25 : decode cX14_turned 25 = .ok (.invokevirtual 306, 3) := by decide +kernel
theorem dX14_turned_28 : decode cX14_turned 28 = .ok (.aload_n 0, 1) := by decide +kernel
theorem dX14_turned_29 : decode cX14_turned 29 = .ok (.getfield 33, 3) := by decide +kernel
theorem dX14_turned_32 : decode cX14_turned 32 = .ok (.iload_n 1, 1) := by decide +kernel
theorem dX14_turned_33 : decode cX14_turned 33 = .ok (.aload_n 0, 1) := by decide +kernel
theorem dX14_turned_34 : decode cX14_turned 34 = .ok (.getfield 33, 3) := by decide +kernel
theorem dX14_turned_37 : decode cX14_turned 37 = .ok (.iload_n 1, 1) := by decide +kernel
theorem dX14_turned_38 : decode cX14_turned 38 = .ok (.baload, 1) := by decide +kernel
theorem dX14_turned_39 : decode cX14_turned 39 = .ok (.ifCond .ne 7, 3) := by decide +kernel
theorem dX14_turned_42 : decode cX14_turned 42 = .ok (.iconst 1, 1) := by decide +kernel
theorem dX14_turned_43 : decode cX14_turned 43 = .ok (.goto 4, 3) := by decide +kernel
theorem dX14_turned_46 : decode cX14_turned 46 = .ok (.iconst 0, 1) := by decide +kernel
theorem dX14_turned_47 : decode cX14_turned 47 = .ok (.bastore, 1) := by decide +kernel
theorem dX14_turned_48 : decode cX14_turned 48 = .ok (.aload_n 0, 1) := by decide +kernel
theorem dX14_turned_49 : decode cX14_turned 49 = .ok (.iconst (-1), 1) := by decide +kernel
theorem dX14_turned_50 : decode cX14_turned 50 = .ok (.invokevirtual 284, 3) := by decide +kernel
theorem dX14_turned_53 : decode cX14_turned 53 = .ok (.aload_n 0, 1) := by decide +kernel
theorem dX14_turned_54 : decode cX14_turned 54 = .ok (.getfield 33, 3) := by decide +kernel
theorem dX14_turned_57 : decode cX14_turned 57 = .ok (.iload_n 1, 1) := by decide +kernel
theorem dX14_turned_58 : decode cX14_turned 58 = .ok (.aload_n 0, 1) := by decide +kernel
theorem dX14_turned_59 : decode cX14_turned 59 = .ok (.getfield 33, 3) := by decide +kernel
theorem dX14_turned_62 : decode cX14_turned 62 = .ok (.iload_n 1, 1) := by decide +kernel
theorem dX14_turned_63 : decode cX14_turned 63 = .ok (.baload, 1) := by decide +kernel
theorem dX14_turned_64 : decode cX14_turned 64 = .ok (.ifCond .ne 7, 3) := by decide +kernel
theorem dX14_turned_67 : decode cX14_turned 67 = .ok (.iconst 1, 1) := by decide +kernel
theorem dX14_turned_68 : decode cX14_turned 68 = .ok (.goto 4, 3) := by decide +kernel
theorem dX14_turned_71 : decode cX14_turned 71 = .ok (.iconst 0, 1) := by decide +kernel
theorem dX14_turned_72 : decode cX14_turned 72 = .ok (.bastore, 1) := by decide +kernel
theorem dX14_turned_73 : decode cX14_turned 73 = .ok (.iconst 0, 1) := by decide +kernel
theorem dX14_turned_74 : decode cX14_turned 74 = .ok (.istore_n 3, 1) := by decide +kernel
theorem dX14_turned_75 : decode cX14_turned 75 = .ok (.iconst 0, 1) := by decide +kernel
theorem dX14_turned_76 : decode cX14_turned 76 = .ok (.istore 4, 2) := by decide +kernel
theorem dX14_turned_78 : decode cX14_turned 78 = .ok (.iload 4, 2) := by decide +kernel
theorem dX14_turned_80 : decode cX14_turned 80 = .ok (.sipush 1000, 3) := by decide +kernel
theorem dX14_turned_83 : decode cX14_turned 83 = .ok (.if_icmp .ge 49, 3) := by decide +kernel
theorem dX14_turned_86 : decode cX14_turned 86 = .ok (.iload_n 3, 1) := by decide +kernel
theorem dX14_turned_87 : decode cX14_turned 87 = .ok (.aload_n 0, 1) := by decide +kernel
theorem dX14_turned_88 : decode cX14_turned 88 = .ok (.getfield 72, 3) := by decide +kernel
theorem dX14_turned_91 : decode cX14_turned 91 = .ok (.iload 4, 2) := by decide +kernel
theorem dX14_turned_93 : decode cX14_turned 93 = .ok (.baload, 1) := by decide +kernel
theorem dX14_turned_94 : decode cX14_turned 94 = .ok (.iload_n 2, 1) := by decide +kernel
theorem dX14_turned_95 : decode cX14_turned 95 = .ok (.if_icmp .ne 28, 3) := by decide +kernel
theorem dX14_turned_98 : decode cX14_turned 98 = .ok (.aload_n 0, 1) := by decide +kernel
theorem dX14_turned_99 : decode cX14_turned 99 = .ok (.getfield 63, 3) := by decide +kernel
theorem dX14_turned_102 : decode cX14_turned 102 = .ok (.iload 4, 2) := by decide +kernel
theorem dX14_turned_104 : decode cX14_turned 104 = .ok (.iaload, 1) := by decide +kernel
theorem dX14_turned_105 : decode cX14_turned 105 = .ok (.ldc 253, 2) := by decide +kernel
theorem dX14_turned_107 : decode cX14_turned 107 = .ok (.if_icmp .ge 7, 3) := by decide +kernel
theorem dX14_turned_110 : decode cX14_turned 110 = .ok (.iconst 1, 1) := by decide +kernel
theorem dX14_turned_111 : decode cX14_turned 111 = .ok (.goto 4, 3) := by decide +kernel
theorem dX14_turned_114 : decode cX14_turned 114 = .ok (.iconst 0, 1) := by decide +kernel
theorem dX14_turned_115 : decode cX14_turned 115 = .ok (.iload_n 2, 1) := by decide +kernel
theorem dX14_turned_116 : decode cX14_turned 116 = .ok (.if_icmp .eq 7, 3) := by decide +kernel
theorem dX14_turned_119 : decode cX14_turned 119 = .ok (.iconst 1, 1) := by decide +kernel
theorem dX14_turned_120 : decode cX14_turned 120 = .ok (.goto 4, 3) := by decide +kernel
theorem dX14_turned_123 : decode cX14_turned 123 = .ok (.iconst 0, 1) := by decide +kernel
theorem dX14_turned_124 : decode cX14_turned 124 = .ok (.iadd, 1) := by decide +kernel
theorem dX14_turned_125 : decode cX14_turned 125 = .ok (.istore_n 3, 1) := by decide +kernel
theorem dX14_turned_126 : decode cX14_turned 126 = .ok (.iinc 4 1, 3) := by decide +kernel
theorem dX14_turned_129 : decode cX14_turned 129 = .ok (.goto (-51), 3) := by decide +kernel
theorem dX14_turned_132 : decode cX14_turned 132 = .ok (.aload_n 0, 1) := by decide +kernel
theorem dX14_turned_133 : decode cX14_turned 133 = .ok (.iload_n 3, 1) := by decide +kernel
theorem dX14_turned_134 : decode cX14_turned 134 = .ok (.invokevirtual 229, 3) := by decide +kernel
theorem dX14_turned_137 : decode cX14_turned 137 = .ok (.ireturn, 1) := by decide +kernel
theorem dX14_count_0 : decode cX14_count 0 = .ok (.aload_n 0, 1) := by decide +kernel
theorem dX14_count_1 : decode cX14_count 1 = .ok (.iconst 0, 1) := by decide +kernel
theorem dX14_count_2 : decode cX14_count 2 = .ok (.putfield 84, 3) := by decide +kernel
theorem dX14_count_5 : decode cX14_count 5 = .ok (.iconst 0, 1) := by decide +kernel
theorem dX14_count_6 : decode cX14_count 6 = .ok (.istore_n 2, 1) := by decide +kernel
theorem dX14_count_7 : decode cX14_count 7 = .ok (.iload_n 1, 1) := by decide +kernel
theorem dX14_count_8 : decode cX14_count 8 = .ok (.tableswitch 137 0 5 #[40, 45, 50, 55, 89, 94], 40) := by decide +kernel
theorem dX14_count_48 : decode cX14_count 48 = .ok (.aload_n 0, 1) := by decide +kernel
theorem dX14_count_49 : decode cX14_count 49 = .ok (.getfield 96, 3) := by decide +kernel
theorem dX14_count_52 : decode cX14_count 52 = .ok (.ireturn, 1) := by decide +kernel
theorem dX14_count_53 : decode cX14_count 53 = .ok (.aload_n 0, 1) := by decide +kernel
theorem dX14_count_54 : decode cX14_count 54 = .ok (.getfield 90, 3) := by decide +kernel
theorem dX14_count_57 : decode cX14_count 57 = .ok (.ireturn, 1) := by decide +kernel
theorem dX14_count_58 : decode cX14_count 58 = .ok (.aload_n 0, 1) := by decide +kernel
theorem dX14_count_59 : decode cX14_count 59 = .ok (.getfield 93, 3) := by decide +kernel
theorem dX14_count_62 : decode cX14_count 62 = .ok (.ireturn, 1) := by decide +kernel
theorem dX14_count_63 : decode cX14_count 63 = .ok (.iconst 0, 1) := by decide +kernel
theorem dX14_count_64 : decode cX14_count 64 = .ok (.istore_n 3, 1) := by decide +kernel
theorem dX14_count_65 : decode cX14_count 65 = .ok (.iload_n 3, 1) := by decide +kernel
theorem dX14_count_66 : decode cX14_count 66 = .ok (.sipush 1000, 3) := by decide +kernel
theorem dX14_count_69 : decode cX14_count 69 = .ok (.if_icmp .ge 26, 3) := by decide +kernel
theorem dX14_count_72 : decode cX14_count 72 = .ok (.iload_n 2, 1) := by decide +kernel
theorem dX14_count_73 : decode cX14_count 73 = .ok (.aload_n 0, 1) := by decide +kernel
theorem dX14_count_74 : decode cX14_count 74 = .ok (.getfield 33, 3) := by decide +kernel
theorem dX14_count_77 : decode cX14_count 77 = .ok (.iload_n 3, 1) := by decide +kernel
theorem dX14_count_78 : decode cX14_count 78 = .ok (.baload, 1) := by decide +kernel
theorem dX14_count_79 : decode cX14_count 79 = .ok (.ifCond .eq 7, 3) := by decide +kernel
theorem dX14_count_82 : decode cX14_count 82 = .ok (.iconst 1, 1) := by decide +kernel
theorem dX14_count_83 : decode cX14_count 83 = .ok (.goto 4, 3) := by decide +kernel
theorem dX14_count_86 : decode cX14_count 86 = .ok (.iconst 0, 1) := by decide +kernel
theorem dX14_count_87 : decode cX14_count 87 = .ok (.iadd, 1) := by decide +kernel
theorem dX14_count_88 : decode cX14_count 88 = .ok (.istore_n 2, 1) := by decide +kernel
theorem dX14_count_89 : decode cX14_count 89 = .ok (.iinc 3 1, 3) := by decide +kernel
theorem dX14_count_92 : decode cX14_count 92 = .ok (.goto (-27), 3) := by decide +kernel
theorem dX14_count_95 : decode cX14_count 95 = .ok (.iload_n 2, 1) := by decide +kernel
theorem dX14_count_96 : decode cX14_count 96 = .ok (.ireturn, 1) := by decide +kernel
theorem dX14_count_97 : decode cX14_count 97 = .ok (.aload_n 0, 1) := by decide +kernel
theorem dX14_count_98 : decode cX14_count 98 = .ok (.getfield 211, 3) := by decide +kernel
theorem dX14_count_101 : decode cX14_count 101 = .ok (.ireturn, 1) := by decide +kernel
theorem dX14_count_102 : decode cX14_count 102 = .ok (.aload_n 0, 1) := by decide +kernel
theorem dX14_count_103 : decode cX14_count 103 = .ok (.aload_n 0, 1) := by decide +kernel
theorem dX14_count_104 : decode cX14_count 104 = .ok (.getfield 93, 3) := by decide +kernel
theorem dX14_count_107 : decode cX14_count 107 = .ok (.invokevirtual 226, 3) := by decide +kernel
theorem dX14_count_110 : decode cX14_count 110 = .ok (.istore_n 3, 1) := by decide +kernel
theorem dX14_count_111 : decode cX14_count 111 = .ok (.iconst 0, 1) := by decide +kernel
theorem dX14_count_112 : decode cX14_count 112 = .ok (.istore 4, 2) := by decide +kernel
theorem dX14_count_114 : decode cX14_count 114 = .ok (.iload 4, 2) := by decide +kernel
theorem dX14_count_116 : decode cX14_count 116 = .ok (.aload_n 0, 1) := by decide +kernel
theorem dX14_count_117 : decode cX14_count 117 = .ok (.getfield 90, 3) := by decide +kernel
theorem dX14_count_120 : decode cX14_count 120 = .ok (.if_icmp .ge 23, 3) := by decide +kernel
theorem dX14_count_123 : decode cX14_count 123 = .ok (.iload_n 2, 1) := by decide +kernel
theorem dX14_count_124 : decode cX14_count 124 = .ok (.aload_n 0, 1) := by decide +kernel
theorem dX14_count_125 : decode cX14_count 125 = .ok (.getfield 30, 3) := by decide +kernel
theorem dX14_count_128 : decode cX14_count 128 = .ok (.iload 4, 2) := by decide +kernel
theorem dX14_count_130 : decode cX14_count 130 = .ok (.iaload, 1) := by decide +kernel
theorem dX14_count_131 : decode cX14_count 131 = .ok (.iconst 1, 1) := by decide +kernel
theorem dX14_count_132 : decode cX14_count 132 = .ok (.iadd, 1) := by decide +kernel
theorem dX14_count_133 : decode cX14_count 133 = .ok (.invokestatic 205, 3) := by decide +kernel
theorem dX14_count_136 : decode cX14_count 136 = .ok (.istore_n 2, 1) := by decide +kernel
theorem dX14_count_137 : decode cX14_count 137 = .ok (.iinc 4 1, 3) := by decide +kernel
theorem dX14_count_140 : decode cX14_count 140 = .ok (.goto (-26), 3) := by decide +kernel
theorem dX14_count_143 : decode cX14_count 143 = .ok (.iload_n 2, 1) := by decide +kernel
theorem dX14_count_144 : decode cX14_count 144 = .ok (.ireturn, 1) := by decide +kernel
theorem dX14_count_145 : decode cX14_count 145 = .ok (.iconst (-1), 1) := by decide +kernel
theorem dX14_count_146 : decode cX14_count 146 = .ok (.ireturn, 1) := by decide +kernel
theorem dX14_trouble_0 : decode cX14_trouble 0 = .ok (.aload_n 0, 1) := by decide +kernel
theorem dX14_trouble_1 : decode cX14_trouble 1 = .ok (.iconst 0, 1) := by decide +kernel
theorem dX14_trouble_2 : decode cX14_trouble 2 = .ok (.putfield 84, 3) := by decide +kernel
theorem dX14_trouble_5 : decode cX14_trouble 5 = .ok (.aload_n 0, 1) := by decide +kernel
theorem dX14_trouble_6 : decode cX14_trouble 6 = .ok (.getfield 87, 3) := by decide +kernel
theorem dX14_trouble_9 : decode cX14_trouble 9 = .ok (.ireturn, 1) := by decide +kernel
theorem dJ6_bitCount_0f7a4_0 : decode cJ6_bitCount_0f7a4 0 = .ok (.iload_n 0, 1) := by decide +kernel
theorem dJ6_bitCount_0f7a4_1 : decode cJ6_bitCount_0f7a4 1 = .ok (.iload_n 0, 1) := by decide +kernel
theorem dJ6_bitCount_0f7a4_2 : decode cJ6_bitCount_0f7a4 2 = .ok (.iconst 1, 1) := by decide +kernel
theorem dJ6_bitCount_0f7a4_3 : decode cJ6_bitCount_0f7a4 3 = .ok (.iushr, 1) := by decide +kernel
theorem dJ6_bitCount_0f7a4_4 : decode cJ6_bitCount_0f7a4 4 = .ok (.ldc_w 265, 3) := by decide +kernel
theorem dJ6_bitCount_0f7a4_7 : decode cJ6_bitCount_0f7a4 7 = .ok (.iand, 1) := by decide +kernel
theorem dJ6_bitCount_0f7a4_8 : decode cJ6_bitCount_0f7a4 8 = .ok (.isub, 1) := by decide +kernel
theorem dJ6_bitCount_0f7a4_9 : decode cJ6_bitCount_0f7a4 9 = .ok (.istore_n 0, 1) := by decide +kernel
theorem dJ6_bitCount_0f7a4_10 : decode cJ6_bitCount_0f7a4 10 = .ok (.iload_n 0, 1) := by decide +kernel
theorem dJ6_bitCount_0f7a4_11 : decode cJ6_bitCount_0f7a4 11 = .ok (.ldc_w 266, 3) := by decide +kernel
theorem dJ6_bitCount_0f7a4_14 : decode cJ6_bitCount_0f7a4 14 = .ok (.iand, 1) := by decide +kernel
theorem dJ6_bitCount_0f7a4_15 : decode cJ6_bitCount_0f7a4 15 = .ok (.iload_n 0, 1) := by decide +kernel
theorem dJ6_bitCount_0f7a4_16 : decode cJ6_bitCount_0f7a4 16 = .ok (.iconst 2, 1) := by decide +kernel
theorem dJ6_bitCount_0f7a4_17 : decode cJ6_bitCount_0f7a4 17 = .ok (.iushr, 1) := by decide +kernel
theorem dJ6_bitCount_0f7a4_18 : decode cJ6_bitCount_0f7a4 18 = .ok (.ldc_w 266, 3) := by decide +kernel
theorem dJ6_bitCount_0f7a4_21 : decode cJ6_bitCount_0f7a4 21 = .ok (.iand, 1) := by decide +kernel
theorem dJ6_bitCount_0f7a4_22 : decode cJ6_bitCount_0f7a4 22 = .ok (.iadd, 1) := by decide +kernel
theorem dJ6_bitCount_0f7a4_23 : decode cJ6_bitCount_0f7a4 23 = .ok (.istore_n 0, 1) := by decide +kernel
theorem dJ6_bitCount_0f7a4_24 : decode cJ6_bitCount_0f7a4 24 = .ok (.iload_n 0, 1) := by decide +kernel
theorem dJ6_bitCount_0f7a4_25 : decode cJ6_bitCount_0f7a4 25 = .ok (.iload_n 0, 1) := by decide +kernel
theorem dJ6_bitCount_0f7a4_26 : decode cJ6_bitCount_0f7a4 26 = .ok (.iconst 4, 1) := by decide +kernel
theorem dJ6_bitCount_0f7a4_27 : decode cJ6_bitCount_0f7a4 27 = .ok (.iushr, 1) := by decide +kernel
theorem dJ6_bitCount_0f7a4_28 : decode cJ6_bitCount_0f7a4 28 = .ok (.iadd, 1) := by decide +kernel
theorem dJ6_bitCount_0f7a4_29 : decode cJ6_bitCount_0f7a4 29 = .ok (.ldc_w 267, 3) := by decide +kernel
theorem dJ6_bitCount_0f7a4_32 : decode cJ6_bitCount_0f7a4 32 = .ok (.iand, 1) := by decide +kernel
theorem dJ6_bitCount_0f7a4_33 : decode cJ6_bitCount_0f7a4 33 = .ok (.istore_n 0, 1) := by decide +kernel
theorem dJ6_bitCount_0f7a4_34 : decode cJ6_bitCount_0f7a4 34 = .ok (.iload_n 0, 1) := by decide +kernel
theorem dJ6_bitCount_0f7a4_35 : decode cJ6_bitCount_0f7a4 35 = .ok (.iload_n 0, 1) := by decide +kernel
theorem dJ6_bitCount_0f7a4_36 : decode cJ6_bitCount_0f7a4 36 = .ok (.bipush 8, 2) := by decide +kernel
theorem dJ6_bitCount_0f7a4_38 : decode cJ6_bitCount_0f7a4 38 = .ok (.iushr, 1) := by decide +kernel
theorem dJ6_bitCount_0f7a4_39 : decode cJ6_bitCount_0f7a4 39 = .ok (.iadd, 1) := by decide +kernel
theorem dJ6_bitCount_0f7a4_40 : decode cJ6_bitCount_0f7a4 40 = .ok (.istore_n 0, 1) := by decide +kernel
theorem dJ6_bitCount_0f7a4_41 : decode cJ6_bitCount_0f7a4 41 = .ok (.iload_n 0, 1) := by decide +kernel
theorem dJ6_bitCount_0f7a4_42 : decode cJ6_bitCount_0f7a4 42 = .ok (.iload_n 0, 1) := by decide +kernel
theorem dJ6_bitCount_0f7a4_43 : decode cJ6_bitCount_0f7a4 43 = .ok (.bipush 16, 2) := by decide +kernel
theorem dJ6_bitCount_0f7a4_45 : decode cJ6_bitCount_0f7a4 45 = .ok (.iushr, 1) := by decide +kernel
theorem dJ6_bitCount_0f7a4_46 : decode cJ6_bitCount_0f7a4 46 = .ok (.iadd, 1) := by decide +kernel
theorem dJ6_bitCount_0f7a4_47 : decode cJ6_bitCount_0f7a4 47 = .ok (.istore_n 0, 1) := by decide +kernel
theorem dJ6_bitCount_0f7a4_48 : decode cJ6_bitCount_0f7a4 48 = .ok (.iload_n 0, 1) := by decide +kernel
theorem dJ6_bitCount_0f7a4_49 : decode cJ6_bitCount_0f7a4 49 = .ok (.bipush 63, 2) := by decide +kernel
theorem dJ6_bitCount_0f7a4_51 : decode cJ6_bitCount_0f7a4 51 = .ok (.iand, 1) := by decide +kernel
theorem dJ6_bitCount_0f7a4_52 : decode cJ6_bitCount_0f7a4 52 = .ok (.ireturn, 1) := by decide +kernel
theorem dJ9_max_7cf53_0 : decode cJ9_max_7cf53 0 = .ok (.iload_n 0, 1) := by decide +kernel
theorem dJ9_max_7cf53_1 : decode cJ9_max_7cf53 1 = .ok (.iload_n 1, 1) := by decide +kernel
theorem dJ9_max_7cf53_2 : decode cJ9_max_7cf53 2 = .ok (.if_icmp .lt 7, 3) := by decide +kernel
theorem dJ9_max_7cf53_5 : decode cJ9_max_7cf53 5 = .ok (.iload_n 0, 1) := by decide +kernel
theorem dJ9_max_7cf53_6 : decode cJ9_max_7cf53 6 = .ok (.goto 4, 3) := by decide +kernel
theorem dJ9_max_7cf53_9 : decode cJ9_max_7cf53 9 = .ok (.iload_n 1, 1) := by decide +kernel
theorem dJ9_max_7cf53_10 : decode cJ9_max_7cf53 10 = .ok (.ireturn, 1) := by decide +kernel
theorem dJ7_fill_53178_0 : decode cJ7_fill_53178 0 = .ok (.iconst 0, 1) := by decide +kernel
theorem dJ7_fill_53178_1 : decode cJ7_fill_53178 1 = .ok (.istore_n 2, 1) := by decide +kernel
theorem dJ7_fill_53178_2 : decode cJ7_fill_53178 2 = .ok (.aload_n 0, 1) := by decide +kernel
theorem dJ7_fill_53178_3 : decode cJ7_fill_53178 3 = .ok (.arraylength, 1) := by decide +kernel
theorem dJ7_fill_53178_4 : decode cJ7_fill_53178 4 = .ok (.istore_n 3, 1) := by decide +kernel
theorem dJ7_fill_53178_5 : decode cJ7_fill_53178 5 = .ok (.iload_n 2, 1) := by decide +kernel
theorem dJ7_fill_53178_6 : decode cJ7_fill_53178 6 = .ok (.iload_n 3, 1) := by decide +kernel
theorem dJ7_fill_53178_7 : decode cJ7_fill_53178 7 = .ok (.if_icmp .ge 13, 3) := by decide +kernel
theorem dJ7_fill_53178_10 : decode cJ7_fill_53178 10 = .ok (.aload_n 0, 1) := by decide +kernel
theorem dJ7_fill_53178_11 : decode cJ7_fill_53178 11 = .ok (.iload_n 2, 1) := by decide +kernel
theorem dJ7_fill_53178_12 : decode cJ7_fill_53178 12 = .ok (.iload_n 1, 1) := by decide +kernel
theorem dJ7_fill_53178_13 : decode cJ7_fill_53178 13 = .ok (.iastore, 1) := by decide +kernel
theorem dJ7_fill_53178_14 : decode cJ7_fill_53178 14 = .ok (.iinc 2 1, 3) := by decide +kernel
theorem dJ7_fill_53178_17 : decode cJ7_fill_53178 17 = .ok (.goto (-12), 3) := by decide +kernel
theorem dJ7_fill_53178_20 : decode cJ7_fill_53178 20 = .ok (.return_, 1) := by decide +kernel
theorem dL_name_0 : decode cL_name 0 = .ok (.aload 4, 2) := by decide +kernel
theorem dL_name_2 : decode cL_name 2 = .ok (.iconst 0, 1) := by decide +kernel
theorem dL_name_3 : decode cL_name 3 = .ok (.aload_n 0, 1) := by decide +kernel
theorem dL_name_4 : decode cL_name 4 = .ok (.iload_n 1, 1) := by decide +kernel
theorem dL_name_5 : decode cL_name 5 = .ok (.iload_n 2, 1) := by decide +kernel
theorem dL_name_6 : decode cL_name 6 = .ok (.iload_n 3, 1) := by decide +kernel
theorem dL_name_7 : decode cL_name 7 = .ok (.invokevirtual 7, 3) := by decide +kernel
theorem dL_name_10 : decode cL_name 10 = .ok (.i2l, 1) := by decide +kernel
theorem dL_name_11 : decode cL_name 11 = .ok (.lastore, 1) := by decide +kernel
theorem dL_name_12 : decode cL_name 12 = .ok (.goto 7, 3) := by decide +kernel
theorem dL_name_15 : decode cL_name 15 = .ok (.astore 5, 2) := by decide +kernel
theorem dL_name_17 : decode cL_name 17 = .ok (.iconst 1, 1) := by decide +kernel
theorem dL_name_18 : decode cL_name 18 = .ok (.ireturn, 1) := by decide +kernel
theorem dL_name_19 : decode cL_name 19 = .ok (.iconst 0, 1) := by decide +kernel
theorem dL_name_20 : decode cL_name 20 = .ok (.ireturn, 1) := by decide +kernel
theorem dL_law_0 : decode cL_law 0 = .ok (.new 8, 3) := by decide +kernel
theorem dL_law_3 : decode cL_law 3 = .ok (.dup, 1) := by decide +kernel
theorem dL_law_4 : decode cL_law 4 = .ok (.invokespecial 15, 3) := by decide +kernel
theorem dL_law_7 : decode cL_law 7 = .ok (.astore_n 1, 1) := by decide +kernel
theorem dL_law_8 : decode cL_law 8 = .ok (.new 16, 3) := by decide +kernel
theorem dL_law_11 : decode cL_law 11 = .ok (.dup, 1) := by decide +kernel
theorem dL_law_12 : decode cL_law 12 = .ok (.invokespecial 18, 3) := by decide +kernel
theorem dL_law_15 : decode cL_law 15 = .ok (.astore_n 2, 1) := by decide +kernel
theorem dL_law_16 : decode cL_law 16 = .ok (.iconst 1, 1) := by decide +kernel
theorem dL_law_17 : decode cL_law 17 = .ok (.newarray .long, 2) := by decide +kernel
theorem dL_law_19 : decode cL_law 19 = .ok (.astore_n 3, 1) := by decide +kernel
theorem dL_law_20 : decode cL_law 20 = .ok (.iconst 0, 1) := by decide +kernel
theorem dL_law_21 : decode cL_law 21 = .ok (.istore 4, 2) := by decide +kernel
theorem dL_law_23 : decode cL_law 23 = .ok (.iload 4, 2) := by decide +kernel
theorem dL_law_25 : decode cL_law 25 = .ok (.aload_n 0, 1) := by decide +kernel
theorem dL_law_26 : decode cL_law 26 = .ok (.arraylength, 1) := by decide +kernel
theorem dL_law_27 : decode cL_law 27 = .ok (.bipush 6, 2) := by decide +kernel
theorem dL_law_29 : decode cL_law 29 = .ok (.isub, 1) := by decide +kernel
theorem dL_law_30 : decode cL_law 30 = .ok (.if_icmp .gt 985, 3) := by decide +kernel
theorem dL_law_33 : decode cL_law 33 = .ok (.aload_n 0, 1) := by decide +kernel
theorem dL_law_34 : decode cL_law 34 = .ok (.iload 4, 2) := by decide +kernel
theorem dL_law_36 : decode cL_law 36 = .ok (.iaload, 1) := by decide +kernel
theorem dL_law_37 : decode cL_law 37 = .ok (.bipush 31, 2) := by decide +kernel
theorem dL_law_39 : decode cL_law 39 = .ok (.iand, 1) := by decide +kernel
theorem dL_law_40 : decode cL_law 40 = .ok (.tableswitch 969 0 25 #[120, 193, 218, 231, 244, 293, 389, 414, 439, 492, 517, 542, 567, 604, 629, 654, 679, 716, 753, 802, 827, 852, 865, 878, 931, 956], 120) := by decide +kernel
theorem dL_law_160 : decode cL_law 160 = .ok (.aload_n 1, 1) := by decide +kernel
theorem dL_law_161 : decode cL_law 161 = .ok (.aload_n 0, 1) := by decide +kernel
theorem dL_law_162 : decode cL_law 162 = .ok (.iload 4, 2) := by decide +kernel
theorem dL_law_164 : decode cL_law 164 = .ok (.iconst 1, 1) := by decide +kernel
theorem dL_law_165 : decode cL_law 165 = .ok (.iadd, 1) := by decide +kernel
theorem dL_law_166 : decode cL_law 166 = .ok (.iaload, 1) := by decide +kernel
theorem dL_law_167 : decode cL_law 167 = .ok (.aload_n 0, 1) := by decide +kernel
theorem dL_law_168 : decode cL_law 168 = .ok (.iload 4, 2) := by decide +kernel
theorem dL_law_170 : decode cL_law 170 = .ok (.iconst 2, 1) := by decide +kernel
theorem dL_law_171 : decode cL_law 171 = .ok (.iadd, 1) := by decide +kernel
theorem dL_law_172 : decode cL_law 172 = .ok (.iaload, 1) := by decide +kernel
theorem dL_law_173 : decode cL_law 173 = .ok (.aload_n 0, 1) := by decide +kernel
theorem dL_law_174 : decode cL_law 174 = .ok (.iload 4, 2) := by decide +kernel
theorem dL_law_176 : decode cL_law 176 = .ok (.iconst 3, 1) := by decide +kernel
theorem dL_law_177 : decode cL_law 177 = .ok (.iadd, 1) := by decide +kernel
theorem dL_law_178 : decode cL_law 178 = .ok (.iaload, 1) := by decide +kernel
theorem dL_law_179 : decode cL_law 179 = .ok (.aload_n 0, 1) := by decide +kernel
theorem dL_law_180 : decode cL_law 180 = .ok (.iload 4, 2) := by decide +kernel
theorem dL_law_182 : decode cL_law 182 = .ok (.iconst 4, 1) := by decide +kernel
theorem dL_law_183 : decode cL_law 183 = .ok (.iadd, 1) := by decide +kernel
theorem dL_law_184 : decode cL_law 184 = .ok (.iaload, 1) := by decide +kernel
theorem dL_law_185 : decode cL_law 185 = .ok (.aload_n 0, 1) := by decide +kernel
theorem dL_law_186 : decode cL_law 186 = .ok (.iload 4, 2) := by decide +kernel
theorem dL_law_188 : decode cL_law 188 = .ok (.iconst 5, 1) := by decide +kernel
theorem dL_law_189 : decode cL_law 189 = .ok (.iadd, 1) := by decide +kernel
theorem dL_law_190 : decode cL_law 190 = .ok (.iaload, 1) := by decide +kernel
theorem dL_law_191 : decode cL_law 191 = .ok (.invokevirtual 19, 3) := by decide +kernel
theorem dL_law_194 : decode cL_law 194 = .ok (.aload_n 2, 1) := by decide +kernel
theorem dL_law_195 : decode cL_law 195 = .ok (.aload_n 0, 1) := by decide +kernel
theorem dL_law_196 : decode cL_law 196 = .ok (.iload 4, 2) := by decide +kernel
theorem dL_law_198 : decode cL_law 198 = .ok (.iconst 1, 1) := by decide +kernel
theorem dL_law_199 : decode cL_law 199 = .ok (.iadd, 1) := by decide +kernel
theorem dL_law_200 : decode cL_law 200 = .ok (.iaload, 1) := by decide +kernel
theorem dL_law_201 : decode cL_law 201 = .ok (.aload_n 0, 1) := by decide +kernel
theorem dL_law_202 : decode cL_law 202 = .ok (.iload 4, 2) := by decide +kernel
theorem dL_law_204 : decode cL_law 204 = .ok (.iconst 2, 1) := by decide +kernel
theorem dL_law_205 : decode cL_law 205 = .ok (.iadd, 1) := by decide +kernel
theorem dL_law_206 : decode cL_law 206 = .ok (.iaload, 1) := by decide +kernel
theorem dL_law_207 : decode cL_law 207 = .ok (.aload_n 0, 1) := by decide +kernel
theorem dL_law_208 : decode cL_law 208 = .ok (.iload 4, 2) := by decide +kernel
theorem dL_law_210 : decode cL_law 210 = .ok (.iconst 3, 1) := by decide +kernel
theorem dL_law_211 : decode cL_law 211 = .ok (.iadd, 1) := by decide +kernel
theorem dL_law_212 : decode cL_law 212 = .ok (.iaload, 1) := by decide +kernel
theorem dL_law_213 : decode cL_law 213 = .ok (.aload_n 0, 1) := by decide +kernel
theorem dL_law_214 : decode cL_law 214 = .ok (.iload 4, 2) := by decide +kernel
theorem dL_law_216 : decode cL_law 216 = .ok (.iconst 4, 1) := by decide +kernel
theorem dL_law_217 : decode cL_law 217 = .ok (.iadd, 1) := by decide +kernel
theorem dL_law_218 : decode cL_law 218 = .ok (.iaload, 1) := by decide +kernel
theorem dL_law_219 : decode cL_law 219 = .ok (.aload_n 0, 1) := by decide +kernel
theorem dL_law_220 : decode cL_law 220 = .ok (.iload 4, 2) := by decide +kernel
theorem dL_law_222 : decode cL_law 222 = .ok (.iconst 5, 1) := by decide +kernel
theorem dL_law_223 : decode cL_law 223 = .ok (.iadd, 1) := by decide +kernel
theorem dL_law_224 : decode cL_law 224 = .ok (.iaload, 1) := by decide +kernel
theorem dL_law_225 : decode cL_law 225 = .ok (.invokevirtual 23, 3) := by decide +kernel
theorem dL_law_228 : decode cL_law 228 = .ok (.if_icmp .eq 781, 3) := by decide +kernel
theorem dL_law_231 : decode cL_law 231 = .ok (.iconst 0, 1) := by decide +kernel
theorem dL_law_232 : decode cL_law 232 = .ok (.ireturn, 1) := by decide +kernel
theorem dL_law_233 : decode cL_law 233 = .ok (.aload_n 1, 1) := by decide +kernel
theorem dL_law_234 : decode cL_law 234 = .ok (.aload_n 0, 1) := by decide +kernel
theorem dL_law_235 : decode cL_law 235 = .ok (.iload 4, 2) := by decide +kernel
theorem dL_law_237 : decode cL_law 237 = .ok (.iconst 1, 1) := by decide +kernel
theorem dL_law_238 : decode cL_law 238 = .ok (.iadd, 1) := by decide +kernel
theorem dL_law_239 : decode cL_law 239 = .ok (.iaload, 1) := by decide +kernel
theorem dL_law_240 : decode cL_law 240 = .ok (.invokevirtual 24, 3) := by decide +kernel
theorem dL_law_243 : decode cL_law 243 = .ok (.aload_n 2, 1) := by decide +kernel
theorem dL_law_244 : decode cL_law 244 = .ok (.aload_n 0, 1) := by decide +kernel
theorem dL_law_245 : decode cL_law 245 = .ok (.iload 4, 2) := by decide +kernel
theorem dL_law_247 : decode cL_law 247 = .ok (.iconst 1, 1) := by decide +kernel
theorem dL_law_248 : decode cL_law 248 = .ok (.iadd, 1) := by decide +kernel
theorem dL_law_249 : decode cL_law 249 = .ok (.iaload, 1) := by decide +kernel
theorem dL_law_250 : decode cL_law 250 = .ok (.invokevirtual 28, 3) := by decide +kernel
theorem dL_law_253 : decode cL_law 253 = .ok (.if_icmp .eq 756, 3) := by decide +kernel
theorem dL_law_256 : decode cL_law 256 = .ok (.iconst 0, 1) := by decide +kernel
theorem dL_law_257 : decode cL_law 257 = .ok (.ireturn, 1) := by decide +kernel
theorem dL_law_258 : decode cL_law 258 = .ok (.aload_n 1, 1) := by decide +kernel
theorem dL_law_259 : decode cL_law 259 = .ok (.invokevirtual 29, 3) := by decide +kernel
theorem dL_law_262 : decode cL_law 262 = .ok (.aload_n 2, 1) := by decide +kernel
theorem dL_law_263 : decode cL_law 263 = .ok (.invokevirtual 33, 3) := by decide +kernel
theorem dL_law_266 : decode cL_law 266 = .ok (.if_icmp .eq 743, 3) := by decide +kernel
theorem dL_law_269 : decode cL_law 269 = .ok (.iconst 0, 1) := by decide +kernel
theorem dL_law_270 : decode cL_law 270 = .ok (.ireturn, 1) := by decide +kernel
theorem dL_law_271 : decode cL_law 271 = .ok (.aload_n 1, 1) := by decide +kernel
theorem dL_law_272 : decode cL_law 272 = .ok (.invokevirtual 34, 3) := by decide +kernel
theorem dL_law_275 : decode cL_law 275 = .ok (.aload_n 2, 1) := by decide +kernel
theorem dL_law_276 : decode cL_law 276 = .ok (.invokevirtual 37, 3) := by decide +kernel
theorem dL_law_279 : decode cL_law 279 = .ok (.if_icmp .eq 730, 3) := by decide +kernel
theorem dL_law_282 : decode cL_law 282 = .ok (.iconst 0, 1) := by decide +kernel
theorem dL_law_283 : decode cL_law 283 = .ok (.ireturn, 1) := by decide +kernel
theorem dL_law_284 : decode cL_law 284 = .ok (.aload_n 1, 1) := by decide +kernel
theorem dL_law_285 : decode cL_law 285 = .ok (.aload_n 0, 1) := by decide +kernel
theorem dL_law_286 : decode cL_law 286 = .ok (.iload 4, 2) := by decide +kernel
theorem dL_law_288 : decode cL_law 288 = .ok (.iconst 1, 1) := by decide +kernel
theorem dL_law_289 : decode cL_law 289 = .ok (.iadd, 1) := by decide +kernel
theorem dL_law_290 : decode cL_law 290 = .ok (.iaload, 1) := by decide +kernel
theorem dL_law_291 : decode cL_law 291 = .ok (.aload_n 0, 1) := by decide +kernel
theorem dL_law_292 : decode cL_law 292 = .ok (.iload 4, 2) := by decide +kernel
theorem dL_law_294 : decode cL_law 294 = .ok (.iconst 2, 1) := by decide +kernel
theorem dL_law_295 : decode cL_law 295 = .ok (.iadd, 1) := by decide +kernel
theorem dL_law_296 : decode cL_law 296 = .ok (.iaload, 1) := by decide +kernel
theorem dL_law_297 : decode cL_law 297 = .ok (.aload_n 0, 1) := by decide +kernel
theorem dL_law_298 : decode cL_law 298 = .ok (.iload 4, 2) := by decide +kernel
theorem dL_law_300 : decode cL_law 300 = .ok (.iconst 3, 1) := by decide +kernel
theorem dL_law_301 : decode cL_law 301 = .ok (.iadd, 1) := by decide +kernel
theorem dL_law_302 : decode cL_law 302 = .ok (.iaload, 1) := by decide +kernel
theorem dL_law_303 : decode cL_law 303 = .ok (.invokevirtual 38, 3) := by decide +kernel
theorem dL_law_306 : decode cL_law 306 = .ok (.aload_n 2, 1) := by decide +kernel
theorem dL_law_307 : decode cL_law 307 = .ok (.aload_n 0, 1) := by decide +kernel
theorem dL_law_308 : decode cL_law 308 = .ok (.iload 4, 2) := by decide +kernel
theorem dL_law_310 : decode cL_law 310 = .ok (.iconst 1, 1) := by decide +kernel
theorem dL_law_311 : decode cL_law 311 = .ok (.iadd, 1) := by decide +kernel
theorem dL_law_312 : decode cL_law 312 = .ok (.iaload, 1) := by decide +kernel
theorem dL_law_313 : decode cL_law 313 = .ok (.aload_n 0, 1) := by decide +kernel
theorem dL_law_314 : decode cL_law 314 = .ok (.iload 4, 2) := by decide +kernel
theorem dL_law_316 : decode cL_law 316 = .ok (.iconst 2, 1) := by decide +kernel
theorem dL_law_317 : decode cL_law 317 = .ok (.iadd, 1) := by decide +kernel
theorem dL_law_318 : decode cL_law 318 = .ok (.iaload, 1) := by decide +kernel
theorem dL_law_319 : decode cL_law 319 = .ok (.aload_n 0, 1) := by decide +kernel
theorem dL_law_320 : decode cL_law 320 = .ok (.iload 4, 2) := by decide +kernel
theorem dL_law_322 : decode cL_law 322 = .ok (.iconst 3, 1) := by decide +kernel
theorem dL_law_323 : decode cL_law 323 = .ok (.iadd, 1) := by decide +kernel
theorem dL_law_324 : decode cL_law 324 = .ok (.iaload, 1) := by decide +kernel
theorem dL_law_325 : decode cL_law 325 = .ok (.invokevirtual 42, 3) := by decide +kernel
theorem dL_law_328 : decode cL_law 328 = .ok (.if_icmp .eq 681, 3) := by decide +kernel
theorem dL_law_331 : decode cL_law 331 = .ok (.iconst 0, 1) := by decide +kernel
theorem dL_law_332 : decode cL_law 332 = .ok (.ireturn, 1) := by decide +kernel
theorem dL_law_333 : decode cL_law 333 = .ok (.aload_n 1, 1) := by decide +kernel
theorem dL_law_334 : decode cL_law 334 = .ok (.aload_n 0, 1) := by decide +kernel
theorem dL_law_335 : decode cL_law 335 = .ok (.iload 4, 2) := by decide +kernel
theorem dL_law_337 : decode cL_law 337 = .ok (.iconst 1, 1) := by decide +kernel
theorem dL_law_338 : decode cL_law 338 = .ok (.iadd, 1) := by decide +kernel
theorem dL_law_339 : decode cL_law 339 = .ok (.iaload, 1) := by decide +kernel
theorem dL_law_340 : decode cL_law 340 = .ok (.aload_n 0, 1) := by decide +kernel
theorem dL_law_341 : decode cL_law 341 = .ok (.iload 4, 2) := by decide +kernel
theorem dL_law_343 : decode cL_law 343 = .ok (.iconst 2, 1) := by decide +kernel
theorem dL_law_344 : decode cL_law 344 = .ok (.iadd, 1) := by decide +kernel
theorem dL_law_345 : decode cL_law 345 = .ok (.iaload, 1) := by decide +kernel
theorem dL_law_346 : decode cL_law 346 = .ok (.aload_n 0, 1) := by decide +kernel
theorem dL_law_347 : decode cL_law 347 = .ok (.iload 4, 2) := by decide +kernel
theorem dL_law_349 : decode cL_law 349 = .ok (.iconst 3, 1) := by decide +kernel
theorem dL_law_350 : decode cL_law 350 = .ok (.iadd, 1) := by decide +kernel
theorem dL_law_351 : decode cL_law 351 = .ok (.iaload, 1) := by decide +kernel
theorem dL_law_352 : decode cL_law 352 = .ok (.ifCond .eq 7, 3) := by decide +kernel
theorem dL_law_355 : decode cL_law 355 = .ok (.iconst 1, 1) := by decide +kernel
theorem dL_law_356 : decode cL_law 356 = .ok (.goto 4, 3) := by decide +kernel
theorem dL_law_359 : decode cL_law 359 = .ok (.iconst 0, 1) := by decide +kernel
theorem dL_law_360 : decode cL_law 360 = .ok (.aload_n 3, 1) := by decide +kernel
theorem dL_law_361 : decode cL_law 361 = .ok (.invokestatic 43, 3) := by decide +kernel
theorem dL_law_364 : decode cL_law 364 = .ok (.istore 5, 2) := by decide +kernel
theorem dL_law_366 : decode cL_law 366 = .ok (.aload_n 2, 1) := by decide +kernel
theorem dL_law_367 : decode cL_law 367 = .ok (.aload_n 0, 1) := by decide +kernel
theorem dL_law_368 : decode cL_law 368 = .ok (.iload 4, 2) := by decide +kernel
theorem dL_law_370 : decode cL_law 370 = .ok (.iconst 1, 1) := by decide +kernel
theorem dL_law_371 : decode cL_law 371 = .ok (.iadd, 1) := by decide +kernel
theorem dL_law_372 : decode cL_law 372 = .ok (.iaload, 1) := by decide +kernel
theorem dL_law_373 : decode cL_law 373 = .ok (.aload_n 0, 1) := by decide +kernel
theorem dL_law_374 : decode cL_law 374 = .ok (.iload 4, 2) := by decide +kernel
theorem dL_law_376 : decode cL_law 376 = .ok (.iconst 2, 1) := by decide +kernel
theorem dL_law_377 : decode cL_law 377 = .ok (.iadd, 1) := by decide +kernel
theorem dL_law_378 : decode cL_law 378 = .ok (.iaload, 1) := by decide +kernel
theorem dL_law_379 : decode cL_law 379 = .ok (.aload_n 0, 1) := by decide +kernel
theorem dL_law_380 : decode cL_law 380 = .ok (.iload 4, 2) := by decide +kernel
theorem dL_law_382 : decode cL_law 382 = .ok (.iconst 3, 1) := by decide +kernel
theorem dL_law_383 : decode cL_law 383 = .ok (.iadd, 1) := by decide +kernel
theorem dL_law_384 : decode cL_law 384 = .ok (.iaload, 1) := by decide +kernel
theorem dL_law_385 : decode cL_law 385 = .ok (.ifCond .eq 7, 3) := by decide +kernel
theorem dL_law_388 : decode cL_law 388 = .ok (.iconst 1, 1) := by decide +kernel
theorem dL_law_389 : decode cL_law 389 = .ok (.goto 4, 3) := by decide +kernel
theorem dL_law_392 : decode cL_law 392 = .ok (.iconst 0, 1) := by decide +kernel
theorem dL_law_393 : decode cL_law 393 = .ok (.invokevirtual 48, 3) := by decide +kernel
theorem dL_law_396 : decode cL_law 396 = .ok (.istore 6, 2) := by decide +kernel
theorem dL_law_398 : decode cL_law 398 = .ok (.aload_n 2, 1) := by decide +kernel
theorem dL_law_399 : decode cL_law 399 = .ok (.invokevirtual 49, 3) := by decide +kernel
theorem dL_law_402 : decode cL_law 402 = .ok (.iload 5, 2) := by decide +kernel
theorem dL_law_404 : decode cL_law 404 = .ok (.if_icmp .eq 5, 3) := by decide +kernel
theorem dL_law_407 : decode cL_law 407 = .ok (.iconst 0, 1) := by decide +kernel
theorem dL_law_408 : decode cL_law 408 = .ok (.ireturn, 1) := by decide +kernel
theorem dL_law_409 : decode cL_law 409 = .ok (.iload 5, 2) := by decide +kernel
theorem dL_law_411 : decode cL_law 411 = .ok (.ifCond .ne 15, 3) := by decide +kernel
theorem dL_law_414 : decode cL_law 414 = .ok (.aload_n 3, 1) := by decide +kernel
theorem dL_law_415 : decode cL_law 415 = .ok (.iconst 0, 1) := by decide +kernel
theorem dL_law_416 : decode cL_law 416 = .ok (.laload, 1) := by decide +kernel
theorem dL_law_417 : decode cL_law 417 = .ok (.iload 6, 2) := by decide +kernel
theorem dL_law_419 : decode cL_law 419 = .ok (.i2l, 1) := by decide +kernel
theorem dL_law_420 : decode cL_law 420 = .ok (.lcmp, 1) := by decide +kernel
theorem dL_law_421 : decode cL_law 421 = .ok (.ifCond .eq 5, 3) := by decide +kernel
theorem dL_law_424 : decode cL_law 424 = .ok (.iconst 0, 1) := by decide +kernel
theorem dL_law_425 : decode cL_law 425 = .ok (.ireturn, 1) := by decide +kernel
theorem dL_law_426 : decode cL_law 426 = .ok (.goto 583, 3) := by decide +kernel
theorem dL_law_429 : decode cL_law 429 = .ok (.aload_n 1, 1) := by decide +kernel
theorem dL_law_430 : decode cL_law 430 = .ok (.aload_n 0, 1) := by decide +kernel
theorem dL_law_431 : decode cL_law 431 = .ok (.iload 4, 2) := by decide +kernel
theorem dL_law_433 : decode cL_law 433 = .ok (.iconst 1, 1) := by decide +kernel
theorem dL_law_434 : decode cL_law 434 = .ok (.iadd, 1) := by decide +kernel
theorem dL_law_435 : decode cL_law 435 = .ok (.iaload, 1) := by decide +kernel
theorem dL_law_436 : decode cL_law 436 = .ok (.invokevirtual 52, 3) := by decide +kernel
theorem dL_law_439 : decode cL_law 439 = .ok (.aload_n 2, 1) := by decide +kernel
theorem dL_law_440 : decode cL_law 440 = .ok (.aload_n 0, 1) := by decide +kernel
theorem dL_law_441 : decode cL_law 441 = .ok (.iload 4, 2) := by decide +kernel
theorem dL_law_443 : decode cL_law 443 = .ok (.iconst 1, 1) := by decide +kernel
theorem dL_law_444 : decode cL_law 444 = .ok (.iadd, 1) := by decide +kernel
theorem dL_law_445 : decode cL_law 445 = .ok (.iaload, 1) := by decide +kernel
theorem dL_law_446 : decode cL_law 446 = .ok (.invokevirtual 55, 3) := by decide +kernel
theorem dL_law_449 : decode cL_law 449 = .ok (.if_icmp .eq 560, 3) := by decide +kernel
theorem dL_law_452 : decode cL_law 452 = .ok (.iconst 0, 1) := by decide +kernel
theorem dL_law_453 : decode cL_law 453 = .ok (.ireturn, 1) := by decide +kernel
theorem dL_law_454 : decode cL_law 454 = .ok (.aload_n 1, 1) := by decide +kernel
theorem dL_law_455 : decode cL_law 455 = .ok (.aload_n 0, 1) := by decide +kernel
theorem dL_law_456 : decode cL_law 456 = .ok (.iload 4, 2) := by decide +kernel
theorem dL_law_458 : decode cL_law 458 = .ok (.iconst 1, 1) := by decide +kernel
theorem dL_law_459 : decode cL_law 459 = .ok (.iadd, 1) := by decide +kernel
theorem dL_law_460 : decode cL_law 460 = .ok (.iaload, 1) := by decide +kernel
theorem dL_law_461 : decode cL_law 461 = .ok (.invokevirtual 56, 3) := by decide +kernel
theorem dL_law_464 : decode cL_law 464 = .ok (.aload_n 2, 1) := by decide +kernel
theorem dL_law_465 : decode cL_law 465 = .ok (.aload_n 0, 1) := by decide +kernel
theorem dL_law_466 : decode cL_law 466 = .ok (.iload 4, 2) := by decide +kernel
theorem dL_law_468 : decode cL_law 468 = .ok (.iconst 1, 1) := by decide +kernel
theorem dL_law_469 : decode cL_law 469 = .ok (.iadd, 1) := by decide +kernel
theorem dL_law_470 : decode cL_law 470 = .ok (.iaload, 1) := by decide +kernel
theorem dL_law_471 : decode cL_law 471 = .ok (.invokevirtual 59, 3) := by decide +kernel
theorem dL_law_474 : decode cL_law 474 = .ok (.if_icmp .eq 535, 3) := by decide +kernel
theorem dL_law_477 : decode cL_law 477 = .ok (.iconst 0, 1) := by decide +kernel
theorem dL_law_478 : decode cL_law 478 = .ok (.ireturn, 1) := by decide +kernel
theorem dL_law_479 : decode cL_law 479 = .ok (.aload_n 1, 1) := by decide +kernel
theorem dL_law_480 : decode cL_law 480 = .ok (.aload_n 0, 1) := by decide +kernel
theorem dL_law_481 : decode cL_law 481 = .ok (.iload 4, 2) := by decide +kernel
theorem dL_law_483 : decode cL_law 483 = .ok (.iconst 1, 1) := by decide +kernel
theorem dL_law_484 : decode cL_law 484 = .ok (.iadd, 1) := by decide +kernel
theorem dL_law_485 : decode cL_law 485 = .ok (.iaload, 1) := by decide +kernel
theorem dL_law_486 : decode cL_law 486 = .ok (.aload_n 0, 1) := by decide +kernel
theorem dL_law_487 : decode cL_law 487 = .ok (.iload 4, 2) := by decide +kernel
theorem dL_law_489 : decode cL_law 489 = .ok (.iconst 2, 1) := by decide +kernel
theorem dL_law_490 : decode cL_law 490 = .ok (.iadd, 1) := by decide +kernel
theorem dL_law_491 : decode cL_law 491 = .ok (.iaload, 1) := by decide +kernel
theorem dL_law_492 : decode cL_law 492 = .ok (.ifCond .eq 7, 3) := by decide +kernel
theorem dL_law_495 : decode cL_law 495 = .ok (.iconst 1, 1) := by decide +kernel
theorem dL_law_496 : decode cL_law 496 = .ok (.goto 4, 3) := by decide +kernel
theorem dL_law_499 : decode cL_law 499 = .ok (.iconst 0, 1) := by decide +kernel
theorem dL_law_500 : decode cL_law 500 = .ok (.invokevirtual 60, 3) := by decide +kernel
theorem dL_law_503 : decode cL_law 503 = .ok (.aload_n 2, 1) := by decide +kernel
theorem dL_law_504 : decode cL_law 504 = .ok (.aload_n 0, 1) := by decide +kernel
theorem dL_law_505 : decode cL_law 505 = .ok (.iload 4, 2) := by decide +kernel
theorem dL_law_507 : decode cL_law 507 = .ok (.iconst 1, 1) := by decide +kernel
theorem dL_law_508 : decode cL_law 508 = .ok (.iadd, 1) := by decide +kernel
theorem dL_law_509 : decode cL_law 509 = .ok (.iaload, 1) := by decide +kernel
theorem dL_law_510 : decode cL_law 510 = .ok (.aload_n 0, 1) := by decide +kernel
theorem dL_law_511 : decode cL_law 511 = .ok (.iload 4, 2) := by decide +kernel
theorem dL_law_513 : decode cL_law 513 = .ok (.iconst 2, 1) := by decide +kernel
theorem dL_law_514 : decode cL_law 514 = .ok (.iadd, 1) := by decide +kernel
theorem dL_law_515 : decode cL_law 515 = .ok (.iaload, 1) := by decide +kernel
theorem dL_law_516 : decode cL_law 516 = .ok (.ifCond .eq 7, 3) := by decide +kernel
theorem dL_law_519 : decode cL_law 519 = .ok (.iconst 1, 1) := by decide +kernel
theorem dL_law_520 : decode cL_law 520 = .ok (.goto 4, 3) := by decide +kernel
theorem dL_law_523 : decode cL_law 523 = .ok (.iconst 0, 1) := by decide +kernel
theorem dL_law_524 : decode cL_law 524 = .ok (.invokevirtual 64, 3) := by decide +kernel
theorem dL_law_527 : decode cL_law 527 = .ok (.if_icmp .eq 482, 3) := by decide +kernel
theorem dL_law_530 : decode cL_law 530 = .ok (.iconst 0, 1) := by decide +kernel
theorem dL_law_531 : decode cL_law 531 = .ok (.ireturn, 1) := by decide +kernel
theorem dL_law_532 : decode cL_law 532 = .ok (.aload_n 1, 1) := by decide +kernel
theorem dL_law_533 : decode cL_law 533 = .ok (.aload_n 0, 1) := by decide +kernel
theorem dL_law_534 : decode cL_law 534 = .ok (.iload 4, 2) := by decide +kernel
theorem dL_law_536 : decode cL_law 536 = .ok (.iconst 1, 1) := by decide +kernel
theorem dL_law_537 : decode cL_law 537 = .ok (.iadd, 1) := by decide +kernel
theorem dL_law_538 : decode cL_law 538 = .ok (.iaload, 1) := by decide +kernel
theorem dL_law_539 : decode cL_law 539 = .ok (.invokevirtual 65, 3) := by decide +kernel
theorem dL_law_542 : decode cL_law 542 = .ok (.aload_n 2, 1) := by decide +kernel
theorem dL_law_543 : decode cL_law 543 = .ok (.aload_n 0, 1) := by decide +kernel
theorem dL_law_544 : decode cL_law 544 = .ok (.iload 4, 2) := by decide +kernel
theorem dL_law_546 : decode cL_law 546 = .ok (.iconst 1, 1) := by decide +kernel
theorem dL_law_547 : decode cL_law 547 = .ok (.iadd, 1) := by decide +kernel
theorem dL_law_548 : decode cL_law 548 = .ok (.iaload, 1) := by decide +kernel
theorem dL_law_549 : decode cL_law 549 = .ok (.invokevirtual 69, 3) := by decide +kernel
theorem dL_law_552 : decode cL_law 552 = .ok (.if_icmp .eq 457, 3) := by decide +kernel
theorem dL_law_555 : decode cL_law 555 = .ok (.iconst 0, 1) := by decide +kernel
theorem dL_law_556 : decode cL_law 556 = .ok (.ireturn, 1) := by decide +kernel
theorem dL_law_557 : decode cL_law 557 = .ok (.aload_n 1, 1) := by decide +kernel
theorem dL_law_558 : decode cL_law 558 = .ok (.aload_n 0, 1) := by decide +kernel
theorem dL_law_559 : decode cL_law 559 = .ok (.iload 4, 2) := by decide +kernel
theorem dL_law_561 : decode cL_law 561 = .ok (.iconst 1, 1) := by decide +kernel
theorem dL_law_562 : decode cL_law 562 = .ok (.iadd, 1) := by decide +kernel
theorem dL_law_563 : decode cL_law 563 = .ok (.iaload, 1) := by decide +kernel
theorem dL_law_564 : decode cL_law 564 = .ok (.invokevirtual 70, 3) := by decide +kernel
theorem dL_law_567 : decode cL_law 567 = .ok (.aload_n 2, 1) := by decide +kernel
theorem dL_law_568 : decode cL_law 568 = .ok (.aload_n 0, 1) := by decide +kernel
theorem dL_law_569 : decode cL_law 569 = .ok (.iload 4, 2) := by decide +kernel
theorem dL_law_571 : decode cL_law 571 = .ok (.iconst 1, 1) := by decide +kernel
theorem dL_law_572 : decode cL_law 572 = .ok (.iadd, 1) := by decide +kernel
theorem dL_law_573 : decode cL_law 573 = .ok (.iaload, 1) := by decide +kernel
theorem dL_law_574 : decode cL_law 574 = .ok (.invokevirtual 73, 3) := by decide +kernel
theorem dL_law_577 : decode cL_law 577 = .ok (.if_icmp .eq 432, 3) := by decide +kernel
theorem dL_law_580 : decode cL_law 580 = .ok (.iconst 0, 1) := by decide +kernel
theorem dL_law_581 : decode cL_law 581 = .ok (.ireturn, 1) := by decide +kernel
theorem dL_law_582 : decode cL_law 582 = .ok (.aload_n 1, 1) := by decide +kernel
theorem dL_law_583 : decode cL_law 583 = .ok (.aload_n 0, 1) := by decide +kernel
theorem dL_law_584 : decode cL_law 584 = .ok (.iload 4, 2) := by decide +kernel
theorem dL_law_586 : decode cL_law 586 = .ok (.iconst 1, 1) := by decide +kernel
theorem dL_law_587 : decode cL_law 587 = .ok (.iadd, 1) := by decide +kernel
theorem dL_law_588 : decode cL_law 588 = .ok (.iaload, 1) := by decide +kernel
theorem dL_law_589 : decode cL_law 589 = .ok (.invokevirtual 74, 3) := by decide +kernel
theorem dL_law_592 : decode cL_law 592 = .ok (.aload_n 2, 1) := by decide +kernel
theorem dL_law_593 : decode cL_law 593 = .ok (.aload_n 0, 1) := by decide +kernel
theorem dL_law_594 : decode cL_law 594 = .ok (.iload 4, 2) := by decide +kernel
theorem dL_law_596 : decode cL_law 596 = .ok (.iconst 1, 1) := by decide +kernel
theorem dL_law_597 : decode cL_law 597 = .ok (.iadd, 1) := by decide +kernel
theorem dL_law_598 : decode cL_law 598 = .ok (.iaload, 1) := by decide +kernel
theorem dL_law_599 : decode cL_law 599 = .ok (.invokevirtual 77, 3) := by decide +kernel
theorem dL_law_602 : decode cL_law 602 = .ok (.if_icmp .eq 407, 3) := by decide +kernel
theorem dL_law_605 : decode cL_law 605 = .ok (.iconst 0, 1) := by decide +kernel
theorem dL_law_606 : decode cL_law 606 = .ok (.ireturn, 1) := by decide +kernel
theorem dL_law_607 : decode cL_law 607 = .ok (.aload_n 1, 1) := by decide +kernel
theorem dL_law_608 : decode cL_law 608 = .ok (.aload_n 0, 1) := by decide +kernel
theorem dL_law_609 : decode cL_law 609 = .ok (.iload 4, 2) := by decide +kernel
theorem dL_law_611 : decode cL_law 611 = .ok (.iconst 1, 1) := by decide +kernel
theorem dL_law_612 : decode cL_law 612 = .ok (.iadd, 1) := by decide +kernel
theorem dL_law_613 : decode cL_law 613 = .ok (.iaload, 1) := by decide +kernel
theorem dL_law_614 : decode cL_law 614 = .ok (.aload_n 0, 1) := by decide +kernel
theorem dL_law_615 : decode cL_law 615 = .ok (.iload 4, 2) := by decide +kernel
theorem dL_law_617 : decode cL_law 617 = .ok (.iconst 2, 1) := by decide +kernel
theorem dL_law_618 : decode cL_law 618 = .ok (.iadd, 1) := by decide +kernel
theorem dL_law_619 : decode cL_law 619 = .ok (.iaload, 1) := by decide +kernel
theorem dL_law_620 : decode cL_law 620 = .ok (.invokevirtual 78, 3) := by decide +kernel
theorem dL_law_623 : decode cL_law 623 = .ok (.aload_n 2, 1) := by decide +kernel
theorem dL_law_624 : decode cL_law 624 = .ok (.aload_n 0, 1) := by decide +kernel
theorem dL_law_625 : decode cL_law 625 = .ok (.iload 4, 2) := by decide +kernel
theorem dL_law_627 : decode cL_law 627 = .ok (.iconst 1, 1) := by decide +kernel
theorem dL_law_628 : decode cL_law 628 = .ok (.iadd, 1) := by decide +kernel
theorem dL_law_629 : decode cL_law 629 = .ok (.iaload, 1) := by decide +kernel
theorem dL_law_630 : decode cL_law 630 = .ok (.aload_n 0, 1) := by decide +kernel
theorem dL_law_631 : decode cL_law 631 = .ok (.iload 4, 2) := by decide +kernel
theorem dL_law_633 : decode cL_law 633 = .ok (.iconst 2, 1) := by decide +kernel
theorem dL_law_634 : decode cL_law 634 = .ok (.iadd, 1) := by decide +kernel
theorem dL_law_635 : decode cL_law 635 = .ok (.iaload, 1) := by decide +kernel
theorem dL_law_636 : decode cL_law 636 = .ok (.invokevirtual 82, 3) := by decide +kernel
theorem dL_law_639 : decode cL_law 639 = .ok (.if_icmp .eq 370, 3) := by decide +kernel
theorem dL_law_642 : decode cL_law 642 = .ok (.iconst 0, 1) := by decide +kernel
theorem dL_law_643 : decode cL_law 643 = .ok (.ireturn, 1) := by decide +kernel
theorem dL_law_644 : decode cL_law 644 = .ok (.aload_n 1, 1) := by decide +kernel
theorem dL_law_645 : decode cL_law 645 = .ok (.aload_n 0, 1) := by decide +kernel
theorem dL_law_646 : decode cL_law 646 = .ok (.iload 4, 2) := by decide +kernel
theorem dL_law_648 : decode cL_law 648 = .ok (.iconst 1, 1) := by decide +kernel
theorem dL_law_649 : decode cL_law 649 = .ok (.iadd, 1) := by decide +kernel
theorem dL_law_650 : decode cL_law 650 = .ok (.iaload, 1) := by decide +kernel
theorem dL_law_651 : decode cL_law 651 = .ok (.invokevirtual 83, 3) := by decide +kernel
theorem dL_law_654 : decode cL_law 654 = .ok (.aload_n 2, 1) := by decide +kernel
theorem dL_law_655 : decode cL_law 655 = .ok (.aload_n 0, 1) := by decide +kernel
theorem dL_law_656 : decode cL_law 656 = .ok (.iload 4, 2) := by decide +kernel
theorem dL_law_658 : decode cL_law 658 = .ok (.iconst 1, 1) := by decide +kernel
theorem dL_law_659 : decode cL_law 659 = .ok (.iadd, 1) := by decide +kernel
theorem dL_law_660 : decode cL_law 660 = .ok (.iaload, 1) := by decide +kernel
theorem dL_law_661 : decode cL_law 661 = .ok (.invokevirtual 86, 3) := by decide +kernel
theorem dL_law_664 : decode cL_law 664 = .ok (.if_icmp .eq 345, 3) := by decide +kernel
theorem dL_law_667 : decode cL_law 667 = .ok (.iconst 0, 1) := by decide +kernel
theorem dL_law_668 : decode cL_law 668 = .ok (.ireturn, 1) := by decide +kernel
theorem dL_law_669 : decode cL_law 669 = .ok (.aload_n 1, 1) := by decide +kernel
theorem dL_law_670 : decode cL_law 670 = .ok (.aload_n 0, 1) := by decide +kernel
theorem dL_law_671 : decode cL_law 671 = .ok (.iload 4, 2) := by decide +kernel
theorem dL_law_673 : decode cL_law 673 = .ok (.iconst 1, 1) := by decide +kernel
theorem dL_law_674 : decode cL_law 674 = .ok (.iadd, 1) := by decide +kernel
theorem dL_law_675 : decode cL_law 675 = .ok (.iaload, 1) := by decide +kernel
theorem dL_law_676 : decode cL_law 676 = .ok (.invokevirtual 87, 3) := by decide +kernel
theorem dL_law_679 : decode cL_law 679 = .ok (.aload_n 2, 1) := by decide +kernel
theorem dL_law_680 : decode cL_law 680 = .ok (.aload_n 0, 1) := by decide +kernel
theorem dL_law_681 : decode cL_law 681 = .ok (.iload 4, 2) := by decide +kernel
theorem dL_law_683 : decode cL_law 683 = .ok (.iconst 1, 1) := by decide +kernel
theorem dL_law_684 : decode cL_law 684 = .ok (.iadd, 1) := by decide +kernel
theorem dL_law_685 : decode cL_law 685 = .ok (.iaload, 1) := by decide +kernel
theorem dL_law_686 : decode cL_law 686 = .ok (.invokevirtual 90, 3) := by decide +kernel
theorem dL_law_689 : decode cL_law 689 = .ok (.if_icmp .eq 320, 3) := by decide +kernel
theorem dL_law_692 : decode cL_law 692 = .ok (.iconst 0, 1) := by decide +kernel
theorem dL_law_693 : decode cL_law 693 = .ok (.ireturn, 1) := by decide +kernel
theorem dL_law_694 : decode cL_law 694 = .ok (.aload_n 1, 1) := by decide +kernel
theorem dL_law_695 : decode cL_law 695 = .ok (.aload_n 0, 1) := by decide +kernel
theorem dL_law_696 : decode cL_law 696 = .ok (.iload 4, 2) := by decide +kernel
theorem dL_law_698 : decode cL_law 698 = .ok (.iconst 1, 1) := by decide +kernel
theorem dL_law_699 : decode cL_law 699 = .ok (.iadd, 1) := by decide +kernel
theorem dL_law_700 : decode cL_law 700 = .ok (.iaload, 1) := by decide +kernel
theorem dL_law_701 : decode cL_law 701 = .ok (.invokevirtual 91, 3) := by decide +kernel
theorem dL_law_704 : decode cL_law 704 = .ok (.aload_n 2, 1) := by decide +kernel
theorem dL_law_705 : decode cL_law 705 = .ok (.aload_n 0, 1) := by decide +kernel
theorem dL_law_706 : decode cL_law 706 = .ok (.iload 4, 2) := by decide +kernel
theorem dL_law_708 : decode cL_law 708 = .ok (.iconst 1, 1) := by decide +kernel
theorem dL_law_709 : decode cL_law 709 = .ok (.iadd, 1) := by decide +kernel
theorem dL_law_710 : decode cL_law 710 = .ok (.iaload, 1) := by decide +kernel
theorem dL_law_711 : decode cL_law 711 = .ok (.invokevirtual 94, 3) := by decide +kernel
theorem dL_law_714 : decode cL_law 714 = .ok (.if_icmp .eq 295, 3) := by decide +kernel
theorem dL_law_717 : decode cL_law 717 = .ok (.iconst 0, 1) := by decide +kernel
theorem dL_law_718 : decode cL_law 718 = .ok (.ireturn, 1) := by decide +kernel
theorem dL_law_719 : decode cL_law 719 = .ok (.aload_n 1, 1) := by decide +kernel
theorem dL_law_720 : decode cL_law 720 = .ok (.aload_n 0, 1) := by decide +kernel
theorem dL_law_721 : decode cL_law 721 = .ok (.iload 4, 2) := by decide +kernel
theorem dL_law_723 : decode cL_law 723 = .ok (.iconst 1, 1) := by decide +kernel
theorem dL_law_724 : decode cL_law 724 = .ok (.iadd, 1) := by decide +kernel
theorem dL_law_725 : decode cL_law 725 = .ok (.iaload, 1) := by decide +kernel
theorem dL_law_726 : decode cL_law 726 = .ok (.aload_n 0, 1) := by decide +kernel
theorem dL_law_727 : decode cL_law 727 = .ok (.iload 4, 2) := by decide +kernel
theorem dL_law_729 : decode cL_law 729 = .ok (.iconst 2, 1) := by decide +kernel
theorem dL_law_730 : decode cL_law 730 = .ok (.iadd, 1) := by decide +kernel
theorem dL_law_731 : decode cL_law 731 = .ok (.iaload, 1) := by decide +kernel
theorem dL_law_732 : decode cL_law 732 = .ok (.invokevirtual 95, 3) := by decide +kernel
theorem dL_law_735 : decode cL_law 735 = .ok (.aload_n 2, 1) := by decide +kernel
theorem dL_law_736 : decode cL_law 736 = .ok (.aload_n 0, 1) := by decide +kernel
theorem dL_law_737 : decode cL_law 737 = .ok (.iload 4, 2) := by decide +kernel
theorem dL_law_739 : decode cL_law 739 = .ok (.iconst 1, 1) := by decide +kernel
theorem dL_law_740 : decode cL_law 740 = .ok (.iadd, 1) := by decide +kernel
theorem dL_law_741 : decode cL_law 741 = .ok (.iaload, 1) := by decide +kernel
theorem dL_law_742 : decode cL_law 742 = .ok (.aload_n 0, 1) := by decide +kernel
theorem dL_law_743 : decode cL_law 743 = .ok (.iload 4, 2) := by decide +kernel
theorem dL_law_745 : decode cL_law 745 = .ok (.iconst 2, 1) := by decide +kernel
theorem dL_law_746 : decode cL_law 746 = .ok (.iadd, 1) := by decide +kernel
theorem dL_law_747 : decode cL_law 747 = .ok (.iaload, 1) := by decide +kernel
theorem dL_law_748 : decode cL_law 748 = .ok (.invokevirtual 98, 3) := by decide +kernel
theorem dL_law_751 : decode cL_law 751 = .ok (.if_icmp .eq 258, 3) := by decide +kernel
theorem dL_law_754 : decode cL_law 754 = .ok (.iconst 0, 1) := by decide +kernel
theorem dL_law_755 : decode cL_law 755 = .ok (.ireturn, 1) := by decide +kernel
theorem dL_law_756 : decode cL_law 756 = .ok (.aload_n 1, 1) := by decide +kernel
theorem dL_law_757 : decode cL_law 757 = .ok (.aload_n 0, 1) := by decide +kernel
theorem dL_law_758 : decode cL_law 758 = .ok (.iload 4, 2) := by decide +kernel
theorem dL_law_760 : decode cL_law 760 = .ok (.iconst 1, 1) := by decide +kernel
theorem dL_law_761 : decode cL_law 761 = .ok (.iadd, 1) := by decide +kernel
theorem dL_law_762 : decode cL_law 762 = .ok (.iaload, 1) := by decide +kernel
theorem dL_law_763 : decode cL_law 763 = .ok (.aload_n 0, 1) := by decide +kernel
theorem dL_law_764 : decode cL_law 764 = .ok (.iload 4, 2) := by decide +kernel
theorem dL_law_766 : decode cL_law 766 = .ok (.iconst 2, 1) := by decide +kernel
theorem dL_law_767 : decode cL_law 767 = .ok (.iadd, 1) := by decide +kernel
theorem dL_law_768 : decode cL_law 768 = .ok (.iaload, 1) := by decide +kernel
theorem dL_law_769 : decode cL_law 769 = .ok (.invokevirtual 99, 3) := by decide +kernel
theorem dL_law_772 : decode cL_law 772 = .ok (.aload_n 2, 1) := by decide +kernel
theorem dL_law_773 : decode cL_law 773 = .ok (.aload_n 0, 1) := by decide +kernel
theorem dL_law_774 : decode cL_law 774 = .ok (.iload 4, 2) := by decide +kernel
theorem dL_law_776 : decode cL_law 776 = .ok (.iconst 1, 1) := by decide +kernel
theorem dL_law_777 : decode cL_law 777 = .ok (.iadd, 1) := by decide +kernel
theorem dL_law_778 : decode cL_law 778 = .ok (.iaload, 1) := by decide +kernel
theorem dL_law_779 : decode cL_law 779 = .ok (.aload_n 0, 1) := by decide +kernel
theorem dL_law_780 : decode cL_law 780 = .ok (.iload 4, 2) := by decide +kernel
theorem dL_law_782 : decode cL_law 782 = .ok (.iconst 2, 1) := by decide +kernel
theorem dL_law_783 : decode cL_law 783 = .ok (.iadd, 1) := by decide +kernel
theorem dL_law_784 : decode cL_law 784 = .ok (.iaload, 1) := by decide +kernel
theorem dL_law_785 : decode cL_law 785 = .ok (.invokevirtual 102, 3) := by decide +kernel
theorem dL_law_788 : decode cL_law 788 = .ok (.if_icmp .eq 221, 3) := by decide +kernel
theorem dL_law_791 : decode cL_law 791 = .ok (.iconst 0, 1) := by decide +kernel
theorem dL_law_792 : decode cL_law 792 = .ok (.ireturn, 1) := by decide +kernel
theorem dL_law_793 : decode cL_law 793 = .ok (.aload_n 1, 1) := by decide +kernel
theorem dL_law_794 : decode cL_law 794 = .ok (.aload_n 0, 1) := by decide +kernel
theorem dL_law_795 : decode cL_law 795 = .ok (.iload 4, 2) := by decide +kernel
theorem dL_law_797 : decode cL_law 797 = .ok (.iconst 1, 1) := by decide +kernel
theorem dL_law_798 : decode cL_law 798 = .ok (.iadd, 1) := by decide +kernel
theorem dL_law_799 : decode cL_law 799 = .ok (.iaload, 1) := by decide +kernel
theorem dL_law_800 : decode cL_law 800 = .ok (.aload_n 0, 1) := by decide +kernel
theorem dL_law_801 : decode cL_law 801 = .ok (.iload 4, 2) := by decide +kernel
theorem dL_law_803 : decode cL_law 803 = .ok (.iconst 2, 1) := by decide +kernel
theorem dL_law_804 : decode cL_law 804 = .ok (.iadd, 1) := by decide +kernel
theorem dL_law_805 : decode cL_law 805 = .ok (.iaload, 1) := by decide +kernel
theorem dL_law_806 : decode cL_law 806 = .ok (.aload_n 0, 1) := by decide +kernel
theorem dL_law_807 : decode cL_law 807 = .ok (.iload 4, 2) := by decide +kernel
theorem dL_law_809 : decode cL_law 809 = .ok (.iconst 3, 1) := by decide +kernel
theorem dL_law_810 : decode cL_law 810 = .ok (.iadd, 1) := by decide +kernel
theorem dL_law_811 : decode cL_law 811 = .ok (.iaload, 1) := by decide +kernel
theorem dL_law_812 : decode cL_law 812 = .ok (.invokevirtual 103, 3) := by decide +kernel
theorem dL_law_815 : decode cL_law 815 = .ok (.aload_n 2, 1) := by decide +kernel
theorem dL_law_816 : decode cL_law 816 = .ok (.aload_n 0, 1) := by decide +kernel
theorem dL_law_817 : decode cL_law 817 = .ok (.iload 4, 2) := by decide +kernel
theorem dL_law_819 : decode cL_law 819 = .ok (.iconst 1, 1) := by decide +kernel
theorem dL_law_820 : decode cL_law 820 = .ok (.iadd, 1) := by decide +kernel
theorem dL_law_821 : decode cL_law 821 = .ok (.iaload, 1) := by decide +kernel
theorem dL_law_822 : decode cL_law 822 = .ok (.aload_n 0, 1) := by decide +kernel
theorem dL_law_823 : decode cL_law 823 = .ok (.iload 4, 2) := by decide +kernel
theorem dL_law_825 : decode cL_law 825 = .ok (.iconst 2, 1) := by decide +kernel
theorem dL_law_826 : decode cL_law 826 = .ok (.iadd, 1) := by decide +kernel
theorem dL_law_827 : decode cL_law 827 = .ok (.iaload, 1) := by decide +kernel
theorem dL_law_828 : decode cL_law 828 = .ok (.aload_n 0, 1) := by decide +kernel
theorem dL_law_829 : decode cL_law 829 = .ok (.iload 4, 2) := by decide +kernel
theorem dL_law_831 : decode cL_law 831 = .ok (.iconst 3, 1) := by decide +kernel
theorem dL_law_832 : decode cL_law 832 = .ok (.iadd, 1) := by decide +kernel
theorem dL_law_833 : decode cL_law 833 = .ok (.iaload, 1) := by decide +kernel
theorem dL_law_834 : decode cL_law 834 = .ok (.invokevirtual 106, 3) := by decide +kernel
theorem dL_law_837 : decode cL_law 837 = .ok (.if_icmp .eq 172, 3) := by decide +kernel
theorem dL_law_840 : decode cL_law 840 = .ok (.iconst 0, 1) := by decide +kernel
theorem dL_law_841 : decode cL_law 841 = .ok (.ireturn, 1) := by decide +kernel
theorem dL_law_842 : decode cL_law 842 = .ok (.aload_n 1, 1) := by decide +kernel
theorem dL_law_843 : decode cL_law 843 = .ok (.aload_n 0, 1) := by decide +kernel
theorem dL_law_844 : decode cL_law 844 = .ok (.iload 4, 2) := by decide +kernel
theorem dL_law_846 : decode cL_law 846 = .ok (.iconst 1, 1) := by decide +kernel
theorem dL_law_847 : decode cL_law 847 = .ok (.iadd, 1) := by decide +kernel
theorem dL_law_848 : decode cL_law 848 = .ok (.iaload, 1) := by decide +kernel
theorem dL_law_849 : decode cL_law 849 = .ok (.invokevirtual 107, 3) := by decide +kernel
theorem dL_law_852 : decode cL_law 852 = .ok (.aload_n 2, 1) := by decide +kernel
theorem dL_law_853 : decode cL_law 853 = .ok (.aload_n 0, 1) := by decide +kernel
theorem dL_law_854 : decode cL_law 854 = .ok (.iload 4, 2) := by decide +kernel
theorem dL_law_856 : decode cL_law 856 = .ok (.iconst 1, 1) := by decide +kernel
theorem dL_law_857 : decode cL_law 857 = .ok (.iadd, 1) := by decide +kernel
theorem dL_law_858 : decode cL_law 858 = .ok (.iaload, 1) := by decide +kernel
theorem dL_law_859 : decode cL_law 859 = .ok (.invokevirtual 110, 3) := by decide +kernel
theorem dL_law_862 : decode cL_law 862 = .ok (.if_icmp .eq 147, 3) := by decide +kernel
theorem dL_law_865 : decode cL_law 865 = .ok (.iconst 0, 1) := by decide +kernel
theorem dL_law_866 : decode cL_law 866 = .ok (.ireturn, 1) := by decide +kernel
theorem dL_law_867 : decode cL_law 867 = .ok (.aload_n 1, 1) := by decide +kernel
theorem dL_law_868 : decode cL_law 868 = .ok (.aload_n 0, 1) := by decide +kernel
theorem dL_law_869 : decode cL_law 869 = .ok (.iload 4, 2) := by decide +kernel
theorem dL_law_871 : decode cL_law 871 = .ok (.iconst 1, 1) := by decide +kernel
theorem dL_law_872 : decode cL_law 872 = .ok (.iadd, 1) := by decide +kernel
theorem dL_law_873 : decode cL_law 873 = .ok (.iaload, 1) := by decide +kernel
theorem dL_law_874 : decode cL_law 874 = .ok (.invokevirtual 111, 3) := by decide +kernel
theorem dL_law_877 : decode cL_law 877 = .ok (.aload_n 2, 1) := by decide +kernel
theorem dL_law_878 : decode cL_law 878 = .ok (.aload_n 0, 1) := by decide +kernel
theorem dL_law_879 : decode cL_law 879 = .ok (.iload 4, 2) := by decide +kernel
theorem dL_law_881 : decode cL_law 881 = .ok (.iconst 1, 1) := by decide +kernel
theorem dL_law_882 : decode cL_law 882 = .ok (.iadd, 1) := by decide +kernel
theorem dL_law_883 : decode cL_law 883 = .ok (.iaload, 1) := by decide +kernel
theorem dL_law_884 : decode cL_law 884 = .ok (.invokevirtual 114, 3) := by decide +kernel
theorem dL_law_887 : decode cL_law 887 = .ok (.if_icmp .eq 122, 3) := by decide +kernel
theorem dL_law_890 : decode cL_law 890 = .ok (.iconst 0, 1) := by decide +kernel
theorem dL_law_891 : decode cL_law 891 = .ok (.ireturn, 1) := by decide +kernel
theorem dL_law_892 : decode cL_law 892 = .ok (.aload_n 1, 1) := by decide +kernel
theorem dL_law_893 : decode cL_law 893 = .ok (.invokevirtual 115, 3) := by decide +kernel
theorem dL_law_896 : decode cL_law 896 = .ok (.aload_n 2, 1) := by decide +kernel
theorem dL_law_897 : decode cL_law 897 = .ok (.invokevirtual 118, 3) := by decide +kernel
theorem dL_law_900 : decode cL_law 900 = .ok (.if_icmp .eq 109, 3) := by decide +kernel
theorem dL_law_903 : decode cL_law 903 = .ok (.iconst 0, 1) := by decide +kernel
theorem dL_law_904 : decode cL_law 904 = .ok (.ireturn, 1) := by decide +kernel
theorem dL_law_905 : decode cL_law 905 = .ok (.aload_n 1, 1) := by decide +kernel
theorem dL_law_906 : decode cL_law 906 = .ok (.invokevirtual 119, 3) := by decide +kernel
theorem dL_law_909 : decode cL_law 909 = .ok (.aload_n 2, 1) := by decide +kernel
theorem dL_law_910 : decode cL_law 910 = .ok (.invokevirtual 122, 3) := by decide +kernel
theorem dL_law_913 : decode cL_law 913 = .ok (.if_icmp .eq 96, 3) := by decide +kernel
theorem dL_law_916 : decode cL_law 916 = .ok (.iconst 0, 1) := by decide +kernel
theorem dL_law_917 : decode cL_law 917 = .ok (.ireturn, 1) := by decide +kernel
theorem dL_law_918 : decode cL_law 918 = .ok (.aload_n 1, 1) := by decide +kernel
theorem dL_law_919 : decode cL_law 919 = .ok (.aload_n 0, 1) := by decide +kernel
theorem dL_law_920 : decode cL_law 920 = .ok (.iload 4, 2) := by decide +kernel
theorem dL_law_922 : decode cL_law 922 = .ok (.iconst 1, 1) := by decide +kernel
theorem dL_law_923 : decode cL_law 923 = .ok (.iadd, 1) := by decide +kernel
theorem dL_law_924 : decode cL_law 924 = .ok (.iaload, 1) := by decide +kernel
theorem dL_law_925 : decode cL_law 925 = .ok (.aload_n 0, 1) := by decide +kernel
theorem dL_law_926 : decode cL_law 926 = .ok (.iload 4, 2) := by decide +kernel
theorem dL_law_928 : decode cL_law 928 = .ok (.iconst 2, 1) := by decide +kernel
theorem dL_law_929 : decode cL_law 929 = .ok (.iadd, 1) := by decide +kernel
theorem dL_law_930 : decode cL_law 930 = .ok (.iaload, 1) := by decide +kernel
theorem dL_law_931 : decode cL_law 931 = .ok (.ifCond .eq 7, 3) := by decide +kernel
theorem dL_law_934 : decode cL_law 934 = .ok (.iconst 1, 1) := by decide +kernel
theorem dL_law_935 : decode cL_law 935 = .ok (.goto 4, 3) := by decide +kernel
theorem dL_law_938 : decode cL_law 938 = .ok (.iconst 0, 1) := by decide +kernel
theorem dL_law_939 : decode cL_law 939 = .ok (.invokevirtual 123, 3) := by decide +kernel
theorem dL_law_942 : decode cL_law 942 = .ok (.aload_n 2, 1) := by decide +kernel
theorem dL_law_943 : decode cL_law 943 = .ok (.aload_n 0, 1) := by decide +kernel
theorem dL_law_944 : decode cL_law 944 = .ok (.iload 4, 2) := by decide +kernel
theorem dL_law_946 : decode cL_law 946 = .ok (.iconst 1, 1) := by decide +kernel
theorem dL_law_947 : decode cL_law 947 = .ok (.iadd, 1) := by decide +kernel
theorem dL_law_948 : decode cL_law 948 = .ok (.iaload, 1) := by decide +kernel
theorem dL_law_949 : decode cL_law 949 = .ok (.aload_n 0, 1) := by decide +kernel
theorem dL_law_950 : decode cL_law 950 = .ok (.iload 4, 2) := by decide +kernel
theorem dL_law_952 : decode cL_law 952 = .ok (.iconst 2, 1) := by decide +kernel
theorem dL_law_953 : decode cL_law 953 = .ok (.iadd, 1) := by decide +kernel
theorem dL_law_954 : decode cL_law 954 = .ok (.iaload, 1) := by decide +kernel
theorem dL_law_955 : decode cL_law 955 = .ok (.ifCond .eq 7, 3) := by decide +kernel
theorem dL_law_958 : decode cL_law 958 = .ok (.iconst 1, 1) := by decide +kernel
theorem dL_law_959 : decode cL_law 959 = .ok (.goto 4, 3) := by decide +kernel
theorem dL_law_962 : decode cL_law 962 = .ok (.iconst 0, 1) := by decide +kernel
theorem dL_law_963 : decode cL_law 963 = .ok (.invokevirtual 126, 3) := by decide +kernel
theorem dL_law_966 : decode cL_law 966 = .ok (.if_icmp .eq 43, 3) := by decide +kernel
theorem dL_law_969 : decode cL_law 969 = .ok (.iconst 0, 1) := by decide +kernel
theorem dL_law_970 : decode cL_law 970 = .ok (.ireturn, 1) := by decide +kernel
theorem dL_law_971 : decode cL_law 971 = .ok (.aload_n 1, 1) := by decide +kernel
theorem dL_law_972 : decode cL_law 972 = .ok (.aload_n 0, 1) := by decide +kernel
theorem dL_law_973 : decode cL_law 973 = .ok (.iload 4, 2) := by decide +kernel
theorem dL_law_975 : decode cL_law 975 = .ok (.iconst 1, 1) := by decide +kernel
theorem dL_law_976 : decode cL_law 976 = .ok (.iadd, 1) := by decide +kernel
theorem dL_law_977 : decode cL_law 977 = .ok (.iaload, 1) := by decide +kernel
theorem dL_law_978 : decode cL_law 978 = .ok (.invokevirtual 127, 3) := by decide +kernel
theorem dL_law_981 : decode cL_law 981 = .ok (.aload_n 2, 1) := by decide +kernel
theorem dL_law_982 : decode cL_law 982 = .ok (.aload_n 0, 1) := by decide +kernel
theorem dL_law_983 : decode cL_law 983 = .ok (.iload 4, 2) := by decide +kernel
theorem dL_law_985 : decode cL_law 985 = .ok (.iconst 1, 1) := by decide +kernel
theorem dL_law_986 : decode cL_law 986 = .ok (.iadd, 1) := by decide +kernel
theorem dL_law_987 : decode cL_law 987 = .ok (.iaload, 1) := by decide +kernel
theorem dL_law_988 : decode cL_law 988 = .ok (.invokevirtual 130, 3) := by decide +kernel
theorem dL_law_991 : decode cL_law 991 = .ok (.if_icmp .eq 18, 3) := by decide +kernel
theorem dL_law_994 : decode cL_law 994 = .ok (.iconst 0, 1) := by decide +kernel
theorem dL_law_995 : decode cL_law 995 = .ok (.ireturn, 1) := by decide +kernel
theorem dL_law_996 : decode cL_law 996 = .ok (.aload_n 1, 1) := by decide +kernel
theorem dL_law_997 : decode cL_law 997 = .ok (.invokevirtual 131, 3) := by decide +kernel
theorem dL_law_1000 : decode cL_law 1000 = .ok (.aload_n 2, 1) := by decide +kernel
theorem dL_law_1001 : decode cL_law 1001 = .ok (.invokevirtual 134, 3) := by decide +kernel
theorem dL_law_1004 : decode cL_law 1004 = .ok (.if_icmp .eq 5, 3) := by decide +kernel
theorem dL_law_1007 : decode cL_law 1007 = .ok (.iconst 0, 1) := by decide +kernel
theorem dL_law_1008 : decode cL_law 1008 = .ok (.ireturn, 1) := by decide +kernel
theorem dL_law_1009 : decode cL_law 1009 = .ok (.iinc 4 6, 3) := by decide +kernel
theorem dL_law_1012 : decode cL_law 1012 = .ok (.goto (-989), 3) := by decide +kernel
theorem dL_law_1015 : decode cL_law 1015 = .ok (.iconst 1, 1) := by decide +kernel
theorem dL_law_1016 : decode cL_law 1016 = .ok (.ireturn, 1) := by decide +kernel
