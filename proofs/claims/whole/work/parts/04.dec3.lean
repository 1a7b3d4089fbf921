theorem dX14_init_117 : decode cX14_init 117 = .ok (.putfield 60, 3) := by decide +kernel
theorem dX14_init_120 : decode cX14_init 120 = .ok (.aload_n 0, 1) := by decide +kernel
theorem dX14_init_121 : decode cX14_init 121 = .ok (.sipush 1000, 3) := by decide +kernel
theorem dX14_init_124 : decode cX14_init 124 = .ok (.newarray .int, 2) := by decide +kernel
theorem dX14_init_126 : decode cX14_init 126 = .ok (.putfield 63, 3) := by decide +kernel
theorem dX14_init_129 : decode cX14_init 129 = .ok (.aload_n 0, 1) := by decide +kernel
theorem dX14_init_130 : decode cX14_init 130 = .ok (.iconst 3, 1) := by decide +kernel
theorem dX14_init_131 : decode cX14_init 131 = .ok (.newarray .int, 2) := by decide +kernel
theorem dX14_init_133 : decode cX14_init 133 = .ok (.putfield 66, 3) := by decide +kernel
theorem dX14_init_136 : decode cX14_init 136 = .ok (.aload_n 0, 1) := by decide +kernel
theorem dX14_init_137 : decode cX14_init 137 = .ok (.iconst 4, 1) := by decide +kernel
theorem dX14_init_138 : decode cX14_init 138 = .ok (.newarray .int, 2) := by decide +kernel
theorem dX14_init_140 : decode cX14_init 140 = .ok (.putfield 69, 3) := by decide +kernel
theorem dX14_init_143 : decode cX14_init 143 = .ok (.aload_n 0, 1) := by decide +kernel
theorem dX14_init_144 : decode cX14_init 144 = .ok (.sipush 1000, 3) := by decide +kernel
theorem dX14_init_147 : decode cX14_init 147 = .ok (.newarray .boolean, 2) := by decide +kernel
theorem dX14_init_149 : decode cX14_init 149 = .ok (.putfield 72, 3) := by decide +kernel
theorem dX14_init_152 : decode cX14_init 152 = .ok (.aload_n 0, 1) := by decide +kernel
theorem dX14_init_153 : decode cX14_init 153 = .ok (.bipush 12, 2) := by decide +kernel
theorem dX14_init_155 : decode cX14_init 155 = .ok (.newarray .int, 2) := by decide +kernel
theorem dX14_init_157 : decode cX14_init 157 = .ok (.putfield 75, 3) := by decide +kernel
theorem dX14_init_160 : decode cX14_init 160 = .ok (.aload_n 0, 1) := by decide +kernel
theorem dX14_init_161 : decode cX14_init 161 = .ok (.iconst 3, 1) := by decide +kernel
theorem dX14_init_162 : decode cX14_init 162 = .ok (.newarray .int, 2) := by decide +kernel
theorem dX14_init_164 : decode cX14_init 164 = .ok (.putfield 78, 3) := by decide +kernel
theorem dX14_init_167 : decode cX14_init 167 = .ok (.aload_n 0, 1) := by decide +kernel
theorem dX14_init_168 : decode cX14_init 168 = .ok (.iconst 3, 1) := by decide +kernel
theorem dX14_init_169 : decode cX14_init 169 = .ok (.newarray .int, 2) := by decide +kernel
theorem dX14_init_171 : decode cX14_init 171 = .ok (.putfield 81, 3) := by decide +kernel
theorem dX14_init_174 : decode cX14_init 174 = .ok (.return_, 1) := by decide +kernel
theorem dX14_thrown_0 : decode cX14_thrown 0 = .ok (.aload_n 0, 1) := by decide +kernel
theorem dX14_thrown_1 : decode cX14_thrown 1 = .ok (.getfield 84, 3) := by decide +kernel
theorem dX14_thrown_4 : decode cX14_thrown 4 = .ok (.ireturn, 1) := by decide +kernel
theorem dX14_refused_0 : decode cX14_refused 0 = .ok (.aload_n 0, 1) := by decide +kernel
theorem dX14_refused_1 : decode cX14_refused 1 = .ok (.iload_n 1, 1) := by decide +kernel
theorem dX14_refused_2 : decode cX14_refused 2 = .ok (.putfield 87, 3) := by decide +kernel
theorem dX14_refused_5 : decode cX14_refused 5 = .ok (.aload_n 0, 1) := by decide +kernel
theorem dX14_refused_6 : decode cX14_refused 6 = .ok (.iconst (-1), 1) := by decide +kernel
theorem dX14_refused_7 : decode cX14_refused 7 = .ok (.putfield 9, 3) := by decide +kernel
theorem dX14_refused_10 : decode cX14_refused 10 = .ok (.iconst (-1), 1) := by decide +kernel
theorem dX14_refused_11 : decode cX14_refused 11 = .ok (.ireturn, 1) := by decide +kernel
theorem dX14_denied_0 : decode cX14_denied 0 = .ok (.aload_n 0, 1) := by decide +kernel
theorem dX14_denied_1 : decode cX14_denied 1 = .ok (.iload_n 1, 1) := by decide +kernel
theorem dX14_denied_2 : decode cX14_denied 2 = .ok (.putfield 87, 3) := by decide +kernel
theorem dX14_denied_5 : decode cX14_denied 5 = .ok (.aload_n 0, 1) := by decide +kernel
theorem dX14_denied_6 : decode cX14_denied 6 = .ok (.iconst (-1), 1) := by decide +kernel
theorem dX14_denied_7 : decode cX14_denied 7 = .ok (.putfield 9, 3) := by decide +kernel
theorem dX14_denied_10 : decode cX14_denied 10 = .ok (.iconst 0, 1) := by decide +kernel
theorem dX14_denied_11 : decode cX14_denied 11 = .ok (.ireturn, 1) := by decide +kernel
theorem dX14_done_0 : decode cX14_done 0 = .ok (.aload_n 0, 1) := by decide +kernel
theorem dX14_done_1 : decode cX14_done 1 = .ok (.iconst 0, 1) := by decide +kernel
theorem dX14_done_2 : decode cX14_done 2 = .ok (.putfield 87, 3) := by decide +kernel
theorem dX14_done_5 : decode cX14_done 5 = .ok (.aload_n 0, 1) := by decide +kernel
theorem dX14_done_6 : decode cX14_done 6 = .ok (.iconst (-1), 1) := by decide +kernel
theorem dX14_done_7 : decode cX14_done 7 = .ok (.putfield 9, 3) := by decide +kernel
theorem dX14_done_10 : decode cX14_done 10 = .ok (.iload_n 1, 1) := by decide +kernel
theorem dX14_done_11 : decode cX14_done 11 = .ok (.ireturn, 1) := by decide +kernel
theorem dX14_granted_0 : decode cX14_granted 0 = .ok (.aload_n 0, 1) := by decide +kernel
theorem dX14_granted_1 : decode cX14_granted 1 = .ok (.iconst 0, 1) := by decide +kernel
theorem dX14_granted_2 : decode cX14_granted 2 = .ok (.putfield 87, 3) := by decide +kernel
theorem dX14_granted_5 : decode cX14_granted 5 = .ok (.aload_n 0, 1) := by decide +kernel
theorem dX14_granted_6 : decode cX14_granted 6 = .ok (.iconst (-1), 1) := by decide +kernel
theorem dX14_granted_7 : decode cX14_granted 7 = .ok (.putfield 9, 3) := by decide +kernel
theorem dX14_granted_10 : decode cX14_granted 10 = .ok (.iconst 1, 1) := by decide +kernel
theorem dX14_granted_11 : decode cX14_granted 11 = .ok (.ireturn, 1) := by decide +kernel
theorem dX14_in_0 : decode cX14_in 0 = .ok (.iload_n 0, 1) := by decide +kernel
theorem dX14_in_1 : decode cX14_in 1 = .ok (.iload_n 1, 1) := by decide +kernel
theorem dX14_in_2 : decode cX14_in 2 = .ok (.if_icmp .lt 12, 3) := by decide +kernel
theorem dX14_in_5 : decode cX14_in 5 = .ok (.iload_n 0, 1) := by decide +kernel
theorem dX14_in_6 : decode cX14_in 6 = .ok (.iload_n 2, 1) := by decide +kernel
theorem dX14_in_7 : decode cX14_in 7 = .ok (.if_icmp .gt 7, 3) := by decide +kernel
theorem dX14_in_10 : decode cX14_in 10 = .ok (.iconst 1, 1) := by decide +kernel
theorem dX14_in_11 : decode cX14_in 11 = .ok (.goto 4, 3) := by decide +kernel
theorem dX14_in_14 : decode cX14_in 14 = .ok (.iconst 0, 1) := by decide +kernel
theorem dX14_in_15 : decode cX14_in 15 = .ok (.ireturn, 1) := by decide +kernel
theorem dX14_isKind_0 : decode cX14_isKind 0 = .ok (.iload_n 1, 1) := by decide +kernel
theorem dX14_isKind_1 : decode cX14_isKind 1 = .ok (.ifCond .lt 15, 3) := by decide +kernel
theorem dX14_isKind_4 : decode cX14_isKind 4 = .ok (.iload_n 1, 1) := by decide +kernel
theorem dX14_isKind_5 : decode cX14_isKind 5 = .ok (.aload_n 0, 1) := by decide +kernel
theorem dX14_isKind_6 : decode cX14_isKind 6 = .ok (.getfield 90, 3) := by decide +kernel
theorem dX14_isKind_9 : decode cX14_isKind 9 = .ok (.if_icmp .ge 7, 3) := by decide +kernel
theorem dX14_isKind_12 : decode cX14_isKind 12 = .ok (.iconst 1, 1) := by decide +kernel
theorem dX14_isKind_13 : decode cX14_isKind 13 = .ok (.goto 4, 3) := by decide +kernel
theorem dX14_isKind_16 : decode cX14_isKind 16 = .ok (.iconst 0, 1) := by decide +kernel
theorem dX14_isKind_17 : decode cX14_isKind 17 = .ok (.ireturn, 1) := by decide +kernel
theorem dX14_isRule_0 : decode cX14_isRule 0 = .ok (.iload_n 1, 1) := by decide +kernel
theorem dX14_isRule_1 : decode cX14_isRule 1 = .ok (.ifCond .lt 15, 3) := by decide +kernel
theorem dX14_isRule_4 : decode cX14_isRule 4 = .ok (.iload_n 1, 1) := by decide +kernel
theorem dX14_isRule_5 : decode cX14_isRule 5 = .ok (.aload_n 0, 1) := by decide +kernel
theorem dX14_isRule_6 : decode cX14_isRule 6 = .ok (.getfield 93, 3) := by decide +kernel
theorem dX14_isRule_9 : decode cX14_isRule 9 = .ok (.if_icmp .ge 7, 3) := by decide +kernel
theorem dX14_isRule_12 : decode cX14_isRule 12 = .ok (.iconst 1, 1) := by decide +kernel
theorem dX14_isRule_13 : decode cX14_isRule 13 = .ok (.goto 4, 3) := by decide +kernel
theorem dX14_isRule_16 : decode cX14_isRule 16 = .ok (.iconst 0, 1) := by decide +kernel
theorem dX14_isRule_17 : decode cX14_isRule 17 = .ok (.ireturn, 1) := by decide +kernel
theorem dX14_isAtom_0 : decode cX14_isAtom 0 = .ok (.iload_n 1, 1) := by decide +kernel
theorem dX14_isAtom_1 : decode cX14_isAtom 1 = .ok (.ifCond .lt 14, 3) := by decide +kernel
theorem dX14_isAtom_4 : decode cX14_isAtom 4 = .ok (.iload_n 1, 1) := by decide +kernel
theorem dX14_isAtom_5 : decode cX14_isAtom 5 = .ok (.bipush 100, 2) := by decide +kernel
theorem dX14_isAtom_7 : decode cX14_isAtom 7 = .ok (.idiv, 1) := by decide +kernel
theorem dX14_isAtom_8 : decode cX14_isAtom 8 = .ok (.aload_n 0, 1) := by decide +kernel
theorem dX14_isAtom_9 : decode cX14_isAtom 9 = .ok (.getfield 90, 3) := by decide +kernel
theorem dX14_isAtom_12 : decode cX14_isAtom 12 = .ok (.if_icmp .lt 5, 3) := by decide +kernel
theorem dX14_isAtom_15 : decode cX14_isAtom 15 = .ok (.iconst 0, 1) := by decide +kernel
theorem dX14_isAtom_16 : decode cX14_isAtom 16 = .ok (.ireturn, 1) := by decide +kernel
theorem dX14_isAtom_17 : decode cX14_isAtom 17 = .ok (.aload_n 0, 1) := by decide +kernel
theorem dX14_isAtom_18 : decode cX14_isAtom 18 = .ok (.getfield 27, 3) := by decide +kernel
theorem dX14_isAtom_21 : decode cX14_isAtom 21 = .ok (.iload_n 1, 1) := by decide +kernel
theorem dX14_isAtom_22 : decode cX14_isAtom 22 = .ok (.bipush 100, 2) := by decide +kernel
theorem dX14_isAtom_24 : decode cX14_isAtom 24 = .ok (.idiv, 1) := by decide +kernel
theorem dX14_isAtom_25 : decode cX14_isAtom 25 = .ok (.iaload, 1) := by decide +kernel
theorem dX14_isAtom_26 : decode cX14_isAtom 26 = .ok (.istore_n 2, 1) := by decide +kernel
theorem dX14_isAtom_27 : decode cX14_isAtom 27 = .ok (.iload_n 2, 1) := by decide +kernel
theorem dX14_isAtom_28 : decode cX14_isAtom 28 = .ok (.ifCond .le 20, 3) := by decide +kernel
theorem dX14_isAtom_31 : decode cX14_isAtom 31 = .ok (.iload_n 1, 1) := by decide +kernel
theorem dX14_isAtom_32 : decode cX14_isAtom 32 = .ok (.bipush 10, 2) := by decide +kernel
theorem dX14_isAtom_34 : decode cX14_isAtom 34 = .ok (.idiv, 1) := by decide +kernel
theorem dX14_isAtom_35 : decode cX14_isAtom 35 = .ok (.bipush 10, 2) := by decide +kernel
theorem dX14_isAtom_37 : decode cX14_isAtom 37 = .ok (.irem, 1) := by decide +kernel
theorem dX14_isAtom_38 : decode cX14_isAtom 38 = .ok (.aload_n 0, 1) := by decide +kernel
theorem dX14_isAtom_39 : decode cX14_isAtom 39 = .ok (.getfield 96, 3) := by decide +kernel
theorem dX14_isAtom_42 : decode cX14_isAtom 42 = .ok (.if_icmp .ge 46, 3) := by decide +kernel
theorem dX14_isAtom_45 : decode cX14_isAtom 45 = .ok (.goto 13, 3) := by decide +kernel
theorem dX14_isAtom_48 : decode cX14_isAtom 48 = .ok (.iload_n 1, 1) := by decide +kernel
theorem dX14_isAtom_49 : decode cX14_isAtom 49 = .ok (.bipush 10, 2) := by decide +kernel
theorem dX14_isAtom_51 : decode cX14_isAtom 51 = .ok (.idiv, 1) := by decide +kernel
theorem dX14_isAtom_52 : decode cX14_isAtom 52 = .ok (.bipush 10, 2) := by decide +kernel
theorem dX14_isAtom_54 : decode cX14_isAtom 54 = .ok (.irem, 1) := by decide +kernel
theorem dX14_isAtom_55 : decode cX14_isAtom 55 = .ok (.ifCond .ne 33, 3) := by decide +kernel
theorem dX14_isAtom_58 : decode cX14_isAtom 58 = .ok (.iload_n 2, 1) := by decide +kernel
theorem dX14_isAtom_59 : decode cX14_isAtom 59 = .ok (.iconst 1, 1) := by decide +kernel
theorem dX14_isAtom_60 : decode cX14_isAtom 60 = .ok (.if_icmp .le 17, 3) := by decide +kernel
theorem dX14_isAtom_63 : decode cX14_isAtom 63 = .ok (.iload_n 1, 1) := by decide +kernel
theorem dX14_isAtom_64 : decode cX14_isAtom 64 = .ok (.bipush 10, 2) := by decide +kernel
theorem dX14_isAtom_66 : decode cX14_isAtom 66 = .ok (.irem, 1) := by decide +kernel
theorem dX14_isAtom_67 : decode cX14_isAtom 67 = .ok (.aload_n 0, 1) := by decide +kernel
theorem dX14_isAtom_68 : decode cX14_isAtom 68 = .ok (.getfield 96, 3) := by decide +kernel
theorem dX14_isAtom_71 : decode cX14_isAtom 71 = .ok (.if_icmp .ge 17, 3) := by decide +kernel
theorem dX14_isAtom_74 : decode cX14_isAtom 74 = .ok (.goto 10, 3) := by decide +kernel
theorem dX14_isAtom_77 : decode cX14_isAtom 77 = .ok (.iload_n 1, 1) := by decide +kernel
theorem dX14_isAtom_78 : decode cX14_isAtom 78 = .ok (.bipush 10, 2) := by decide +kernel
theorem dX14_isAtom_80 : decode cX14_isAtom 80 = .ok (.irem, 1) := by decide +kernel
theorem dX14_isAtom_81 : decode cX14_isAtom 81 = .ok (.ifCond .ne 7, 3) := by decide +kernel
theorem dX14_isAtom_84 : decode cX14_isAtom 84 = .ok (.iconst 1, 1) := by decide +kernel
theorem dX14_isAtom_85 : decode cX14_isAtom 85 = .ok (.goto 4, 3) := by decide +kernel
theorem dX14_isAtom_88 : decode cX14_isAtom 88 = .ok (.iconst 0, 1) := by decide +kernel
theorem dX14_isAtom_89 : decode cX14_isAtom 89 = .ok (.ireturn, 1) := by decide +kernel
theorem dX14_stop_0 : decode cX14_stop 0 = .ok (.aload_n 0, 1) := by decide +kernel
theorem dX14_stop_1 : decode cX14_stop 1 = .ok (.getfield 49, 3) := by decide +kernel
theorem dX14_stop_4 : decode cX14_stop 4 = .ok (.iload_n 1, 1) := by decide +kernel
theorem dX14_stop_5 : decode cX14_stop 5 = .ok (.putfield 99, 3) := by decide +kernel
theorem dX14_stop_8 : decode cX14_stop 8 = .ok (.aload_n 0, 1) := by decide +kernel
theorem dX14_stop_9 : decode cX14_stop 9 = .ok (.getfield 49, 3) := by decide +kernel
theorem dX14_stop_12 : decode cX14_stop 12 = .ok (.iload_n 2, 1) := by decide +kernel
theorem dX14_stop_13 : decode cX14_stop 13 = .ok (.putfield 101, 3) := by decide +kernel
theorem dX14_stop_16 : decode cX14_stop 16 = .ok (.aload_n 0, 1) := by decide +kernel
theorem dX14_stop_17 : decode cX14_stop 17 = .ok (.getfield 49, 3) := by decide +kernel
theorem dX14_stop_20 : decode cX14_stop 20 = .ok (.areturn, 1) := by decide +kernel
theorem dX14_byteAt_0 : decode cX14_byteAt 0 = .ok (.iload_n 1, 1) := by decide +kernel
theorem dX14_byteAt_1 : decode cX14_byteAt 1 = .ok (.aload_n 0, 1) := by decide +kernel
theorem dX14_byteAt_2 : decode cX14_byteAt 2 = .ok (.getfield 104, 3) := by decide +kernel
theorem dX14_byteAt_5 : decode cX14_byteAt 5 = .ok (.if_icmp .ge 16, 3) := by decide +kernel
theorem dX14_byteAt_8 : decode cX14_byteAt 8 = .ok (.aload_n 0, 1) := by decide +kernel
theorem dX14_byteAt_9 : decode cX14_byteAt 9 = .ok (.getfield 53, 3) := by decide +kernel
theorem dX14_byteAt_12 : decode cX14_byteAt 12 = .ok (.iload_n 1, 1) := by decide +kernel
theorem dX14_byteAt_13 : decode cX14_byteAt 13 = .ok (.baload, 1) := by decide +kernel
theorem dX14_byteAt_14 : decode cX14_byteAt 14 = .ok (.sipush 255, 3) := by decide +kernel
theorem dX14_byteAt_17 : decode cX14_byteAt 17 = .ok (.iand, 1) := by decide +kernel
theorem dX14_byteAt_18 : decode cX14_byteAt 18 = .ok (.goto 4, 3) := by decide +kernel
theorem dX14_byteAt_21 : decode cX14_byteAt 21 = .ok (.iconst (-1), 1) := by decide +kernel
theorem dX14_byteAt_22 : decode cX14_byteAt 22 = .ok (.ireturn, 1) := by decide +kernel
theorem dX14_isLetter_0 : decode cX14_isLetter 0 = .ok (.iload_n 0, 1) := by decide +kernel
theorem dX14_isLetter_1 : decode cX14_isLetter 1 = .ok (.bipush 97, 2) := by decide +kernel
theorem dX14_isLetter_3 : decode cX14_isLetter 3 = .ok (.if_icmp .lt 13, 3) := by decide +kernel
theorem dX14_isLetter_6 : decode cX14_isLetter 6 = .ok (.iload_n 0, 1) := by decide +kernel
theorem dX14_isLetter_7 : decode cX14_isLetter 7 = .ok (.bipush 122, 2) := by decide +kernel
theorem dX14_isLetter_9 : decode cX14_isLetter 9 = .ok (.if_icmp .gt 7, 3) := by decide +kernel
theorem dX14_isLetter_12 : decode cX14_isLetter 12 = .ok (.iconst 1, 1) := by decide +kernel
theorem dX14_isLetter_13 : decode cX14_isLetter 13 = .ok (.goto 4, 3) := by decide +kernel
theorem dX14_isLetter_16 : decode cX14_isLetter 16 = .ok (.iconst 0, 1) := by decide +kernel
theorem dX14_isLetter_17 : decode cX14_isLetter 17 = .ok (.ireturn, 1) := by decide +kernel
theorem dX14_next_0 : decode cX14_next 0 = .ok (.aload_n 0, 1) := by decide +kernel
theorem dX14_next_1 : decode cX14_next 1 = .ok (.aload_n 0, 1) := by decide +kernel
theorem dX14_next_2 : decode cX14_next 2 = .ok (.getfield 107, 3) := by decide +kernel
theorem dX14_next_5 : decode cX14_next 5 = .ok (.invokevirtual 110, 3) := by decide +kernel
theorem dX14_next_8 : decode cX14_next 8 = .ok (.bipush 32, 2) := by decide +kernel
theorem dX14_next_10 : decode cX14_next 10 = .ok (.if_icmp .eq 16, 3) := by decide +kernel
theorem dX14_next_13 : decode cX14_next 13 = .ok (.aload_n 0, 1) := by decide +kernel
theorem dX14_next_14 : decode cX14_next 14 = .ok (.aload_n 0, 1) := by decide +kernel
theorem dX14_next_15 : decode cX14_next 15 = .ok (.getfield 107, 3) := by decide +kernel
theorem dX14_next_18 : decode cX14_next 18 = .ok (.invokevirtual 110, 3) := by decide +kernel
theorem dX14_next_21 : decode cX14_next 21 = .ok (.bipush 10, 2) := by decide +kernel
theorem dX14_next_23 : decode cX14_next 23 = .ok (.if_icmp .ne 16, 3) := by decide +kernel
theorem dX14_next_26 : decode cX14_next 26 = .ok (.aload_n 0, 1) := by decide +kernel
theorem dX14_next_27 : decode cX14_next 27 = .ok (.dup, 1) := by decide +kernel
theorem dX14_next_28 : decode cX14_next 28 = .ok (.getfield 107, 3) := by decide +kernel
theorem dX14_next_31 : decode cX14_next 31 = .ok (.iconst 1, 1) := by decide +kernel
theorem dX14_next_32 : decode cX14_next 32 = .ok (.iadd, 1) := by decide +kernel
theorem dX14_next_33 : decode cX14_next 33 = .ok (.putfield 107, 3) := by decide +kernel
theorem dX14_next_36 : decode cX14_next 36 = .ok (.goto (-36), 3) := by decide +kernel
theorem dX14_next_39 : decode cX14_next 39 = .ok (.aload_n 0, 1) := by decide +kernel
theorem dX14_next_40 : decode cX14_next 40 = .ok (.aload_n 0, 1) := by decide +kernel
theorem dX14_next_41 : decode cX14_next 41 = .ok (.getfield 107, 3) := by decide +kernel
theorem dX14_next_44 : decode cX14_next 44 = .ok (.putfield 114, 3) := by decide +kernel
theorem dX14_next_47 : decode cX14_next 47 = .ok (.aload_n 0, 1) := by decide +kernel
theorem dX14_next_48 : decode cX14_next 48 = .ok (.iconst 0, 1) := by decide +kernel
theorem dX14_next_49 : decode cX14_next 49 = .ok (.putfield 115, 3) := by decide +kernel
theorem dX14_next_52 : decode cX14_next 52 = .ok (.aload_n 0, 1) := by decide +kernel
theorem dX14_next_53 : decode cX14_next 53 = .ok (.iconst 0, 1) := by decide +kernel
theorem dX14_next_54 : decode cX14_next 54 = .ok (.putfield 118, 3) := by decide +kernel
theorem dX14_next_57 : decode cX14_next 57 = .ok (.aload_n 0, 1) := by decide +kernel
theorem dX14_next_58 : decode cX14_next 58 = .ok (.aload_n 0, 1) := by decide +kernel
theorem dX14_next_59 : decode cX14_next 59 = .ok (.getfield 107, 3) := by decide +kernel
theorem dX14_next_62 : decode cX14_next 62 = .ok (.invokevirtual 110, 3) := by decide +kernel
theorem dX14_next_65 : decode cX14_next 65 = .ok (.istore_n 1, 1) := by decide +kernel
theorem dX14_next_66 : decode cX14_next 66 = .ok (.iconst 0, 1) := by decide +kernel
theorem dX14_next_67 : decode cX14_next 67 = .ok (.istore_n 2, 1) := by decide +kernel
theorem dX14_next_68 : decode cX14_next 68 = .ok (.iload_n 1, 1) := by decide +kernel
theorem dX14_next_69 : decode cX14_next 69 = .ok (.iconst (-1), 1) := by decide +kernel
theorem dX14_next_70 : decode cX14_next 70 = .ok (.if_icmp .ne 11, 3) := by decide +kernel
theorem dX14_next_73 : decode cX14_next 73 = .ok (.aload_n 0, 1) := by decide +kernel
theorem dX14_next_74 : decode cX14_next 74 = .ok (.iconst 1, 1) := by decide +kernel
theorem dX14_next_75 : decode cX14_next 75 = .ok (.putfield 115, 3) := by decide +kernel
theorem dX14_next_78 : decode cX14_next 78 = .ok (.goto 188, 3) := by decide +kernel
theorem dX14_next_81 : decode cX14_next 81 = .ok (.iload_n 1, 1) := by decide +kernel
theorem dX14_next_82 : decode cX14_next 82 = .ok (.invokestatic 121, 3) := by decide +kernel
theorem dX14_next_85 : decode cX14_next 85 = .ok (.ifCond .eq 90, 3) := by decide +kernel
theorem dX14_next_88 : decode cX14_next 88 = .ok (.aload_n 0, 1) := by decide +kernel
theorem dX14_next_89 : decode cX14_next 89 = .ok (.lconst 0, 1) := by decide +kernel
theorem dX14_next_90 : decode cX14_next 90 = .ok (.putfield 125, 3) := by decide +kernel
theorem dX14_next_93 : decode cX14_next 93 = .ok (.aload_n 0, 1) := by decide +kernel
theorem dX14_next_94 : decode cX14_next 94 = .ok (.aload_n 0, 1) := by decide +kernel
theorem dX14_next_95 : decode cX14_next 95 = .ok (.getfield 107, 3) := by decide +kernel
theorem dX14_next_98 : decode cX14_next 98 = .ok (.invokevirtual 110, 3) := by decide +kernel
theorem dX14_next_101 : decode cX14_next 101 = .ok (.invokestatic 121, 3) := by decide +kernel
theorem dX14_next_104 : decode cX14_next 104 = .ok (.ifCond .eq 52, 3) := by decide +kernel
theorem dX14_next_107 : decode cX14_next 107 = .ok (.iload_n 2, 1) := by decide +kernel
theorem dX14_next_108 : decode cX14_next 108 = .ok (.bipush 8, 2) := by decide +kernel
theorem dX14_next_110 : decode cX14_next 110 = .ok (.if_icmp .ge 30, 3) := by decide +kernel
theorem dX14_next_113 : decode cX14_next 113 = .ok (.aload_n 0, 1) := by decide +kernel
theorem dX14_next_114 : decode cX14_next 114 = .ok (.ldc2_w 129, 3) := by decide +kernel
theorem dX14_next_117 : decode cX14_next 117 = .ok (.aload_n 0, 1) := by decide +kernel
theorem dX14_next_118 : decode cX14_next 118 = .ok (.getfield 125, 3) := by decide +kernel
theorem dX14_next_121 : decode cX14_next 121 = .ok (.lmul, 1) := by decide +kernel
theorem dX14_next_122 : decode cX14_next 122 = .ok (.aload_n 0, 1) := by decide +kernel
theorem dX14_next_123 : decode cX14_next 123 = .ok (.aload_n 0, 1) := by decide +kernel
theorem dX14_next_124 : decode cX14_next 124 = .ok (.getfield 107, 3) := by decide +kernel
theorem dX14_next_127 : decode cX14_next 127 = .ok (.invokevirtual 110, 3) := by decide +kernel
theorem dX14_next_130 : decode cX14_next 130 = .ok (.bipush 97, 2) := by decide +kernel
theorem dX14_next_132 : decode cX14_next 132 = .ok (.isub, 1) := by decide +kernel
theorem dX14_next_133 : decode cX14_next 133 = .ok (.iconst 1, 1) := by decide +kernel
theorem dX14_next_134 : decode cX14_next 134 = .ok (.iadd, 1) := by decide +kernel
theorem dX14_next_135 : decode cX14_next 135 = .ok (.i2l, 1) := by decide +kernel
theorem dX14_next_136 : decode cX14_next 136 = .ok (.ladd, 1) := by decide +kernel
theorem dX14_next_137 : decode cX14_next 137 = .ok (.putfield 125, 3) := by decide +kernel
theorem dX14_next_140 : decode cX14_next 140 = .ok (.iinc 2 1, 3) := by decide +kernel
theorem dX14_next_143 : decode cX14_next 143 = .ok (.aload_n 0, 1) := by decide +kernel
theorem dX14_next_144 : decode cX14_next 144 = .ok (.dup, 1) := by decide +kernel
theorem dX14_next_145 : decode cX14_next 145 = .ok (.getfield 107, 3) := by decide +kernel
theorem dX14_next_148 : decode cX14_next 148 = .ok (.iconst 1, 1) := by decide +kernel
theorem dX14_next_149 : decode cX14_next 149 = .ok (.iadd, 1) := by decide +kernel
theorem dX14_next_150 : decode cX14_next 150 = .ok (.putfield 107, 3) := by decide +kernel
theorem dX14_next_153 : decode cX14_next 153 = .ok (.goto (-60), 3) := by decide +kernel
theorem dX14_next_156 : decode cX14_next 156 = .ok (.aload_n 0, 1) := by decide +kernel
theorem dX14_next_157 : decode cX14_next 157 = .ok (.iload_n 2, 1) := by decide +kernel
theorem dX14_next_158 : decode cX14_next 158 = .ok (.putfield 131, 3) := by decide +kernel
theorem dX14_next_161 : decode cX14_next 161 = .ok (.iload_n 2, 1) := by decide +kernel
theorem dX14_next_162 : decode cX14_next 162 = .ok (.bipush 8, 2) := by decide +kernel
theorem dX14_next_164 : decode cX14_next 164 = .ok (.if_icmp .gt 102, 3) := by decide +kernel
theorem dX14_next_167 : decode cX14_next 167 = .ok (.aload_n 0, 1) := by decide +kernel
theorem dX14_next_168 : decode cX14_next 168 = .ok (.iconst 2, 1) := by decide +kernel
theorem dX14_next_169 : decode cX14_next 169 = .ok (.putfield 115, 3) := by decide +kernel
theorem dX14_next_172 : decode cX14_next 172 = .ok (.goto 94, 3) := by decide +kernel
theorem dX14_next_175 : decode cX14_next 175 = .ok (.iload_n 1, 1) := by decide +kernel
theorem dX14_next_176 : decode cX14_next 176 = .ok (.bipush 65, 2) := by decide +kernel
theorem dX14_next_178 : decode cX14_next 178 = .ok (.if_icmp .lt 32, 3) := by decide +kernel
theorem dX14_next_181 : decode cX14_next 181 = .ok (.iload_n 1, 1) := by decide +kernel
theorem dX14_next_182 : decode cX14_next 182 = .ok (.bipush 72, 2) := by decide +kernel
theorem dX14_next_184 : decode cX14_next 184 = .ok (.if_icmp .gt 26, 3) := by decide +kernel
theorem dX14_next_187 : decode cX14_next 187 = .ok (.aload_n 0, 1) := by decide +kernel
theorem dX14_next_188 : decode cX14_next 188 = .ok (.iconst 3, 1) := by decide +kernel
theorem dX14_next_189 : decode cX14_next 189 = .ok (.putfield 115, 3) := by decide +kernel
theorem dX14_next_192 : decode cX14_next 192 = .ok (.aload_n 0, 1) := by decide +kernel
theorem dX14_next_193 : decode cX14_next 193 = .ok (.iload_n 1, 1) := by decide +kernel
theorem dX14_next_194 : decode cX14_next 194 = .ok (.putfield 118, 3) := by decide +kernel
theorem dX14_next_197 : decode cX14_next 197 = .ok (.aload_n 0, 1) := by decide +kernel
theorem dX14_next_198 : decode cX14_next 198 = .ok (.dup, 1) := by decide +kernel
theorem dX14_next_199 : decode cX14_next 199 = .ok (.getfield 107, 3) := by decide +kernel
theorem dX14_next_202 : decode cX14_next 202 = .ok (.iconst 1, 1) := by decide +kernel
theorem dX14_next_203 : decode cX14_next 203 = .ok (.iadd, 1) := by decide +kernel
theorem dX14_next_204 : decode cX14_next 204 = .ok (.putfield 107, 3) := by decide +kernel
theorem dX14_next_207 : decode cX14_next 207 = .ok (.goto 59, 3) := by decide +kernel
theorem dX14_next_210 : decode cX14_next 210 = .ok (.iload_n 1, 1) := by decide +kernel
theorem dX14_next_211 : decode cX14_next 211 = .ok (.bipush 40, 2) := by decide +kernel
theorem dX14_next_213 : decode cX14_next 213 = .ok (.if_icmp .eq 33, 3) := by decide +kernel
theorem dX14_next_216 : decode cX14_next 216 = .ok (.iload_n 1, 1) := by decide +kernel
theorem dX14_next_217 : decode cX14_next 217 = .ok (.bipush 41, 2) := by decide +kernel
theorem dX14_next_219 : decode cX14_next 219 = .ok (.if_icmp .eq 27, 3) := by decide +kernel
theorem dX14_next_222 : decode cX14_next 222 = .ok (.iload_n 1, 1) := by decide +kernel
theorem dX14_next_223 : decode cX14_next 223 = .ok (.bipush 44, 2) := by decide +kernel
theorem dX14_next_225 : decode cX14_next 225 = .ok (.if_icmp .eq 21, 3) := by decide +kernel
theorem dX14_next_228 : decode cX14_next 228 = .ok (.iload_n 1, 1) := by decide +kernel
theorem dX14_next_229 : decode cX14_next 229 = .ok (.bipush 46, 2) := by decide +kernel
theorem dX14_next_231 : decode cX14_next 231 = .ok (.if_icmp .eq 15, 3) := by decide +kernel
theorem dX14_next_234 : decode cX14_next 234 = .ok (.iload_n 1, 1) := by decide +kernel
theorem dX14_next_235 : decode cX14_next 235 = .ok (.bipush 58, 2) := by decide +kernel
theorem dX14_next_237 : decode cX14_next 237 = .ok (.if_icmp .eq 9, 3) := by decide +kernel
theorem dX14_next_240 : decode cX14_next 240 = .ok (.iload_n 1, 1) := by decide +kernel
theorem dX14_next_241 : decode cX14_next 241 = .ok (.bipush 35, 2) := by decide +kernel
theorem dX14_next_243 : decode cX14_next 243 = .ok (.if_icmp .ne 23, 3) := by decide +kernel
theorem dX14_next_246 : decode cX14_next 246 = .ok (.aload_n 0, 1) := by decide +kernel
theorem dX14_next_247 : decode cX14_next 247 = .ok (.iconst 4, 1) := by decide +kernel
theorem dX14_next_248 : decode cX14_next 248 = .ok (.putfield 115, 3) := by decide +kernel
theorem dX14_next_251 : decode cX14_next 251 = .ok (.aload_n 0, 1) := by decide +kernel
theorem dX14_next_252 : decode cX14_next 252 = .ok (.iload_n 1, 1) := by decide +kernel
theorem dX14_next_253 : decode cX14_next 253 = .ok (.putfield 118, 3) := by decide +kernel
theorem dX14_next_256 : decode cX14_next 256 = .ok (.aload_n 0, 1) := by decide +kernel
theorem dX14_next_257 : decode cX14_next 257 = .ok (.dup, 1) := by decide +kernel
theorem dX14_next_258 : decode cX14_next 258 = .ok (.getfield 107, 3) := by decide +kernel
theorem dX14_next_261 : decode cX14_next 261 = .ok (.iconst 1, 1) := by decide +kernel
theorem dX14_next_262 : decode cX14_next 262 = .ok (.iadd, 1) := by decide +kernel
theorem dX14_next_263 : decode cX14_next 263 = .ok (.putfield 107, 3) := by decide +kernel
theorem dX14_next_266 : decode cX14_next 266 = .ok (.return_, 1) := by decide +kernel
theorem dX14_is_0 : decode cX14_is 0 = .ok (.aload_n 0, 1) := by decide +kernel
theorem dX14_is_1 : decode cX14_is 1 = .ok (.getfield 115, 3) := by decide +kernel
theorem dX14_is_4 : decode cX14_is 4 = .ok (.iconst 4, 1) := by decide +kernel
theorem dX14_is_5 : decode cX14_is 5 = .ok (.if_icmp .ne 15, 3) := by decide +kernel
theorem dX14_is_8 : decode cX14_is 8 = .ok (.aload_n 0, 1) := by decide +kernel
theorem dX14_is_9 : decode cX14_is 9 = .ok (.getfield 118, 3) := by decide +kernel
theorem dX14_is_12 : decode cX14_is 12 = .ok (.iload_n 1, 1) := by decide +kernel
theorem dX14_is_13 : decode cX14_is 13 = .ok (.if_icmp .ne 7, 3) := by decide +kernel
theorem dX14_is_16 : decode cX14_is 16 = .ok (.iconst 1, 1) := by decide +kernel
theorem dX14_is_17 : decode cX14_is 17 = .ok (.goto 4, 3) := by decide +kernel
theorem dX14_is_20 : decode cX14_is 20 = .ok (.iconst 0, 1) := by decide +kernel
theorem dX14_is_21 : decode cX14_is 21 = .ok (.ireturn, 1) := by decide +kernel
theorem dX14_isNot_0 : decode cX14_isNot 0 = .ok (.aload_n 0, 1) := by decide +kernel
theorem dX14_isNot_1 : decode cX14_isNot 1 = .ok (.getfield 115, 3) := by decide +kernel
theorem dX14_isNot_4 : decode cX14_isNot 4 = .ok (.iconst 2, 1) := by decide +kernel
theorem dX14_isNot_5 : decode cX14_isNot 5 = .ok (.if_icmp .ne 26, 3) := by decide +kernel
theorem dX14_isNot_8 : decode cX14_isNot 8 = .ok (.aload_n 0, 1) := by decide +kernel
theorem dX14_isNot_9 : decode cX14_isNot 9 = .ok (.getfield 131, 3) := by decide +kernel
theorem dX14_isNot_12 : decode cX14_isNot 12 = .ok (.iconst 3, 1) := by decide +kernel
theorem dX14_isNot_13 : decode cX14_isNot 13 = .ok (.if_icmp .ne 18, 3) := by decide +kernel
theorem dX14_isNot_16 : decode cX14_isNot 16 = .ok (.aload_n 0, 1) := by decide +kernel
theorem dX14_isNot_17 : decode cX14_isNot 17 = .ok (.getfield 125, 3) := by decide +kernel
theorem dX14_isNot_20 : decode cX14_isNot 20 = .ok (.ldc2_w 134, 3) := by decide +kernel
theorem dX14_isNot_23 : decode cX14_isNot 23 = .ok (.lcmp, 1) := by decide +kernel
theorem dX14_isNot_24 : decode cX14_isNot 24 = .ok (.ifCond .ne 7, 3) := by decide +kernel
theorem dX14_isNot_27 : decode cX14_isNot 27 = .ok (.iconst 1, 1) := by decide +kernel
theorem dX14_isNot_28 : decode cX14_isNot 28 = .ok (.goto 4, 3) := by decide +kernel
theorem dX14_isNot_31 : decode cX14_isNot 31 = .ok (.iconst 0, 1) := by decide +kernel
theorem dX14_isNot_32 : decode cX14_isNot 32 = .ok (.ireturn, 1) := by decide +kernel
theorem dX14_isBeforeUnlike_0 : decode cX14_isBeforeUnlike 0 = .ok (.aload_n 0, 1) := by decide +kernel
theorem dX14_isBeforeUnlike_1 : decode cX14_isBeforeUnlike 1 = .ok (.getfield 107, 3) := by decide +kernel
theorem dX14_isBeforeUnlike_4 : decode cX14_isBeforeUnlike 4 = .ok (.istore_n 1, 1) := by decide +kernel
theorem dX14_isBeforeUnlike_5 : decode cX14_isBeforeUnlike 5 = .ok (.aload_n 0, 1) := by decide +kernel
theorem dX14_isBeforeUnlike_6 : decode cX14_isBeforeUnlike 6 = .ok (.iload_n 1, 1) := by decide +kernel
theorem dX14_isBeforeUnlike_7 : decode cX14_isBeforeUnlike 7 = .ok (.invokevirtual 110, 3) := by decide +kernel
theorem dX14_isBeforeUnlike_10 : decode cX14_isBeforeUnlike 10 = .ok (.bipush 32, 2) := by decide +kernel
theorem dX14_isBeforeUnlike_12 : decode cX14_isBeforeUnlike 12 = .ok (.if_icmp .eq 13, 3) := by decide +kernel
theorem dX14_isBeforeUnlike_15 : decode cX14_isBeforeUnlike 15 = .ok (.aload_n 0, 1) := by decide +kernel
theorem dX14_isBeforeUnlike_16 : decode cX14_isBeforeUnlike 16 = .ok (.iload_n 1, 1) := by decide +kernel
theorem dX14_isBeforeUnlike_17 : decode cX14_isBeforeUnlike 17 = .ok (.invokevirtual 110, 3) := by decide +kernel
theorem dX14_isBeforeUnlike_20 : decode cX14_isBeforeUnlike 20 = .ok (.bipush 10, 2) := by decide +kernel
theorem dX14_isBeforeUnlike_22 : decode cX14_isBeforeUnlike 22 = .ok (.if_icmp .ne 9, 3) := by decide +kernel
theorem dX14_isBeforeUnlike_25 : decode cX14_isBeforeUnlike 25 = .ok (.iinc 1 1, 3) := by decide +kernel
theorem dX14_isBeforeUnlike_28 : decode cX14_isBeforeUnlike 28 = .ok (.goto (-23), 3) := by decide +kernel
theorem dX14_isBeforeUnlike_31 : decode cX14_isBeforeUnlike 31 = .ok (.aload_n 0, 1) := by decide +kernel
theorem dX14_isBeforeUnlike_32 : decode cX14_isBeforeUnlike 32 = .ok (.iload_n 1, 1) := by decide +kernel
theorem dX14_isBeforeUnlike_33 : decode cX14_isBeforeUnlike 33 = .ok (.invokevirtual 110, 3) := by decide +kernel
theorem dX14_isBeforeUnlike_36 : decode cX14_isBeforeUnlike 36 = .ok (.bipush 35, 2) := by decide +kernel
theorem dX14_isBeforeUnlike_38 : decode cX14_isBeforeUnlike 38 = .ok (.if_icmp .ne 7, 3) := by decide +kernel
theorem dX14_isBeforeUnlike_41 : decode cX14_isBeforeUnlike 41 = .ok (.iconst 1, 1) := by decide +kernel
theorem dX14_isBeforeUnlike_42 : decode cX14_isBeforeUnlike 42 = .ok (.goto 4, 3) := by decide +kernel
theorem dX14_isBeforeUnlike_45 : decode cX14_isBeforeUnlike 45 = .ok (.iconst 0, 1) := by decide +kernel
theorem dX14_isBeforeUnlike_46 : decode cX14_isBeforeUnlike 46 = .ok (.ireturn, 1) := by decide +kernel
theorem dX14_thingHere_0 : decode cX14_thingHere 0 = .ok (.iconst 0, 1) := by decide +kernel
theorem dX14_thingHere_1 : decode cX14_thingHere 1 = .ok (.istore_n 1, 1) := by decide +kernel
theorem dX14_thingHere_2 : decode cX14_thingHere 2 = .ok (.iload_n 1, 1) := by decide +kernel
theorem dX14_thingHere_3 : decode cX14_thingHere 3 = .ok (.aload_n 0, 1) := by decide +kernel
theorem dX14_thingHere_4 : decode cX14_thingHere 4 = .ok (.getfield 96, 3) := by decide +kernel
theorem dX14_thingHere_7 : decode cX14_thingHere 7 = .ok (.if_icmp .ge 23, 3) := by decide +kernel
theorem dX14_thingHere_10 : decode cX14_thingHere 10 = .ok (.aload_n 0, 1) := by decide +kernel
theorem dX14_thingHere_11 : decode cX14_thingHere 11 = .ok (.getfield 13, 3) := by decide +kernel
theorem dX14_thingHere_14 : decode cX14_thingHere 14 = .ok (.iload_n 1, 1) := by decide +kernel
theorem dX14_thingHere_15 : decode cX14_thingHere 15 = .ok (.laload, 1) := by decide +kernel
theorem dX14_thingHere_16 : decode cX14_thingHere 16 = .ok (.aload_n 0, 1) := by decide +kernel
theorem dX14_thingHere_17 : decode cX14_thingHere 17 = .ok (.getfield 125, 3) := by decide +kernel
theorem dX14_thingHere_20 : decode cX14_thingHere 20 = .ok (.lcmp, 1) := by decide +kernel
theorem dX14_thingHere_21 : decode cX14_thingHere 21 = .ok (.ifCond .eq 9, 3) := by decide +kernel
theorem dX14_thingHere_24 : decode cX14_thingHere 24 = .ok (.iinc 1 1, 3) := by decide +kernel
theorem dX14_thingHere_27 : decode cX14_thingHere 27 = .ok (.goto (-25), 3) := by decide +kernel
theorem dX14_thingHere_30 : decode cX14_thingHere 30 = .ok (.iload_n 1, 1) := by decide +kernel
theorem dX14_thingHere_31 : decode cX14_thingHere 31 = .ok (.aload_n 0, 1) := by decide +kernel
theorem dX14_thingHere_32 : decode cX14_thingHere 32 = .ok (.getfield 96, 3) := by decide +kernel
theorem dX14_thingHere_35 : decode cX14_thingHere 35 = .ok (.if_icmp .ge 5, 3) := by decide +kernel
theorem dX14_thingHere_38 : decode cX14_thingHere 38 = .ok (.iload_n 1, 1) := by decide +kernel
theorem dX14_thingHere_39 : decode cX14_thingHere 39 = .ok (.ireturn, 1) := by decide +kernel
theorem dX14_thingHere_40 : decode cX14_thingHere 40 = .ok (.aload_n 0, 1) := by decide +kernel
theorem dX14_thingHere_41 : decode cX14_thingHere 41 = .ok (.getfield 96, 3) := by decide +kernel
theorem dX14_thingHere_44 : decode cX14_thingHere 44 = .ok (.bipush 10, 2) := by decide +kernel
theorem dX14_thingHere_46 : decode cX14_thingHere 46 = .ok (.if_icmp .ne 13, 3) := by decide +kernel
theorem dX14_thingHere_49 : decode cX14_thingHere 49 = .ok (.aload_n 0, 1) := by decide +kernel
theorem dX14_thingHere_50 : decode cX14_thingHere 50 = .ok (.iconst 4, 1) := by decide +kernel
theorem dX14_thingHere_51 : decode cX14_thingHere 51 = .ok (.aload_n 0, 1) := by decide +kernel
theorem dX14_thingHere_52 : decode cX14_thingHere 52 = .ok (.getfield 114, 3) := by decide +kernel
theorem dX14_thingHere_55 : decode cX14_thingHere 55 = .ok (.invokevirtual 136, 3) := by decide +kernel
theorem dX14_thingHere_58 : decode cX14_thingHere 58 = .ok (.athrow, 1) := by decide +kernel
theorem dX14_thingHere_59 : decode cX14_thingHere 59 = .ok (.aload_n 0, 1) := by decide +kernel
theorem dX14_thingHere_60 : decode cX14_thingHere 60 = .ok (.getfield 13, 3) := by decide +kernel
theorem dX14_thingHere_63 : decode cX14_thingHere 63 = .ok (.aload_n 0, 1) := by decide +kernel
theorem dX14_thingHere_64 : decode cX14_thingHere 64 = .ok (.getfield 96, 3) := by decide +kernel
theorem dX14_thingHere_67 : decode cX14_thingHere 67 = .ok (.aload_n 0, 1) := by decide +kernel
theorem dX14_thingHere_68 : decode cX14_thingHere 68 = .ok (.getfield 125, 3) := by decide +kernel
theorem dX14_thingHere_71 : decode cX14_thingHere 71 = .ok (.lastore, 1) := by decide +kernel
theorem dX14_thingHere_72 : decode cX14_thingHere 72 = .ok (.aload_n 0, 1) := by decide +kernel
theorem dX14_thingHere_73 : decode cX14_thingHere 73 = .ok (.getfield 20, 3) := by decide +kernel
theorem dX14_thingHere_76 : decode cX14_thingHere 76 = .ok (.aload_n 0, 1) := by decide +kernel
theorem dX14_thingHere_77 : decode cX14_thingHere 77 = .ok (.getfield 96, 3) := by decide +kernel
theorem dX14_thingHere_80 : decode cX14_thingHere 80 = .ok (.aload_n 0, 1) := by decide +kernel
theorem dX14_thingHere_81 : decode cX14_thingHere 81 = .ok (.getfield 131, 3) := by decide +kernel
theorem dX14_thingHere_84 : decode cX14_thingHere 84 = .ok (.iastore, 1) := by decide +kernel
theorem dX14_thingHere_85 : decode cX14_thingHere 85 = .ok (.aload_n 0, 1) := by decide +kernel
theorem dX14_thingHere_86 : decode cX14_thingHere 86 = .ok (.dup, 1) := by decide +kernel
theorem dX14_thingHere_87 : decode cX14_thingHere 87 = .ok (.getfield 96, 3) := by decide +kernel
theorem dX14_thingHere_90 : decode cX14_thingHere 90 = .ok (.iconst 1, 1) := by decide +kernel
theorem dX14_thingHere_91 : decode cX14_thingHere 91 = .ok (.iadd, 1) := by decide +kernel
theorem dX14_thingHere_92 : decode cX14_thingHere 92 = .ok (.putfield 96, 3) := by decide +kernel
theorem dX14_thingHere_95 : decode cX14_thingHere 95 = .ok (.iload_n 1, 1) := by decide +kernel
theorem dX14_thingHere_96 : decode cX14_thingHere 96 = .ok (.ireturn, 1) := by decide +kernel
theorem dX14_readArg_0 : decode cX14_readArg 0 = .ok (.aload_n 0, 1) := by decide +kernel
theorem dX14_readArg_1 : decode cX14_readArg 1 = .ok (.getfield 115, 3) := by decide +kernel
theorem dX14_readArg_4 : decode cX14_readArg 4 = .ok (.iconst 2, 1) := by decide +kernel
theorem dX14_readArg_5 : decode cX14_readArg 5 = .ok (.if_icmp .ne 14, 3) := by decide +kernel
theorem dX14_readArg_8 : decode cX14_readArg 8 = .ok (.aload_n 0, 1) := by decide +kernel
theorem dX14_readArg_9 : decode cX14_readArg 9 = .ok (.invokevirtual 139, 3) := by decide +kernel
theorem dX14_readArg_12 : decode cX14_readArg 12 = .ok (.istore_n 2, 1) := by decide +kernel
theorem dX14_readArg_13 : decode cX14_readArg 13 = .ok (.aload_n 0, 1) := by decide +kernel
theorem dX14_readArg_14 : decode cX14_readArg 14 = .ok (.invokevirtual 143, 3) := by decide +kernel
theorem dX14_readArg_17 : decode cX14_readArg 17 = .ok (.iload_n 2, 1) := by decide +kernel
theorem dX14_readArg_18 : decode cX14_readArg 18 = .ok (.ireturn, 1) := by decide +kernel
theorem dX14_readArg_19 : decode cX14_readArg 19 = .ok (.aload_n 0, 1) := by decide +kernel
theorem dX14_readArg_20 : decode cX14_readArg 20 = .ok (.getfield 115, 3) := by decide +kernel
theorem dX14_readArg_23 : decode cX14_readArg 23 = .ok (.iconst 3, 1) := by decide +kernel
theorem dX14_readArg_24 : decode cX14_readArg 24 = .ok (.if_icmp .eq 13, 3) := by decide +kernel
theorem dX14_readArg_27 : decode cX14_readArg 27 = .ok (.aload_n 0, 1) := by decide +kernel
theorem dX14_readArg_28 : decode cX14_readArg 28 = .ok (.iconst 1, 1) := by decide +kernel
theorem dX14_readArg_29 : decode cX14_readArg 29 = .ok (.aload_n 0, 1) := by decide +kernel
theorem dX14_readArg_30 : decode cX14_readArg 30 = .ok (.getfield 114, 3) := by decide +kernel
theorem dX14_readArg_33 : decode cX14_readArg 33 = .ok (.invokevirtual 136, 3) := by decide +kernel
theorem dX14_readArg_36 : decode cX14_readArg 36 = .ok (.athrow, 1) := by decide +kernel
theorem dX14_readArg_37 : decode cX14_readArg 37 = .ok (.aload_n 0, 1) := by decide +kernel
theorem dX14_readArg_38 : decode cX14_readArg 38 = .ok (.getfield 146, 3) := by decide +kernel
theorem dX14_readArg_41 : decode cX14_readArg 41 = .ok (.aload_n 0, 1) := by decide +kernel
theorem dX14_readArg_42 : decode cX14_readArg 42 = .ok (.getfield 118, 3) := by decide +kernel
theorem dX14_readArg_45 : decode cX14_readArg 45 = .ok (.invokevirtual 150, 3) := by decide +kernel
theorem dX14_readArg_48 : decode cX14_readArg 48 = .ok (.istore_n 2, 1) := by decide +kernel
theorem dX14_readArg_49 : decode cX14_readArg 49 = .ok (.iload_n 2, 1) := by decide +kernel
theorem dX14_readArg_50 : decode cX14_readArg 50 = .ok (.iconst (-1), 1) := by decide +kernel
theorem dX14_readArg_51 : decode cX14_readArg 51 = .ok (.if_icmp .ne 58, 3) := by decide +kernel
theorem dX14_readArg_54 : decode cX14_readArg 54 = .ok (.aload_n 0, 1) := by decide +kernel
theorem dX14_readArg_55 : decode cX14_readArg 55 = .ok (.getfield 146, 3) := by decide +kernel
theorem dX14_readArg_58 : decode cX14_readArg 58 = .ok (.getfield 153, 3) := by decide +kernel
theorem dX14_readArg_61 : decode cX14_readArg 61 = .ok (.iconst 3, 1) := by decide +kernel
theorem dX14_readArg_62 : decode cX14_readArg 62 = .ok (.if_icmp .ne 13, 3) := by decide +kernel
theorem dX14_readArg_65 : decode cX14_readArg 65 = .ok (.aload_n 0, 1) := by decide +kernel
theorem dX14_readArg_66 : decode cX14_readArg 66 = .ok (.iconst 4, 1) := by decide +kernel
theorem dX14_readArg_67 : decode cX14_readArg 67 = .ok (.aload_n 0, 1) := by decide +kernel
theorem dX14_readArg_68 : decode cX14_readArg 68 = .ok (.getfield 114, 3) := by decide +kernel
theorem dX14_readArg_71 : decode cX14_readArg 71 = .ok (.invokevirtual 136, 3) := by decide +kernel
theorem dX14_readArg_74 : decode cX14_readArg 74 = .ok (.athrow, 1) := by decide +kernel
theorem dX14_readArg_75 : decode cX14_readArg 75 = .ok (.aload_n 0, 1) := by decide +kernel
theorem dX14_readArg_76 : decode cX14_readArg 76 = .ok (.getfield 146, 3) := by decide +kernel
theorem dX14_readArg_79 : decode cX14_readArg 79 = .ok (.getfield 153, 3) := by decide +kernel
theorem dX14_readArg_82 : decode cX14_readArg 82 = .ok (.istore_n 2, 1) := by decide +kernel
theorem dX14_readArg_83 : decode cX14_readArg 83 = .ok (.aload_n 0, 1) := by decide +kernel
theorem dX14_readArg_84 : decode cX14_readArg 84 = .ok (.getfield 146, 3) := by decide +kernel
theorem dX14_readArg_87 : decode cX14_readArg 87 = .ok (.getfield 156, 3) := by decide +kernel
theorem dX14_readArg_90 : decode cX14_readArg 90 = .ok (.iload_n 2, 1) := by decide +kernel
theorem dX14_readArg_91 : decode cX14_readArg 91 = .ok (.aload_n 0, 1) := by decide +kernel
theorem dX14_readArg_92 : decode cX14_readArg 92 = .ok (.getfield 118, 3) := by decide +kernel
theorem dX14_readArg_95 : decode cX14_readArg 95 = .ok (.iastore, 1) := by decide +kernel
theorem dX14_readArg_96 : decode cX14_readArg 96 = .ok (.aload_n 0, 1) := by decide +kernel
theorem dX14_readArg_97 : decode cX14_readArg 97 = .ok (.getfield 146, 3) := by decide +kernel
theorem dX14_readArg_100 : decode cX14_readArg 100 = .ok (.dup, 1) := by decide +kernel
theorem dX14_readArg_101 : decode cX14_readArg 101 = .ok (.getfield 153, 3) := by decide +kernel
theorem dX14_readArg_104 : decode cX14_readArg 104 = .ok (.iconst 1, 1) := by decide +kernel
theorem dX14_readArg_105 : decode cX14_readArg 105 = .ok (.iadd, 1) := by decide +kernel
theorem dX14_readArg_106 : decode cX14_readArg 106 = .ok (.putfield 153, 3) := by decide +kernel
theorem dX14_readArg_109 : decode cX14_readArg 109 = .ok (.iload_n 1, 1) := by decide +kernel
theorem dX14_readArg_110 : decode cX14_readArg 110 = .ok (.ifCond .eq 18, 3) := by decide +kernel
theorem dX14_readArg_113 : decode cX14_readArg 113 = .ok (.aload_n 0, 1) := by decide +kernel
theorem dX14_readArg_114 : decode cX14_readArg 114 = .ok (.dup, 1) := by decide +kernel
theorem dX14_readArg_115 : decode cX14_readArg 115 = .ok (.getfield 159, 3) := by decide +kernel
theorem dX14_readArg_118 : decode cX14_readArg 118 = .ok (.iconst 1, 1) := by decide +kernel
theorem dX14_readArg_119 : decode cX14_readArg 119 = .ok (.iload_n 2, 1) := by decide +kernel
theorem dX14_readArg_120 : decode cX14_readArg 120 = .ok (.ishl, 1) := by decide +kernel
theorem dX14_readArg_121 : decode cX14_readArg 121 = .ok (.ior, 1) := by decide +kernel
theorem dX14_readArg_122 : decode cX14_readArg 122 = .ok (.putfield 159, 3) := by decide +kernel
theorem dX14_readArg_125 : decode cX14_readArg 125 = .ok (.goto 36, 3) := by decide +kernel
theorem dX14_readArg_128 : decode cX14_readArg 128 = .ok (.aload_n 0, 1) := by decide +kernel
theorem dX14_readArg_129 : decode cX14_readArg 129 = .ok (.getfield 57, 3) := by decide +kernel
theorem dX14_readArg_132 : decode cX14_readArg 132 = .ok (.aload_n 0, 1) := by decide +kernel
theorem dX14_readArg_133 : decode cX14_readArg 133 = .ok (.getfield 162, 3) := by decide +kernel
theorem dX14_readArg_136 : decode cX14_readArg 136 = .ok (.aload_n 0, 1) := by decide +kernel
theorem dX14_readArg_137 : decode cX14_readArg 137 = .ok (.getfield 114, 3) := by decide +kernel
theorem dX14_readArg_140 : decode cX14_readArg 140 = .ok (.iastore, 1) := by decide +kernel
theorem dX14_readArg_141 : decode cX14_readArg 141 = .ok (.aload_n 0, 1) := by decide +kernel
theorem dX14_readArg_142 : decode cX14_readArg 142 = .ok (.getfield 60, 3) := by decide +kernel
theorem dX14_readArg_145 : decode cX14_readArg 145 = .ok (.aload_n 0, 1) := by decide +kernel
theorem dX14_readArg_146 : decode cX14_readArg 146 = .ok (.getfield 162, 3) := by decide +kernel
theorem dX14_readArg_149 : decode cX14_readArg 149 = .ok (.iload_n 2, 1) := by decide +kernel
theorem dX14_readArg_150 : decode cX14_readArg 150 = .ok (.iastore, 1) := by decide +kernel
theorem dX14_readArg_151 : decode cX14_readArg 151 = .ok (.aload_n 0, 1) := by decide +kernel
theorem dX14_readArg_152 : decode cX14_readArg 152 = .ok (.dup, 1) := by decide +kernel
theorem dX14_readArg_153 : decode cX14_readArg 153 = .ok (.getfield 162, 3) := by decide +kernel
theorem dX14_readArg_156 : decode cX14_readArg 156 = .ok (.iconst 1, 1) := by decide +kernel
theorem dX14_readArg_157 : decode cX14_readArg 157 = .ok (.iadd, 1) := by decide +kernel
theorem dX14_readArg_158 : decode cX14_readArg 158 = .ok (.putfield 162, 3) := by decide +kernel
theorem dX14_readArg_161 : decode cX14_readArg 161 = .ok (.aload_n 0, 1) := by decide +kernel
theorem dX14_readArg_162 : decode cX14_readArg 162 = .ok (.invokevirtual 143, 3) := by decide +kernel
theorem dX14_readArg_165 : decode cX14_readArg 165 = .ok (.bipush 100, 2) := by decide +kernel
theorem dX14_readArg_167 : decode cX14_readArg 167 = .ok (.iload_n 2, 1) := by decide +kernel
theorem dX14_readArg_168 : decode cX14_readArg 168 = .ok (.iadd, 1) := by decide +kernel
theorem dX14_readArg_169 : decode cX14_readArg 169 = .ok (.ireturn, 1) := by decide +kernel
theorem dX14_readAtom_0 : decode cX14_readAtom 0 = .ok (.aload_n 0, 1) := by decide +kernel
theorem dX14_readAtom_1 : decode cX14_readAtom 1 = .ok (.getfield 115, 3) := by decide +kernel
theorem dX14_readAtom_4 : decode cX14_readAtom 4 = .ok (.iconst 2, 1) := by decide +kernel
theorem dX14_readAtom_5 : decode cX14_readAtom 5 = .ok (.if_icmp .ne 10, 3) := by decide +kernel
theorem dX14_readAtom_8 : decode cX14_readAtom 8 = .ok (.aload_n 0, 1) := by decide +kernel
theorem dX14_readAtom_9 : decode cX14_readAtom 9 = .ok (.invokevirtual 165, 3) := by decide +kernel
theorem dX14_readAtom_12 : decode cX14_readAtom 12 = .ok (.ifCond .eq 13, 3) := by decide +kernel
theorem dX14_readAtom_15 : decode cX14_readAtom 15 = .ok (.aload_n 0, 1) := by decide +kernel
theorem dX14_readAtom_16 : decode cX14_readAtom 16 = .ok (.iconst 1, 1) := by decide +kernel
theorem dX14_readAtom_17 : decode cX14_readAtom 17 = .ok (.aload_n 0, 1) := by decide +kernel
theorem dX14_readAtom_18 : decode cX14_readAtom 18 = .ok (.getfield 114, 3) := by decide +kernel
theorem dX14_readAtom_21 : decode cX14_readAtom 21 = .ok (.invokevirtual 136, 3) := by decide +kernel
theorem dX14_readAtom_24 : decode cX14_readAtom 24 = .ok (.athrow, 1) := by decide +kernel
theorem dX14_readAtom_25 : decode cX14_readAtom 25 = .ok (.aload_n 0, 1) := by decide +kernel
theorem dX14_readAtom_26 : decode cX14_readAtom 26 = .ok (.getfield 114, 3) := by decide +kernel
theorem dX14_readAtom_29 : decode cX14_readAtom 29 = .ok (.istore_n 3, 1) := by decide +kernel
theorem dX14_readAtom_30 : decode cX14_readAtom 30 = .ok (.iconst 0, 1) := by decide +kernel
theorem dX14_readAtom_31 : decode cX14_readAtom 31 = .ok (.istore 4, 2) := by decide +kernel
theorem dX14_readAtom_33 : decode cX14_readAtom 33 = .ok (.iload 4, 2) := by decide +kernel
theorem dX14_readAtom_35 : decode cX14_readAtom 35 = .ok (.aload_n 0, 1) := by decide +kernel
theorem dX14_readAtom_36 : decode cX14_readAtom 36 = .ok (.getfield 90, 3) := by decide +kernel
theorem dX14_readAtom_39 : decode cX14_readAtom 39 = .ok (.if_icmp .ge 24, 3) := by decide +kernel
theorem dX14_readAtom_42 : decode cX14_readAtom 42 = .ok (.aload_n 0, 1) := by decide +kernel
theorem dX14_readAtom_43 : decode cX14_readAtom 43 = .ok (.getfield 17, 3) := by decide +kernel
theorem dX14_readAtom_46 : decode cX14_readAtom 46 = .ok (.iload 4, 2) := by decide +kernel
theorem dX14_readAtom_48 : decode cX14_readAtom 48 = .ok (.laload, 1) := by decide +kernel
theorem dX14_readAtom_49 : decode cX14_readAtom 49 = .ok (.aload_n 0, 1) := by decide +kernel
theorem dX14_readAtom_50 : decode cX14_readAtom 50 = .ok (.getfield 125, 3) := by decide +kernel
theorem dX14_readAtom_53 : decode cX14_readAtom 53 = .ok (.lcmp, 1) := by decide +kernel
theorem dX14_readAtom_54 : decode cX14_readAtom 54 = .ok (.ifCond .eq 9, 3) := by decide +kernel
theorem dX14_readAtom_57 : decode cX14_readAtom 57 = .ok (.iinc 4 1, 3) := by decide +kernel
theorem dX14_readAtom_60 : decode cX14_readAtom 60 = .ok (.goto (-27), 3) := by decide +kernel
theorem dX14_readAtom_63 : decode cX14_readAtom 63 = .ok (.iload 4, 2) := by decide +kernel
theorem dX14_readAtom_65 : decode cX14_readAtom 65 = .ok (.aload_n 0, 1) := by decide +kernel
theorem dX14_readAtom_66 : decode cX14_readAtom 66 = .ok (.getfield 90, 3) := by decide +kernel
theorem dX14_readAtom_69 : decode cX14_readAtom 69 = .ok (.if_icmp .ne 7, 3) := by decide +kernel
theorem dX14_readAtom_72 : decode cX14_readAtom 72 = .ok (.iconst 1, 1) := by decide +kernel
theorem dX14_readAtom_73 : decode cX14_readAtom 73 = .ok (.goto 4, 3) := by decide +kernel
theorem dX14_readAtom_76 : decode cX14_readAtom 76 = .ok (.iconst 0, 1) := by decide +kernel
theorem dX14_readAtom_77 : decode cX14_readAtom 77 = .ok (.istore 5, 2) := by decide +kernel
theorem dX14_readAtom_79 : decode cX14_readAtom 79 = .ok (.iload 5, 2) := by decide +kernel
theorem dX14_readAtom_81 : decode cX14_readAtom 81 = .ok (.ifCond .eq 58, 3) := by decide +kernel
theorem dX14_readAtom_84 : decode cX14_readAtom 84 = .ok (.aload_n 0, 1) := by decide +kernel
theorem dX14_readAtom_85 : decode cX14_readAtom 85 = .ok (.getfield 90, 3) := by decide +kernel
theorem dX14_readAtom_88 : decode cX14_readAtom 88 = .ok (.bipush 10, 2) := by decide +kernel
theorem dX14_readAtom_90 : decode cX14_readAtom 90 = .ok (.if_icmp .ne 13, 3) := by decide +kernel
theorem dX14_readAtom_93 : decode cX14_readAtom 93 = .ok (.aload_n 0, 1) := by decide +kernel
theorem dX14_readAtom_94 : decode cX14_readAtom 94 = .ok (.iconst 4, 1) := by decide +kernel
theorem dX14_readAtom_95 : decode cX14_readAtom 95 = .ok (.aload_n 0, 1) := by decide +kernel
theorem dX14_readAtom_96 : decode cX14_readAtom 96 = .ok (.getfield 114, 3) := by decide +kernel
theorem dX14_readAtom_99 : decode cX14_readAtom 99 = .ok (.invokevirtual 136, 3) := by decide +kernel
theorem dX14_readAtom_102 : decode cX14_readAtom 102 = .ok (.athrow, 1) := by decide +kernel
theorem dX14_readAtom_103 : decode cX14_readAtom 103 = .ok (.aload_n 0, 1) := by decide +kernel
theorem dX14_readAtom_104 : decode cX14_readAtom 104 = .ok (.getfield 17, 3) := by decide +kernel
theorem dX14_readAtom_107 : decode cX14_readAtom 107 = .ok (.aload_n 0, 1) := by decide +kernel
theorem dX14_readAtom_108 : decode cX14_readAtom 108 = .ok (.getfield 90, 3) := by decide +kernel
theorem dX14_readAtom_111 : decode cX14_readAtom 111 = .ok (.aload_n 0, 1) := by decide +kernel
theorem dX14_readAtom_112 : decode cX14_readAtom 112 = .ok (.getfield 125, 3) := by decide +kernel
theorem dX14_readAtom_115 : decode cX14_readAtom 115 = .ok (.lastore, 1) := by decide +kernel
theorem dX14_readAtom_116 : decode cX14_readAtom 116 = .ok (.aload_n 0, 1) := by decide +kernel
theorem dX14_readAtom_117 : decode cX14_readAtom 117 = .ok (.getfield 24, 3) := by decide +kernel
theorem dX14_readAtom_120 : decode cX14_readAtom 120 = .ok (.aload_n 0, 1) := by decide +kernel
theorem dX14_readAtom_121 : decode cX14_readAtom 121 = .ok (.getfield 90, 3) := by decide +kernel
theorem dX14_readAtom_124 : decode cX14_readAtom 124 = .ok (.aload_n 0, 1) := by decide +kernel
theorem dX14_readAtom_125 : decode cX14_readAtom 125 = .ok (.getfield 131, 3) := by decide +kernel
theorem dX14_readAtom_128 : decode cX14_readAtom 128 = .ok (.iastore, 1) := by decide +kernel
theorem dX14_readAtom_129 : decode cX14_readAtom 129 = .ok (.aload_n 0, 1) := by decide +kernel
theorem dX14_readAtom_130 : decode cX14_readAtom 130 = .ok (.dup, 1) := by decide +kernel
theorem dX14_readAtom_131 : decode cX14_readAtom 131 = .ok (.getfield 90, 3) := by decide +kernel
theorem dX14_readAtom_134 : decode cX14_readAtom 134 = .ok (.iconst 1, 1) := by decide +kernel
theorem dX14_readAtom_135 : decode cX14_readAtom 135 = .ok (.iadd, 1) := by decide +kernel
theorem dX14_readAtom_136 : decode cX14_readAtom 136 = .ok (.putfield 90, 3) := by decide +kernel
theorem dX14_readAtom_139 : decode cX14_readAtom 139 = .ok (.aload_n 0, 1) := by decide +kernel
theorem dX14_readAtom_140 : decode cX14_readAtom 140 = .ok (.invokevirtual 143, 3) := by decide +kernel
theorem dX14_readAtom_143 : decode cX14_readAtom 143 = .ok (.aload_n 0, 1) := by decide +kernel
theorem dX14_readAtom_144 : decode cX14_readAtom 144 = .ok (.getfield 146, 3) := by decide +kernel
theorem dX14_readAtom_147 : decode cX14_readAtom 147 = .ok (.getfield 169, 3) := by decide +kernel
theorem dX14_readAtom_150 : decode cX14_readAtom 150 = .ok (.iload_n 1, 1) := by decide +kernel
theorem dX14_readAtom_151 : decode cX14_readAtom 151 = .ok (.iload_n 2, 1) := by decide +kernel
theorem dX14_readAtom_152 : decode cX14_readAtom 152 = .ok (.iastore, 1) := by decide +kernel
theorem dX14_readAtom_153 : decode cX14_readAtom 153 = .ok (.aload_n 0, 1) := by decide +kernel
theorem dX14_readAtom_154 : decode cX14_readAtom 154 = .ok (.getfield 146, 3) := by decide +kernel
theorem dX14_readAtom_157 : decode cX14_readAtom 157 = .ok (.getfield 171, 3) := by decide +kernel
theorem dX14_readAtom_160 : decode cX14_readAtom 160 = .ok (.iload_n 1, 1) := by decide +kernel
theorem dX14_readAtom_161 : decode cX14_readAtom 161 = .ok (.iload 4, 2) := by decide +kernel
theorem dX14_readAtom_163 : decode cX14_readAtom 163 = .ok (.iastore, 1) := by decide +kernel
theorem dX14_readAtom_164 : decode cX14_readAtom 164 = .ok (.aload_n 0, 1) := by decide +kernel
theorem dX14_readAtom_165 : decode cX14_readAtom 165 = .ok (.getfield 146, 3) := by decide +kernel
theorem dX14_readAtom_168 : decode cX14_readAtom 168 = .ok (.getfield 173, 3) := by decide +kernel
theorem dX14_readAtom_171 : decode cX14_readAtom 171 = .ok (.iload_n 1, 1) := by decide +kernel
theorem dX14_readAtom_172 : decode cX14_readAtom 172 = .ok (.iconst (-1), 1) := by decide +kernel
theorem dX14_readAtom_173 : decode cX14_readAtom 173 = .ok (.iastore, 1) := by decide +kernel
theorem dX14_readAtom_174 : decode cX14_readAtom 174 = .ok (.aload_n 0, 1) := by decide +kernel
theorem dX14_readAtom_175 : decode cX14_readAtom 175 = .ok (.getfield 146, 3) := by decide +kernel
theorem dX14_readAtom_178 : decode cX14_readAtom 178 = .ok (.getfield 176, 3) := by decide +kernel
theorem dX14_readAtom_181 : decode cX14_readAtom 181 = .ok (.iload_n 1, 1) := by decide +kernel
theorem dX14_readAtom_182 : decode cX14_readAtom 182 = .ok (.iconst (-1), 1) := by decide +kernel
theorem dX14_readAtom_183 : decode cX14_readAtom 183 = .ok (.iastore, 1) := by decide +kernel
theorem dX14_readAtom_184 : decode cX14_readAtom 184 = .ok (.iconst 0, 1) := by decide +kernel
theorem dX14_readAtom_185 : decode cX14_readAtom 185 = .ok (.istore 6, 2) := by decide +kernel
theorem dX14_readAtom_187 : decode cX14_readAtom 187 = .ok (.aload_n 0, 1) := by decide +kernel
theorem dX14_readAtom_188 : decode cX14_readAtom 188 = .ok (.bipush 40, 2) := by decide +kernel
theorem dX14_readAtom_190 : decode cX14_readAtom 190 = .ok (.invokevirtual 179, 3) := by decide +kernel
theorem dX14_readAtom_193 : decode cX14_readAtom 193 = .ok (.ifCond .eq 101, 3) := by decide +kernel
theorem dX14_readAtom_196 : decode cX14_readAtom 196 = .ok (.aload_n 0, 1) := by decide +kernel
theorem dX14_readAtom_197 : decode cX14_readAtom 197 = .ok (.invokevirtual 143, 3) := by decide +kernel
theorem dX14_readAtom_200 : decode cX14_readAtom 200 = .ok (.aload_n 0, 1) := by decide +kernel
theorem dX14_readAtom_201 : decode cX14_readAtom 201 = .ok (.getfield 146, 3) := by decide +kernel
theorem dX14_readAtom_204 : decode cX14_readAtom 204 = .ok (.getfield 173, 3) := by decide +kernel
theorem dX14_readAtom_207 : decode cX14_readAtom 207 = .ok (.iload_n 1, 1) := by decide +kernel
theorem dX14_readAtom_208 : decode cX14_readAtom 208 = .ok (.aload_n 0, 1) := by decide +kernel
theorem dX14_readAtom_209 : decode cX14_readAtom 209 = .ok (.iload_n 1, 1) := by decide +kernel
theorem dX14_readAtom_210 : decode cX14_readAtom 210 = .ok (.ifCond .le 11, 3) := by decide +kernel
theorem dX14_readAtom_213 : decode cX14_readAtom 213 = .ok (.iload_n 2, 1) := by decide +kernel
theorem dX14_readAtom_214 : decode cX14_readAtom 214 = .ok (.ifCond .ne 7, 3) := by decide +kernel
theorem dX14_readAtom_217 : decode cX14_readAtom 217 = .ok (.iconst 1, 1) := by decide +kernel
theorem dX14_readAtom_218 : decode cX14_readAtom 218 = .ok (.goto 4, 3) := by decide +kernel
theorem dX14_readAtom_221 : decode cX14_readAtom 221 = .ok (.iconst 0, 1) := by decide +kernel
theorem dX14_readAtom_222 : decode cX14_readAtom 222 = .ok (.invokevirtual 182, 3) := by decide +kernel
theorem dX14_readAtom_225 : decode cX14_readAtom 225 = .ok (.iastore, 1) := by decide +kernel
theorem dX14_readAtom_226 : decode cX14_readAtom 226 = .ok (.iconst 1, 1) := by decide +kernel
theorem dX14_readAtom_227 : decode cX14_readAtom 227 = .ok (.istore 6, 2) := by decide +kernel
theorem dX14_readAtom_229 : decode cX14_readAtom 229 = .ok (.aload_n 0, 1) := by decide +kernel
theorem dX14_readAtom_230 : decode cX14_readAtom 230 = .ok (.bipush 44, 2) := by decide +kernel
theorem dX14_readAtom_232 : decode cX14_readAtom 232 = .ok (.invokevirtual 179, 3) := by decide +kernel
theorem dX14_readAtom_235 : decode cX14_readAtom 235 = .ok (.ifCond .eq 36, 3) := by decide +kernel
theorem dX14_readAtom_238 : decode cX14_readAtom 238 = .ok (.aload_n 0, 1) := by decide +kernel
theorem dX14_readAtom_239 : decode cX14_readAtom 239 = .ok (.invokevirtual 143, 3) := by decide +kernel
theorem dX14_readAtom_242 : decode cX14_readAtom 242 = .ok (.aload_n 0, 1) := by decide +kernel
theorem dX14_readAtom_243 : decode cX14_readAtom 243 = .ok (.getfield 146, 3) := by decide +kernel
theorem dX14_readAtom_246 : decode cX14_readAtom 246 = .ok (.getfield 176, 3) := by decide +kernel
theorem dX14_readAtom_249 : decode cX14_readAtom 249 = .ok (.iload_n 1, 1) := by decide +kernel
theorem dX14_readAtom_250 : decode cX14_readAtom 250 = .ok (.aload_n 0, 1) := by decide +kernel
theorem dX14_readAtom_251 : decode cX14_readAtom 251 = .ok (.iload_n 1, 1) := by decide +kernel
theorem dX14_readAtom_252 : decode cX14_readAtom 252 = .ok (.ifCond .le 11, 3) := by decide +kernel
theorem dX14_readAtom_255 : decode cX14_readAtom 255 = .ok (.iload_n 2, 1) := by decide +kernel
theorem dX14_readAtom_256 : decode cX14_readAtom 256 = .ok (.ifCond .ne 7, 3) := by decide +kernel
theorem dX14_readAtom_259 : decode cX14_readAtom 259 = .ok (.iconst 1, 1) := by decide +kernel
theorem dX14_readAtom_260 : decode cX14_readAtom 260 = .ok (.goto 4, 3) := by decide +kernel
theorem dX14_readAtom_263 : decode cX14_readAtom 263 = .ok (.iconst 0, 1) := by decide +kernel
theorem dX14_readAtom_264 : decode cX14_readAtom 264 = .ok (.invokevirtual 182, 3) := by decide +kernel
theorem dX14_readAtom_267 : decode cX14_readAtom 267 = .ok (.iastore, 1) := by decide +kernel
theorem dX14_readAtom_268 : decode cX14_readAtom 268 = .ok (.iconst 2, 1) := by decide +kernel
theorem dX14_readAtom_269 : decode cX14_readAtom 269 = .ok (.istore 6, 2) := by decide +kernel
theorem dX14_readAtom_271 : decode cX14_readAtom 271 = .ok (.aload_n 0, 1) := by decide +kernel
theorem dX14_readAtom_272 : decode cX14_readAtom 272 = .ok (.bipush 41, 2) := by decide +kernel
theorem dX14_readAtom_274 : decode cX14_readAtom 274 = .ok (.invokevirtual 179, 3) := by decide +kernel
theorem dX14_readAtom_277 : decode cX14_readAtom 277 = .ok (.ifCond .ne 13, 3) := by decide +kernel
theorem dX14_readAtom_280 : decode cX14_readAtom 280 = .ok (.aload_n 0, 1) := by decide +kernel
theorem dX14_readAtom_281 : decode cX14_readAtom 281 = .ok (.iconst 1, 1) := by decide +kernel
theorem dX14_readAtom_282 : decode cX14_readAtom 282 = .ok (.aload_n 0, 1) := by decide +kernel
theorem dX14_readAtom_283 : decode cX14_readAtom 283 = .ok (.getfield 114, 3) := by decide +kernel
theorem dX14_readAtom_286 : decode cX14_readAtom 286 = .ok (.invokevirtual 136, 3) := by decide +kernel
theorem dX14_readAtom_289 : decode cX14_readAtom 289 = .ok (.athrow, 1) := by decide +kernel
theorem dX14_readAtom_290 : decode cX14_readAtom 290 = .ok (.aload_n 0, 1) := by decide +kernel
theorem dX14_readAtom_291 : decode cX14_readAtom 291 = .ok (.invokevirtual 143, 3) := by decide +kernel
theorem dX14_readAtom_294 : decode cX14_readAtom 294 = .ok (.iload 5, 2) := by decide +kernel
theorem dX14_readAtom_296 : decode cX14_readAtom 296 = .ok (.ifCond .eq 12, 3) := by decide +kernel
theorem dX14_readAtom_299 : decode cX14_readAtom 299 = .ok (.aload_n 0, 1) := by decide +kernel
theorem dX14_readAtom_300 : decode cX14_readAtom 300 = .ok (.getfield 27, 3) := by decide +kernel
theorem dX14_readAtom_303 : decode cX14_readAtom 303 = .ok (.iload 4, 2) := by decide +kernel
theorem dX14_readAtom_305 : decode cX14_readAtom 305 = .ok (.iload 6, 2) := by decide +kernel
theorem dX14_readAtom_307 : decode cX14_readAtom 307 = .ok (.iastore, 1) := by decide +kernel
theorem dX14_readAtom_308 : decode cX14_readAtom 308 = .ok (.aload_n 0, 1) := by decide +kernel
theorem dX14_readAtom_309 : decode cX14_readAtom 309 = .ok (.getfield 27, 3) := by decide +kernel
theorem dX14_readAtom_312 : decode cX14_readAtom 312 = .ok (.iload 4, 2) := by decide +kernel
theorem dX14_readAtom_314 : decode cX14_readAtom 314 = .ok (.iaload, 1) := by decide +kernel
theorem dX14_readAtom_315 : decode cX14_readAtom 315 = .ok (.iload 6, 2) := by decide +kernel
theorem dX14_readAtom_317 : decode cX14_readAtom 317 = .ok (.if_icmp .eq 10, 3) := by decide +kernel
theorem dX14_readAtom_320 : decode cX14_readAtom 320 = .ok (.aload_n 0, 1) := by decide +kernel
theorem dX14_readAtom_321 : decode cX14_readAtom 321 = .ok (.iconst 2, 1) := by decide +kernel
theorem dX14_readAtom_322 : decode cX14_readAtom 322 = .ok (.iload_n 3, 1) := by decide +kernel
theorem dX14_readAtom_323 : decode cX14_readAtom 323 = .ok (.invokevirtual 136, 3) := by decide +kernel
theorem dX14_readAtom_326 : decode cX14_readAtom 326 = .ok (.athrow, 1) := by decide +kernel
theorem dX14_readAtom_327 : decode cX14_readAtom 327 = .ok (.return_, 1) := by decide +kernel
theorem dX14_readClause_0 : decode cX14_readClause 0 = .ok (.aload_n 0, 1) := by decide +kernel
theorem dX14_readClause_1 : decode cX14_readClause 1 = .ok (.new 40, 3) := by decide +kernel
theorem dX14_readClause_4 : decode cX14_readClause 4 = .ok (.dup, 1) := by decide +kernel
theorem dX14_readClause_5 : decode cX14_readClause 5 = .ok (.invokespecial 186, 3) := by decide +kernel
theorem dX14_readClause_8 : decode cX14_readClause 8 = .ok (.putfield 146, 3) := by decide +kernel
theorem dX14_readClause_11 : decode cX14_readClause 11 = .ok (.aload_n 0, 1) := by decide +kernel
theorem dX14_readClause_12 : decode cX14_readClause 12 = .ok (.getfield 146, 3) := by decide +kernel
theorem dX14_readClause_15 : decode cX14_readClause 15 = .ok (.aload_n 0, 1) := by decide +kernel
theorem dX14_readClause_16 : decode cX14_readClause 16 = .ok (.getfield 114, 3) := by decide +kernel
theorem dX14_readClause_19 : decode cX14_readClause 19 = .ok (.putfield 187, 3) := by decide +kernel
theorem dX14_readClause_22 : decode cX14_readClause 22 = .ok (.aload_n 0, 1) := by decide +kernel
theorem dX14_readClause_23 : decode cX14_readClause 23 = .ok (.iconst 0, 1) := by decide +kernel
theorem dX14_readClause_24 : decode cX14_readClause 24 = .ok (.putfield 162, 3) := by decide +kernel
theorem dX14_readClause_27 : decode cX14_readClause 27 = .ok (.aload_n 0, 1) := by decide +kernel
theorem dX14_readClause_28 : decode cX14_readClause 28 = .ok (.iconst 0, 1) := by decide +kernel
theorem dX14_readClause_29 : decode cX14_readClause 29 = .ok (.putfield 159, 3) := by decide +kernel
theorem dX14_readClause_32 : decode cX14_readClause 32 = .ok (.aload_n 0, 1) := by decide +kernel
theorem dX14_readClause_33 : decode cX14_readClause 33 = .ok (.iconst 0, 1) := by decide +kernel
theorem dX14_readClause_34 : decode cX14_readClause 34 = .ok (.iconst 0, 1) := by decide +kernel
theorem dX14_readClause_35 : decode cX14_readClause 35 = .ok (.invokevirtual 188, 3) := by decide +kernel
theorem dX14_readClause_38 : decode cX14_readClause 38 = .ok (.aload_n 0, 1) := by decide +kernel
theorem dX14_readClause_39 : decode cX14_readClause 39 = .ok (.bipush 46, 2) := by decide +kernel
theorem dX14_readClause_41 : decode cX14_readClause 41 = .ok (.invokevirtual 179, 3) := by decide +kernel
theorem dX14_readClause_44 : decode cX14_readClause 44 = .ok (.ifCond .eq 41, 3) := by decide +kernel
theorem dX14_readClause_47 : decode cX14_readClause 47 = .ok (.aload_n 0, 1) := by decide +kernel
theorem dX14_readClause_48 : decode cX14_readClause 48 = .ok (.getfield 162, 3) := by decide +kernel
theorem dX14_readClause_51 : decode cX14_readClause 51 = .ok (.ifCond .le 15, 3) := by decide +kernel
theorem dX14_readClause_54 : decode cX14_readClause 54 = .ok (.aload_n 0, 1) := by decide +kernel
theorem dX14_readClause_55 : decode cX14_readClause 55 = .ok (.iconst 3, 1) := by decide +kernel
theorem dX14_readClause_56 : decode cX14_readClause 56 = .ok (.aload_n 0, 1) := by decide +kernel
theorem dX14_readClause_57 : decode cX14_readClause 57 = .ok (.getfield 57, 3) := by decide +kernel
theorem dX14_readClause_60 : decode cX14_readClause 60 = .ok (.iconst 0, 1) := by decide +kernel
theorem dX14_readClause_61 : decode cX14_readClause 61 = .ok (.iaload, 1) := by decide +kernel
theorem dX14_readClause_62 : decode cX14_readClause 62 = .ok (.invokevirtual 136, 3) := by decide +kernel
theorem dX14_readClause_65 : decode cX14_readClause 65 = .ok (.athrow, 1) := by decide +kernel
theorem dX14_readClause_66 : decode cX14_readClause 66 = .ok (.aload_n 0, 1) := by decide +kernel
theorem dX14_readClause_67 : decode cX14_readClause 67 = .ok (.getfield 33, 3) := by decide +kernel
theorem dX14_readClause_70 : decode cX14_readClause 70 = .ok (.aload_n 0, 1) := by decide +kernel
theorem dX14_readClause_71 : decode cX14_readClause 71 = .ok (.getfield 146, 3) := by decide +kernel
theorem dX14_readClause_74 : decode cX14_readClause 74 = .ok (.iconst 0, 1) := by decide +kernel
theorem dX14_readClause_75 : decode cX14_readClause 75 = .ok (.invokestatic 192, 3) := by decide +kernel
theorem dX14_readClause_78 : decode cX14_readClause 78 = .ok (.iconst 1, 1) := by decide +kernel
theorem dX14_readClause_79 : decode cX14_readClause 79 = .ok (.bastore, 1) := by decide +kernel
theorem dX14_readClause_80 : decode cX14_readClause 80 = .ok (.aload_n 0, 1) := by decide +kernel
theorem dX14_readClause_81 : decode cX14_readClause 81 = .ok (.invokevirtual 143, 3) := by decide +kernel
theorem dX14_readClause_84 : decode cX14_readClause 84 = .ok (.return_, 1) := by decide +kernel
theorem dX14_readClause_85 : decode cX14_readClause 85 = .ok (.aload_n 0, 1) := by decide +kernel
theorem dX14_readClause_86 : decode cX14_readClause 86 = .ok (.bipush 58, 2) := by decide +kernel
theorem dX14_readClause_88 : decode cX14_readClause 88 = .ok (.invokevirtual 179, 3) := by decide +kernel
theorem dX14_readClause_91 : decode cX14_readClause 91 = .ok (.ifCond .ne 13, 3) := by decide +kernel
theorem dX14_readClause_94 : decode cX14_readClause 94 = .ok (.aload_n 0, 1) := by decide +kernel
theorem dX14_readClause_95 : decode cX14_readClause 95 = .ok (.iconst 1, 1) := by decide +kernel
theorem dX14_readClause_96 : decode cX14_readClause 96 = .ok (.aload_n 0, 1) := by decide +kernel
theorem dX14_readClause_97 : decode cX14_readClause 97 = .ok (.getfield 114, 3) := by decide +kernel
theorem dX14_readClause_100 : decode cX14_readClause 100 = .ok (.invokevirtual 136, 3) := by decide +kernel
theorem dX14_readClause_103 : decode cX14_readClause 103 = .ok (.athrow, 1) := by decide +kernel
theorem dX14_readClause_104 : decode cX14_readClause 104 = .ok (.aload_n 0, 1) := by decide +kernel
theorem dX14_readClause_105 : decode cX14_readClause 105 = .ok (.getfield 93, 3) := by decide +kernel
theorem dX14_readClause_108 : decode cX14_readClause 108 = .ok (.bipush 20, 2) := by decide +kernel
theorem dX14_readClause_110 : decode cX14_readClause 110 = .ok (.if_icmp .ne 13, 3) := by decide +kernel
theorem dX14_readClause_113 : decode cX14_readClause 113 = .ok (.aload_n 0, 1) := by decide +kernel
theorem dX14_readClause_114 : decode cX14_readClause 114 = .ok (.iconst 4, 1) := by decide +kernel
theorem dX14_readClause_115 : decode cX14_readClause 115 = .ok (.aload_n 0, 1) := by decide +kernel
theorem dX14_readClause_116 : decode cX14_readClause 116 = .ok (.getfield 114, 3) := by decide +kernel
theorem dX14_readClause_119 : decode cX14_readClause 119 = .ok (.invokevirtual 136, 3) := by decide +kernel
theorem dX14_readClause_122 : decode cX14_readClause 122 = .ok (.athrow, 1) := by decide +kernel
theorem dX14_readClause_123 : decode cX14_readClause 123 = .ok (.iconst 1, 1) := by decide +kernel
theorem dX14_readClause_124 : decode cX14_readClause 124 = .ok (.istore_n 1, 1) := by decide +kernel
theorem dX14_readClause_125 : decode cX14_readClause 125 = .ok (.iload_n 1, 1) := by decide +kernel
theorem dX14_readClause_126 : decode cX14_readClause 126 = .ok (.ifCond .eq 21, 3) := by decide +kernel
theorem dX14_readClause_129 : decode cX14_readClause 129 = .ok (.aload_n 0, 1) := by decide +kernel
theorem dX14_readClause_130 : decode cX14_readClause 130 = .ok (.invokevirtual 143, 3) := by decide +kernel
theorem dX14_readClause_133 : decode cX14_readClause 133 = .ok (.aload_n 0, 1) := by decide +kernel
theorem dX14_readClause_134 : decode cX14_readClause 134 = .ok (.invokevirtual 196, 3) := by decide +kernel
theorem dX14_readClause_137 : decode cX14_readClause 137 = .ok (.aload_n 0, 1) := by decide +kernel
theorem dX14_readClause_138 : decode cX14_readClause 138 = .ok (.bipush 44, 2) := by decide +kernel
theorem dX14_readClause_140 : decode cX14_readClause 140 = .ok (.invokevirtual 179, 3) := by decide +kernel
theorem dX14_readClause_143 : decode cX14_readClause 143 = .ok (.istore_n 1, 1) := by decide +kernel
theorem dX14_readClause_144 : decode cX14_readClause 144 = .ok (.goto (-19), 3) := by decide +kernel
theorem dX14_readClause_147 : decode cX14_readClause 147 = .ok (.aload_n 0, 1) := by decide +kernel
theorem dX14_readClause_148 : decode cX14_readClause 148 = .ok (.bipush 46, 2) := by decide +kernel
theorem dX14_readClause_150 : decode cX14_readClause 150 = .ok (.invokevirtual 179, 3) := by decide +kernel
theorem dX14_readClause_153 : decode cX14_readClause 153 = .ok (.ifCond .ne 13, 3) := by decide +kernel
theorem dX14_readClause_156 : decode cX14_readClause 156 = .ok (.aload_n 0, 1) := by decide +kernel
theorem dX14_readClause_157 : decode cX14_readClause 157 = .ok (.iconst 1, 1) := by decide +kernel
theorem dX14_readClause_158 : decode cX14_readClause 158 = .ok (.aload_n 0, 1) := by decide +kernel
theorem dX14_readClause_159 : decode cX14_readClause 159 = .ok (.getfield 114, 3) := by decide +kernel
theorem dX14_readClause_162 : decode cX14_readClause 162 = .ok (.invokevirtual 136, 3) := by decide +kernel
theorem dX14_readClause_165 : decode cX14_readClause 165 = .ok (.athrow, 1) := by decide +kernel
theorem dX14_readClause_166 : decode cX14_readClause 166 = .ok (.iconst 0, 1) := by decide +kernel
theorem dX14_readClause_167 : decode cX14_readClause 167 = .ok (.istore_n 2, 1) := by decide +kernel
theorem dX14_readClause_168 : decode cX14_readClause 168 = .ok (.iload_n 2, 1) := by decide +kernel
theorem dX14_readClause_169 : decode cX14_readClause 169 = .ok (.aload_n 0, 1) := by decide +kernel
theorem dX14_readClause_170 : decode cX14_readClause 170 = .ok (.getfield 162, 3) := by decide +kernel
theorem dX14_readClause_173 : decode cX14_readClause 173 = .ok (.if_icmp .ge 37, 3) := by decide +kernel
theorem dX14_readClause_176 : decode cX14_readClause 176 = .ok (.aload_n 0, 1) := by decide +kernel
theorem dX14_readClause_177 : decode cX14_readClause 177 = .ok (.getfield 159, 3) := by decide +kernel
theorem dX14_readClause_180 : decode cX14_readClause 180 = .ok (.aload_n 0, 1) := by decide +kernel
theorem dX14_readClause_181 : decode cX14_readClause 181 = .ok (.getfield 60, 3) := by decide +kernel
theorem dX14_readClause_184 : decode cX14_readClause 184 = .ok (.iload_n 2, 1) := by decide +kernel
theorem dX14_readClause_185 : decode cX14_readClause 185 = .ok (.iaload, 1) := by decide +kernel
theorem dX14_readClause_186 : decode cX14_readClause 186 = .ok (.ishr, 1) := by decide +kernel
theorem dX14_readClause_187 : decode cX14_readClause 187 = .ok (.iconst 1, 1) := by decide +kernel
theorem dX14_readClause_188 : decode cX14_readClause 188 = .ok (.iand, 1) := by decide +kernel
theorem dX14_readClause_189 : decode cX14_readClause 189 = .ok (.ifCond .ne 15, 3) := by decide +kernel
theorem dX14_readClause_192 : decode cX14_readClause 192 = .ok (.aload_n 0, 1) := by decide +kernel
theorem dX14_readClause_193 : decode cX14_readClause 193 = .ok (.iconst 5, 1) := by decide +kernel
theorem dX14_readClause_194 : decode cX14_readClause 194 = .ok (.aload_n 0, 1) := by decide +kernel
theorem dX14_readClause_195 : decode cX14_readClause 195 = .ok (.getfield 57, 3) := by decide +kernel
theorem dX14_readClause_198 : decode cX14_readClause 198 = .ok (.iload_n 2, 1) := by decide +kernel
theorem dX14_readClause_199 : decode cX14_readClause 199 = .ok (.iaload, 1) := by decide +kernel
theorem dX14_readClause_200 : decode cX14_readClause 200 = .ok (.invokevirtual 136, 3) := by decide +kernel
theorem dX14_readClause_203 : decode cX14_readClause 203 = .ok (.athrow, 1) := by decide +kernel
theorem dX14_readClause_204 : decode cX14_readClause 204 = .ok (.iinc 2 1, 3) := by decide +kernel
theorem dX14_readClause_207 : decode cX14_readClause 207 = .ok (.goto (-39), 3) := by decide +kernel
theorem dX14_readClause_210 : decode cX14_readClause 210 = .ok (.aload_n 0, 1) := by decide +kernel
theorem dX14_readClause_211 : decode cX14_readClause 211 = .ok (.getfield 42, 3) := by decide +kernel
theorem dX14_readClause_214 : decode cX14_readClause 214 = .ok (.aload_n 0, 1) := by decide +kernel
theorem dX14_readClause_215 : decode cX14_readClause 215 = .ok (.getfield 93, 3) := by decide +kernel
theorem dX14_readClause_218 : decode cX14_readClause 218 = .ok (.aload_n 0, 1) := by decide +kernel
theorem dX14_readClause_219 : decode cX14_readClause 219 = .ok (.getfield 146, 3) := by decide +kernel
theorem dX14_readClause_222 : decode cX14_readClause 222 = .ok (.aastore, 1) := by decide +kernel
theorem dX14_readClause_223 : decode cX14_readClause 223 = .ok (.aload_n 0, 1) := by decide +kernel
theorem dX14_readClause_224 : decode cX14_readClause 224 = .ok (.dup, 1) := by decide +kernel
theorem dX14_readClause_225 : decode cX14_readClause 225 = .ok (.getfield 93, 3) := by decide +kernel
theorem dX14_readClause_228 : decode cX14_readClause 228 = .ok (.iconst 1, 1) := by decide +kernel
theorem dX14_readClause_229 : decode cX14_readClause 229 = .ok (.iadd, 1) := by decide +kernel
theorem dX14_readClause_230 : decode cX14_readClause 230 = .ok (.putfield 93, 3) := by decide +kernel
theorem dX14_readClause_233 : decode cX14_readClause 233 = .ok (.aload_n 0, 1) := by decide +kernel
theorem dX14_readClause_234 : decode cX14_readClause 234 = .ok (.invokevirtual 143, 3) := by decide +kernel
theorem dX14_readClause_237 : decode cX14_readClause 237 = .ok (.return_, 1) := by decide +kernel
theorem dX14_readTerm_0 : decode cX14_readTerm 0 = .ok (.aload_n 0, 1) := by decide +kernel
theorem dX14_readTerm_1 : decode cX14_readTerm 1 = .ok (.getfield 115, 3) := by decide +kernel
theorem dX14_readTerm_4 : decode cX14_readTerm 4 = .ok (.iconst 2, 1) := by decide +kernel
theorem dX14_readTerm_5 : decode cX14_readTerm 5 = .ok (.if_icmp .eq 21, 3) := by decide +kernel
theorem dX14_readTerm_8 : decode cX14_readTerm 8 = .ok (.aload_n 0, 1) := by decide +kernel
theorem dX14_readTerm_9 : decode cX14_readTerm 9 = .ok (.getfield 115, 3) := by decide +kernel
theorem dX14_readTerm_12 : decode cX14_readTerm 12 = .ok (.iconst 3, 1) := by decide +kernel
theorem dX14_readTerm_13 : decode cX14_readTerm 13 = .ok (.if_icmp .eq 13, 3) := by decide +kernel
theorem dX14_readTerm_16 : decode cX14_readTerm 16 = .ok (.aload_n 0, 1) := by decide +kernel
theorem dX14_readTerm_17 : decode cX14_readTerm 17 = .ok (.iconst 1, 1) := by decide +kernel
theorem dX14_readTerm_18 : decode cX14_readTerm 18 = .ok (.aload_n 0, 1) := by decide +kernel
theorem dX14_readTerm_19 : decode cX14_readTerm 19 = .ok (.getfield 114, 3) := by decide +kernel
theorem dX14_readTerm_22 : decode cX14_readTerm 22 = .ok (.invokevirtual 136, 3) := by decide +kernel
theorem dX14_readTerm_25 : decode cX14_readTerm 25 = .ok (.athrow, 1) := by decide +kernel
theorem dX14_readTerm_26 : decode cX14_readTerm 26 = .ok (.aload_n 0, 1) := by decide +kernel
theorem dX14_readTerm_27 : decode cX14_readTerm 27 = .ok (.getfield 146, 3) := by decide +kernel
theorem dX14_readTerm_30 : decode cX14_readTerm 30 = .ok (.getfield 199, 3) := by decide +kernel
theorem dX14_readTerm_33 : decode cX14_readTerm 33 = .ok (.iconst 4, 1) := by decide +kernel
theorem dX14_readTerm_34 : decode cX14_readTerm 34 = .ok (.if_icmp .ne 13, 3) := by decide +kernel
theorem dX14_readTerm_37 : decode cX14_readTerm 37 = .ok (.aload_n 0, 1) := by decide +kernel
theorem dX14_readTerm_38 : decode cX14_readTerm 38 = .ok (.iconst 4, 1) := by decide +kernel
theorem dX14_readTerm_39 : decode cX14_readTerm 39 = .ok (.aload_n 0, 1) := by decide +kernel
theorem dX14_readTerm_40 : decode cX14_readTerm 40 = .ok (.getfield 114, 3) := by decide +kernel
theorem dX14_readTerm_43 : decode cX14_readTerm 43 = .ok (.invokevirtual 136, 3) := by decide +kernel
theorem dX14_readTerm_46 : decode cX14_readTerm 46 = .ok (.athrow, 1) := by decide +kernel
theorem dX14_readTerm_47 : decode cX14_readTerm 47 = .ok (.aload_n 0, 1) := by decide +kernel
theorem dX14_readTerm_48 : decode cX14_readTerm 48 = .ok (.getfield 146, 3) := by decide +kernel
theorem dX14_readTerm_51 : decode cX14_readTerm 51 = .ok (.getfield 199, 3) := by decide +kernel
theorem dX14_readTerm_54 : decode cX14_readTerm 54 = .ok (.iconst 1, 1) := by decide +kernel
theorem dX14_readTerm_55 : decode cX14_readTerm 55 = .ok (.iadd, 1) := by decide +kernel
theorem dX14_readTerm_56 : decode cX14_readTerm 56 = .ok (.istore_n 1, 1) := by decide +kernel
theorem dX14_readTerm_57 : decode cX14_readTerm 57 = .ok (.aload_n 0, 1) := by decide +kernel
theorem dX14_readTerm_58 : decode cX14_readTerm 58 = .ok (.getfield 115, 3) := by decide +kernel
theorem dX14_readTerm_61 : decode cX14_readTerm 61 = .ok (.iconst 3, 1) := by decide +kernel
theorem dX14_readTerm_62 : decode cX14_readTerm 62 = .ok (.if_icmp .eq 10, 3) := by decide +kernel
theorem dX14_readTerm_65 : decode cX14_readTerm 65 = .ok (.aload_n 0, 1) := by decide +kernel
theorem dX14_readTerm_66 : decode cX14_readTerm 66 = .ok (.invokevirtual 202, 3) := by decide +kernel
theorem dX14_readTerm_69 : decode cX14_readTerm 69 = .ok (.ifCond .eq 77, 3) := by decide +kernel
theorem dX14_readTerm_72 : decode cX14_readTerm 72 = .ok (.aload_n 0, 1) := by decide +kernel
theorem dX14_readTerm_73 : decode cX14_readTerm 73 = .ok (.getfield 146, 3) := by decide +kernel
theorem dX14_readTerm_76 : decode cX14_readTerm 76 = .ok (.getfield 169, 3) := by decide +kernel
theorem dX14_readTerm_79 : decode cX14_readTerm 79 = .ok (.iload_n 1, 1) := by decide +kernel
theorem dX14_readTerm_80 : decode cX14_readTerm 80 = .ok (.iconst 2, 1) := by decide +kernel
theorem dX14_readTerm_81 : decode cX14_readTerm 81 = .ok (.iastore, 1) := by decide +kernel
theorem dX14_readTerm_82 : decode cX14_readTerm 82 = .ok (.aload_n 0, 1) := by decide +kernel
theorem dX14_readTerm_83 : decode cX14_readTerm 83 = .ok (.getfield 146, 3) := by decide +kernel
theorem dX14_readTerm_86 : decode cX14_readTerm 86 = .ok (.getfield 171, 3) := by decide +kernel
theorem dX14_readTerm_89 : decode cX14_readTerm 89 = .ok (.iload_n 1, 1) := by decide +kernel
theorem dX14_readTerm_90 : decode cX14_readTerm 90 = .ok (.iconst (-1), 1) := by decide +kernel
theorem dX14_readTerm_91 : decode cX14_readTerm 91 = .ok (.iastore, 1) := by decide +kernel
theorem dX14_readTerm_92 : decode cX14_readTerm 92 = .ok (.aload_n 0, 1) := by decide +kernel
theorem dX14_readTerm_93 : decode cX14_readTerm 93 = .ok (.getfield 146, 3) := by decide +kernel
theorem dX14_readTerm_96 : decode cX14_readTerm 96 = .ok (.getfield 173, 3) := by decide +kernel
theorem dX14_readTerm_99 : decode cX14_readTerm 99 = .ok (.iload_n 1, 1) := by decide +kernel
theorem dX14_readTerm_100 : decode cX14_readTerm 100 = .ok (.aload_n 0, 1) := by decide +kernel
theorem dX14_readTerm_101 : decode cX14_readTerm 101 = .ok (.iconst 0, 1) := by decide +kernel
theorem dX14_readTerm_102 : decode cX14_readTerm 102 = .ok (.invokevirtual 182, 3) := by decide +kernel
theorem dX14_readTerm_105 : decode cX14_readTerm 105 = .ok (.iastore, 1) := by decide +kernel
theorem dX14_readTerm_106 : decode cX14_readTerm 106 = .ok (.aload_n 0, 1) := by decide +kernel
theorem dX14_readTerm_107 : decode cX14_readTerm 107 = .ok (.bipush 35, 2) := by decide +kernel
theorem dX14_readTerm_109 : decode cX14_readTerm 109 = .ok (.invokevirtual 179, 3) := by decide +kernel
theorem dX14_readTerm_112 : decode cX14_readTerm 112 = .ok (.ifCond .ne 13, 3) := by decide +kernel
theorem dX14_readTerm_115 : decode cX14_readTerm 115 = .ok (.aload_n 0, 1) := by decide +kernel
theorem dX14_readTerm_116 : decode cX14_readTerm 116 = .ok (.iconst 1, 1) := by decide +kernel
theorem dX14_readTerm_117 : decode cX14_readTerm 117 = .ok (.aload_n 0, 1) := by decide +kernel
theorem dX14_readTerm_118 : decode cX14_readTerm 118 = .ok (.getfield 114, 3) := by decide +kernel
theorem dX14_readTerm_121 : decode cX14_readTerm 121 = .ok (.invokevirtual 136, 3) := by decide +kernel
theorem dX14_readTerm_124 : decode cX14_readTerm 124 = .ok (.athrow, 1) := by decide +kernel
theorem dX14_readTerm_125 : decode cX14_readTerm 125 = .ok (.aload_n 0, 1) := by decide +kernel
theorem dX14_readTerm_126 : decode cX14_readTerm 126 = .ok (.invokevirtual 143, 3) := by decide +kernel
theorem dX14_readTerm_129 : decode cX14_readTerm 129 = .ok (.aload_n 0, 1) := by decide +kernel
theorem dX14_readTerm_130 : decode cX14_readTerm 130 = .ok (.getfield 146, 3) := by decide +kernel
theorem dX14_readTerm_133 : decode cX14_readTerm 133 = .ok (.getfield 176, 3) := by decide +kernel
theorem dX14_readTerm_136 : decode cX14_readTerm 136 = .ok (.iload_n 1, 1) := by decide +kernel
theorem dX14_readTerm_137 : decode cX14_readTerm 137 = .ok (.aload_n 0, 1) := by decide +kernel
theorem dX14_readTerm_138 : decode cX14_readTerm 138 = .ok (.iconst 0, 1) := by decide +kernel
theorem dX14_readTerm_139 : decode cX14_readTerm 139 = .ok (.invokevirtual 182, 3) := by decide +kernel
theorem dX14_readTerm_142 : decode cX14_readTerm 142 = .ok (.iastore, 1) := by decide +kernel
theorem dX14_readTerm_143 : decode cX14_readTerm 143 = .ok (.goto 29, 3) := by decide +kernel
theorem dX14_readTerm_146 : decode cX14_readTerm 146 = .ok (.aload_n 0, 1) := by decide +kernel
theorem dX14_readTerm_147 : decode cX14_readTerm 147 = .ok (.invokevirtual 165, 3) := by decide +kernel
theorem dX14_readTerm_150 : decode cX14_readTerm 150 = .ok (.ifCond .eq 16, 3) := by decide +kernel
theorem dX14_readTerm_153 : decode cX14_readTerm 153 = .ok (.aload_n 0, 1) := by decide +kernel
theorem dX14_readTerm_154 : decode cX14_readTerm 154 = .ok (.invokevirtual 143, 3) := by decide +kernel
theorem dX14_readTerm_157 : decode cX14_readTerm 157 = .ok (.aload_n 0, 1) := by decide +kernel
theorem dX14_readTerm_158 : decode cX14_readTerm 158 = .ok (.iload_n 1, 1) := by decide +kernel
theorem dX14_readTerm_159 : decode cX14_readTerm 159 = .ok (.iconst 1, 1) := by decide +kernel
theorem dX14_readTerm_160 : decode cX14_readTerm 160 = .ok (.invokevirtual 188, 3) := by decide +kernel
theorem dX14_readTerm_163 : decode cX14_readTerm 163 = .ok (.goto 9, 3) := by decide +kernel
theorem dX14_readTerm_166 : decode cX14_readTerm 166 = .ok (.aload_n 0, 1) := by decide +kernel
theorem dX14_readTerm_167 : decode cX14_readTerm 167 = .ok (.iload_n 1, 1) := by decide +kernel
theorem dX14_readTerm_168 : decode cX14_readTerm 168 = .ok (.iconst 0, 1) := by decide +kernel
theorem dX14_readTerm_169 : decode cX14_readTerm 169 = .ok (.invokevirtual 188, 3) := by decide +kernel
theorem dX14_readTerm_172 : decode cX14_readTerm 172 = .ok (.aload_n 0, 1) := by decide +kernel
theorem dX14_readTerm_173 : decode cX14_readTerm 173 = .ok (.getfield 146, 3) := by decide +kernel
theorem dX14_readTerm_176 : decode cX14_readTerm 176 = .ok (.dup, 1) := by decide +kernel
theorem dX14_readTerm_177 : decode cX14_readTerm 177 = .ok (.getfield 199, 3) := by decide +kernel
theorem dX14_readTerm_180 : decode cX14_readTerm 180 = .ok (.iconst 1, 1) := by decide +kernel
theorem dX14_readTerm_181 : decode cX14_readTerm 181 = .ok (.iadd, 1) := by decide +kernel
theorem dX14_readTerm_182 : decode cX14_readTerm 182 = .ok (.putfield 199, 3) := by decide +kernel
theorem dX14_readTerm_185 : decode cX14_readTerm 185 = .ok (.return_, 1) := by decide +kernel
theorem dX14_numberOf_0 : decode cX14_numberOf 0 = .ok (.bipush 100, 2) := by decide +kernel
theorem dX14_numberOf_2 : decode cX14_numberOf 2 = .ok (.aload_n 0, 1) := by decide +kernel
theorem dX14_numberOf_3 : decode cX14_numberOf 3 = .ok (.getfield 171, 3) := by decide +kernel
theorem dX14_numberOf_6 : decode cX14_numberOf 6 = .ok (.iload_n 1, 1) := by decide +kernel
theorem dX14_numberOf_7 : decode cX14_numberOf 7 = .ok (.iaload, 1) := by decide +kernel
theorem dX14_numberOf_8 : decode cX14_numberOf 8 = .ok (.imul, 1) := by decide +kernel
theorem dX14_numberOf_9 : decode cX14_numberOf 9 = .ok (.bipush 10, 2) := by decide +kernel
theorem dX14_numberOf_11 : decode cX14_numberOf 11 = .ok (.iconst 0, 1) := by decide +kernel
theorem dX14_numberOf_12 : decode cX14_numberOf 12 = .ok (.aload_n 0, 1) := by decide +kernel
theorem dX14_numberOf_13 : decode cX14_numberOf 13 = .ok (.getfield 173, 3) := by decide +kernel
theorem dX14_numberOf_16 : decode cX14_numberOf 16 = .ok (.iload_n 1, 1) := by decide +kernel
theorem dX14_numberOf_17 : decode cX14_numberOf 17 = .ok (.iaload, 1) := by decide +kernel
theorem dX14_numberOf_18 : decode cX14_numberOf 18 = .ok (.invokestatic 205, 3) := by decide +kernel
theorem dX14_numberOf_21 : decode cX14_numberOf 21 = .ok (.imul, 1) := by decide +kernel
theorem dX14_numberOf_22 : decode cX14_numberOf 22 = .ok (.iadd, 1) := by decide +kernel
theorem dX14_numberOf_23 : decode cX14_numberOf 23 = .ok (.iconst 0, 1) := by decide +kernel
theorem dX14_numberOf_24 : decode cX14_numberOf 24 = .ok (.aload_n 0, 1) := by decide +kernel
theorem dX14_numberOf_25 : decode cX14_numberOf 25 = .ok (.getfield 176, 3) := by decide +kernel
theorem dX14_numberOf_28 : decode cX14_numberOf 28 = .ok (.iload_n 1, 1) := by decide +kernel
theorem dX14_numberOf_29 : decode cX14_numberOf 29 = .ok (.iaload, 1) := by decide +kernel
theorem dX14_numberOf_30 : decode cX14_numberOf 30 = .ok (.invokestatic 205, 3) := by decide +kernel
theorem dX14_numberOf_33 : decode cX14_numberOf 33 = .ok (.iadd, 1) := by decide +kernel
theorem dX14_numberOf_34 : decode cX14_numberOf 34 = .ok (.ireturn, 1) := by decide +kernel
theorem dX14_feed_0 : decode cX14_feed 0 = .ok (.aload_n 0, 1) := by decide +kernel
theorem dX14_feed_1 : decode cX14_feed 1 = .ok (.iconst 0, 1) := by decide +kernel
theorem dX14_feed_2 : decode cX14_feed 2 = .ok (.putfield 84, 3) := by decide +kernel
theorem dX14_feed_5 : decode cX14_feed 5 = .ok (.aload_n 0, 1) := by decide +kernel
theorem dX14_feed_6 : decode cX14_feed 6 = .ok (.getfield 211, 3) := by decide +kernel
theorem dX14_feed_9 : decode cX14_feed 9 = .ok (.bipush 20, 2) := by decide +kernel
theorem dX14_feed_11 : decode cX14_feed 11 = .ok (.iadd, 1) := by decide +kernel
theorem dX14_feed_12 : decode cX14_feed 12 = .ok (.sipush 400, 3) := by decide +kernel
theorem dX14_feed_15 : decode cX14_feed 15 = .ok (.if_icmp .le 5, 3) := by decide +kernel
theorem dX14_feed_18 : decode cX14_feed 18 = .ok (.iconst (-1), 1) := by decide +kernel
theorem dX14_feed_19 : decode cX14_feed 19 = .ok (.ireturn, 1) := by decide +kernel
theorem dX14_feed_20 : decode cX14_feed 20 = .ok (.iconst 0, 1) := by decide +kernel
theorem dX14_feed_21 : decode cX14_feed 21 = .ok (.istore 6, 2) := by decide +kernel
theorem dX14_feed_23 : decode cX14_feed 23 = .ok (.iload 6, 2) := by decide +kernel
theorem dX14_feed_25 : decode cX14_feed 25 = .ok (.bipush 20, 2) := by decide +kernel
theorem dX14_feed_27 : decode cX14_feed 27 = .ok (.if_icmp .ge 90, 3) := by decide +kernel
theorem dX14_feed_30 : decode cX14_feed 30 = .ok (.iload 6, 2) := by decide +kernel
theorem dX14_feed_32 : decode cX14_feed 32 = .ok (.iconst 4, 1) := by decide +kernel
theorem dX14_feed_33 : decode cX14_feed 33 = .ok (.if_icmp .ge 7, 3) := by decide +kernel
theorem dX14_feed_36 : decode cX14_feed 36 = .ok (.iload_n 1, 1) := by decide +kernel
theorem dX14_feed_37 : decode cX14_feed 37 = .ok (.goto 39, 3) := by decide +kernel
theorem dX14_feed_40 : decode cX14_feed 40 = .ok (.iload 6, 2) := by decide +kernel
theorem dX14_feed_42 : decode cX14_feed 42 = .ok (.bipush 8, 2) := by decide +kernel
theorem dX14_feed_44 : decode cX14_feed 44 = .ok (.if_icmp .ge 7, 3) := by decide +kernel
theorem dX14_feed_47 : decode cX14_feed 47 = .ok (.iload_n 2, 1) := by decide +kernel
theorem dX14_feed_48 : decode cX14_feed 48 = .ok (.goto 28, 3) := by decide +kernel
theorem dX14_feed_51 : decode cX14_feed 51 = .ok (.iload 6, 2) := by decide +kernel
theorem dX14_feed_53 : decode cX14_feed 53 = .ok (.bipush 12, 2) := by decide +kernel
theorem dX14_feed_55 : decode cX14_feed 55 = .ok (.if_icmp .ge 7, 3) := by decide +kernel
theorem dX14_feed_58 : decode cX14_feed 58 = .ok (.iload_n 3, 1) := by decide +kernel
theorem dX14_feed_59 : decode cX14_feed 59 = .ok (.goto 17, 3) := by decide +kernel
theorem dX14_feed_62 : decode cX14_feed 62 = .ok (.iload 6, 2) := by decide +kernel
theorem dX14_feed_64 : decode cX14_feed 64 = .ok (.bipush 16, 2) := by decide +kernel
theorem dX14_feed_66 : decode cX14_feed 66 = .ok (.if_icmp .ge 8, 3) := by decide +kernel
theorem dX14_feed_69 : decode cX14_feed 69 = .ok (.iload 4, 2) := by decide +kernel
theorem dX14_feed_71 : decode cX14_feed 71 = .ok (.goto 5, 3) := by decide +kernel
theorem dX14_feed_74 : decode cX14_feed 74 = .ok (.iload 5, 2) := by decide +kernel
theorem dX14_feed_76 : decode cX14_feed 76 = .ok (.istore 7, 2) := by decide +kernel
theorem dX14_feed_78 : decode cX14_feed 78 = .ok (.aload_n 0, 1) := by decide +kernel
theorem dX14_feed_79 : decode cX14_feed 79 = .ok (.getfield 53, 3) := by decide +kernel
theorem dX14_feed_82 : decode cX14_feed 82 = .ok (.aload_n 0, 1) := by decide +kernel
theorem dX14_feed_83 : decode cX14_feed 83 = .ok (.getfield 211, 3) := by decide +kernel
theorem dX14_feed_86 : decode cX14_feed 86 = .ok (.iload 7, 2) := by decide +kernel
theorem dX14_feed_88 : decode cX14_feed 88 = .ok (.bipush 24, 2) := by decide +kernel
theorem dX14_feed_90 : decode cX14_feed 90 = .ok (.bipush 8, 2) := by decide +kernel
theorem dX14_feed_92 : decode cX14_feed 92 = .ok (.iload 6, 2) := by decide +kernel
theorem dX14_feed_94 : decode cX14_feed 94 = .ok (.iconst 4, 1) := by decide +kernel
theorem dX14_feed_95 : decode cX14_feed 95 = .ok (.irem, 1) := by decide +kernel
theorem dX14_feed_96 : decode cX14_feed 96 = .ok (.imul, 1) := by decide +kernel
theorem dX14_feed_97 : decode cX14_feed 97 = .ok (.isub, 1) := by decide +kernel
theorem dX14_feed_98 : decode cX14_feed 98 = .ok (.ishr, 1) := by decide +kernel
theorem dX14_feed_99 : decode cX14_feed 99 = .ok (.i2b, 1) := by decide +kernel
theorem dX14_feed_100 : decode cX14_feed 100 = .ok (.bastore, 1) := by decide +kernel
theorem dX14_feed_101 : decode cX14_feed 101 = .ok (.aload_n 0, 1) := by decide +kernel
theorem dX14_feed_102 : decode cX14_feed 102 = .ok (.dup, 1) := by decide +kernel
theorem dX14_feed_103 : decode cX14_feed 103 = .ok (.getfield 211, 3) := by decide +kernel
theorem dX14_feed_106 : decode cX14_feed 106 = .ok (.iconst 1, 1) := by decide +kernel
theorem dX14_feed_107 : decode cX14_feed 107 = .ok (.iadd, 1) := by decide +kernel
theorem dX14_feed_108 : decode cX14_feed 108 = .ok (.putfield 211, 3) := by decide +kernel
theorem dX14_feed_111 : decode cX14_feed 111 = .ok (.iinc 6 1, 3) := by decide +kernel
theorem dX14_feed_114 : decode cX14_feed 114 = .ok (.goto (-91), 3) := by decide +kernel
theorem dX14_feed_117 : decode cX14_feed 117 = .ok (.aload_n 0, 1) := by decide +kernel
theorem dX14_feed_118 : decode cX14_feed 118 = .ok (.getfield 211, 3) := by decide +kernel
theorem dX14_feed_121 : decode cX14_feed 121 = .ok (.ireturn, 1) := by decide +kernel
theorem dX14_tell_0 : decode cX14_tell 0 = .ok (.aload_n 0, 1) := by decide +kernel
theorem dX14_tell_1 : decode cX14_tell 1 = .ok (.iconst 0, 1) := by decide +kernel
theorem dX14_tell_2 : decode cX14_tell 2 = .ok (.putfield 84, 3) := by decide +kernel
theorem dX14_tell_5 : decode cX14_tell 5 = .ok (.iload_n 1, 1) := by decide +kernel
theorem dX14_tell_6 : decode cX14_tell 6 = .ok (.ifCond .lt 11, 3) := by decide +kernel
theorem dX14_tell_9 : decode cX14_tell 9 = .ok (.iload_n 1, 1) := by decide +kernel
theorem dX14_tell_10 : decode cX14_tell 10 = .ok (.aload_n 0, 1) := by decide +kernel
theorem dX14_tell_11 : decode cX14_tell 11 = .ok (.getfield 211, 3) := by decide +kernel
theorem dX14_tell_14 : decode cX14_tell 14 = .ok (.if_icmp .le 9, 3) := by decide +kernel
theorem dX14_tell_17 : decode cX14_tell 17 = .ok (.aload_n 0, 1) := by decide +kernel
theorem dX14_tell_18 : decode cX14_tell 18 = .ok (.iconst 2, 1) := by decide +kernel
theorem dX14_tell_19 : decode cX14_tell 19 = .ok (.invokevirtual 214, 3) := by decide +kernel
theorem dX14_tell_22 : decode cX14_tell 22 = .ok (.ireturn, 1) := by decide +kernel
theorem dX14_tell_23 : decode cX14_tell 23 = .ok (.aload_n 0, 1) := by decide +kernel
theorem dX14_tell_24 : decode cX14_tell 24 = .ok (.iload_n 1, 1) := by decide +kernel
theorem dX14_tell_25 : decode cX14_tell 25 = .ok (.putfield 104, 3) := by decide +kernel
theorem dX14_tell_28 : decode cX14_tell 28 = .ok (.aload_n 0, 1) := by decide +kernel
theorem dX14_tell_29 : decode cX14_tell 29 = .ok (.iconst 0, 1) := by decide +kernel
theorem dX14_tell_30 : decode cX14_tell 30 = .ok (.putfield 211, 3) := by decide +kernel
theorem dX14_tell_33 : decode cX14_tell 33 = .ok (.aload_n 0, 1) := by decide +kernel
theorem dX14_tell_34 : decode cX14_tell 34 = .ok (.iconst 0, 1) := by decide +kernel
theorem dX14_tell_35 : decode cX14_tell 35 = .ok (.putfield 107, 3) := by decide +kernel
theorem dX14_tell_38 : decode cX14_tell 38 = .ok (.aload_n 0, 1) := by decide +kernel
theorem dX14_tell_39 : decode cX14_tell 39 = .ok (.iconst 0, 1) := by decide +kernel
theorem dX14_tell_40 : decode cX14_tell 40 = .ok (.putfield 217, 3) := by decide +kernel
theorem dX14_tell_43 : decode cX14_tell 43 = .ok (.aload_n 0, 1) := by decide +kernel
theorem dX14_tell_44 : decode cX14_tell 44 = .ok (.getfield 96, 3) := by decide +kernel
theorem dX14_tell_47 : decode cX14_tell 47 = .ok (.istore_n 2, 1) := by decide +kernel
theorem dX14_tell_48 : decode cX14_tell 48 = .ok (.aload_n 0, 1) := by decide +kernel
theorem dX14_tell_49 : decode cX14_tell 49 = .ok (.getfield 90, 3) := by decide +kernel
theorem dX14_tell_52 : decode cX14_tell 52 = .ok (.istore_n 3, 1) := by decide +kernel
theorem dX14_tell_53 : decode cX14_tell 53 = .ok (.aload_n 0, 1) := by decide +kernel
theorem dX14_tell_54 : decode cX14_tell 54 = .ok (.getfield 93, 3) := by decide +kernel
theorem dX14_tell_57 : decode cX14_tell 57 = .ok (.istore 4, 2) := by decide +kernel
theorem dX14_tell_59 : decode cX14_tell 59 = .ok (.iconst 0, 1) := by decide +kernel
theorem dX14_tell_60 : decode cX14_tell 60 = .ok (.istore 5, 2) := by decide +kernel
theorem dX14_tell_62 : decode cX14_tell 62 = .ok (.iload 5, 2) := by decide +kernel
theorem dX14_tell_64 : decode cX14_tell 64 = .ok (.sipush 1000, 3) := by decide +kernel
theorem dX14_tell_67 : decode cX14_tell 67 = .ok (.if_icmp .ge 23, 3) := by decide +kernel
theorem dX14_tell_70 : decode cX14_tell 70 = .ok (.aload_n 0, 1) := by decide +kernel
theorem dX14_tell_71 : decode cX14_tell 71 = .ok (.getfield 37, 3) := by decide +kernel
theorem dX14_tell_74 : decode cX14_tell 74 = .ok (.iload 5, 2) := by decide +kernel
theorem dX14_tell_76 : decode cX14_tell 76 = .ok (.aload_n 0, 1) := by decide +kernel
theorem dX14_tell_77 : decode cX14_tell 77 = .ok (.getfield 33, 3) := by decide +kernel
theorem dX14_tell_80 : decode cX14_tell 80 = .ok (.iload 5, 2) := by decide +kernel
theorem dX14_tell_82 : decode cX14_tell 82 = .ok (.baload, 1) := by decide +kernel
theorem dX14_tell_83 : decode cX14_tell 83 = .ok (.bastore, 1) := by decide +kernel
theorem dX14_tell_84 : decode cX14_tell 84 = .ok (.iinc 5 1, 3) := by decide +kernel
theorem dX14_tell_87 : decode cX14_tell 87 = .ok (.goto (-25), 3) := by decide +kernel
theorem dX14_tell_90 : decode cX14_tell 90 = .ok (.aload_n 0, 1) := by decide +kernel
theorem dX14_tell_91 : decode cX14_tell 91 = .ok (.iconst 0, 1) := by decide +kernel
theorem dX14_tell_92 : decode cX14_tell 92 = .ok (.putfield 220, 3) := by decide +kernel
theorem dX14_tell_95 : decode cX14_tell 95 = .ok (.aload_n 0, 1) := by decide +kernel
theorem dX14_tell_96 : decode cX14_tell 96 = .ok (.invokevirtual 143, 3) := by decide +kernel
theorem dX14_tell_99 : decode cX14_tell 99 = .ok (.iconst 1, 1) := by decide +kernel
theorem dX14_tell_100 : decode cX14_tell 100 = .ok (.istore 5, 2) := by decide +kernel
theorem dX14_tell_102 : decode cX14_tell 102 = .ok (.iload 5, 2) := by decide +kernel
theorem dX14_tell_104 : decode cX14_tell 104 = .ok (.ifCond .eq 35, 3) := by decide +kernel
theorem dX14_tell_107 : decode cX14_tell 107 = .ok (.aload_n 0, 1) := by decide +kernel
theorem dX14_tell_108 : decode cX14_tell 108 = .ok (.invokevirtual 223, 3) := by decide +kernel
theorem dX14_tell_111 : decode cX14_tell 111 = .ok (.aload_n 0, 1) := by decide +kernel
theorem dX14_tell_112 : decode cX14_tell 112 = .ok (.dup, 1) := by decide +kernel
theorem dX14_tell_113 : decode cX14_tell 113 = .ok (.getfield 220, 3) := by decide +kernel
theorem dX14_tell_116 : decode cX14_tell 116 = .ok (.iconst 1, 1) := by decide +kernel
theorem dX14_tell_117 : decode cX14_tell 117 = .ok (.iadd, 1) := by decide +kernel
theorem dX14_tell_118 : decode cX14_tell 118 = .ok (.putfield 220, 3) := by decide +kernel
theorem dX14_tell_121 : decode cX14_tell 121 = .ok (.aload_n 0, 1) := by decide +kernel
theorem dX14_tell_122 : decode cX14_tell 122 = .ok (.getfield 115, 3) := by decide +kernel
theorem dX14_tell_125 : decode cX14_tell 125 = .ok (.iconst 1, 1) := by decide +kernel
theorem dX14_tell_126 : decode cX14_tell 126 = .ok (.if_icmp .eq 7, 3) := by decide +kernel
theorem dX14_tell_129 : decode cX14_tell 129 = .ok (.iconst 1, 1) := by decide +kernel
theorem dX14_tell_130 : decode cX14_tell 130 = .ok (.goto 4, 3) := by decide +kernel
theorem dX14_tell_133 : decode cX14_tell 133 = .ok (.iconst 0, 1) := by decide +kernel
theorem dX14_tell_134 : decode cX14_tell 134 = .ok (.istore 5, 2) := by decide +kernel
theorem dX14_tell_136 : decode cX14_tell 136 = .ok (.goto (-34), 3) := by decide +kernel
theorem dX14_tell_139 : decode cX14_tell 139 = .ok (.iload 4, 2) := by decide +kernel
theorem dX14_tell_141 : decode cX14_tell 141 = .ok (.istore 6, 2) := by decide +kernel
theorem dX14_tell_143 : decode cX14_tell 143 = .ok (.iload 6, 2) := by decide +kernel
theorem dX14_tell_145 : decode cX14_tell 145 = .ok (.aload_n 0, 1) := by decide +kernel
theorem dX14_tell_146 : decode cX14_tell 146 = .ok (.getfield 93, 3) := by decide +kernel
theorem dX14_tell_149 : decode cX14_tell 149 = .ok (.if_icmp .ge 37, 3) := by decide +kernel
theorem dX14_tell_152 : decode cX14_tell 152 = .ok (.aload_n 0, 1) := by decide +kernel
theorem dX14_tell_153 : decode cX14_tell 153 = .ok (.iload 6, 2) := by decide +kernel
theorem dX14_tell_155 : decode cX14_tell 155 = .ok (.iconst 1, 1) := by decide +kernel
theorem dX14_tell_156 : decode cX14_tell 156 = .ok (.iadd, 1) := by decide +kernel
theorem dX14_tell_157 : decode cX14_tell 157 = .ok (.invokevirtual 226, 3) := by decide +kernel
theorem dX14_tell_160 : decode cX14_tell 160 = .ok (.ifCond .ne 20, 3) := by decide +kernel
theorem dX14_tell_163 : decode cX14_tell 163 = .ok (.aload_n 0, 1) := by decide +kernel
theorem dX14_tell_164 : decode cX14_tell 164 = .ok (.bipush 6, 2) := by decide +kernel
theorem dX14_tell_166 : decode cX14_tell 166 = .ok (.aload_n 0, 1) := by decide +kernel
theorem dX14_tell_167 : decode cX14_tell 167 = .ok (.getfield 42, 3) := by decide +kernel
theorem dX14_tell_170 : decode cX14_tell 170 = .ok (.iload 6, 2) := by decide +kernel
theorem dX14_tell_172 : decode cX14_tell 172 = .ok (.aaload, 1) := by decide +kernel
theorem dX14_tell_173 : decode cX14_tell 173 = .ok (.getfield 187, 3) := by decide +kernel
theorem dX14_tell_176 : decode cX14_tell 176 = .ok (.invokevirtual 136, 3) := by decide +kernel
theorem dX14_tell_179 : decode cX14_tell 179 = .ok (.athrow, 1) := by decide +kernel
theorem dX14_tell_180 : decode cX14_tell 180 = .ok (.iinc 6 1, 3) := by decide +kernel
theorem dX14_tell_183 : decode cX14_tell 183 = .ok (.goto (-40), 3) := by decide +kernel
theorem dX14_tell_186 : decode cX14_tell 186 = .ok (.goto 77, 3) := by decide +kernel
theorem dX14_tell_189 : decode cX14_tell 189 = .ok (.astore 5, 2) := by decide +kernel
theorem dX14_tell_191 : decode cX14_tell 191 = .ok (.aload_n 0, 1) := by decide +kernel
theorem dX14_tell_192 : decode cX14_tell 192 = .ok (.iload_n 2, 1) := by decide +kernel
theorem dX14_tell_193 : decode cX14_tell 193 = .ok (.putfield 96, 3) := by decide +kernel
theorem dX14_tell_196 : decode cX14_tell 196 = .ok (.aload_n 0, 1) := by decide +kernel
theorem dX14_tell_197 : decode cX14_tell 197 = .ok (.iload_n 3, 1) := by decide +kernel
theorem dX14_tell_198 : decode cX14_tell 198 = .ok (.putfield 90, 3) := by decide +kernel
theorem dX14_tell_201 : decode cX14_tell 201 = .ok (.aload_n 0, 1) := by decide +kernel
theorem dX14_tell_202 : decode cX14_tell 202 = .ok (.iload 4, 2) := by decide +kernel
theorem dX14_tell_204 : decode cX14_tell 204 = .ok (.putfield 93, 3) := by decide +kernel
theorem dX14_tell_207 : decode cX14_tell 207 = .ok (.iconst 0, 1) := by decide +kernel
theorem dX14_tell_208 : decode cX14_tell 208 = .ok (.istore 6, 2) := by decide +kernel
theorem dX14_tell_210 : decode cX14_tell 210 = .ok (.iload 6, 2) := by decide +kernel
theorem dX14_tell_212 : decode cX14_tell 212 = .ok (.sipush 1000, 3) := by decide +kernel
theorem dX14_tell_215 : decode cX14_tell 215 = .ok (.if_icmp .ge 23, 3) := by decide +kernel
theorem dX14_tell_218 : decode cX14_tell 218 = .ok (.aload_n 0, 1) := by decide +kernel
theorem dX14_tell_219 : decode cX14_tell 219 = .ok (.getfield 33, 3) := by decide +kernel
theorem dX14_tell_222 : decode cX14_tell 222 = .ok (.iload 6, 2) := by decide +kernel
theorem dX14_tell_224 : decode cX14_tell 224 = .ok (.aload_n 0, 1) := by decide +kernel
theorem dX14_tell_225 : decode cX14_tell 225 = .ok (.getfield 37, 3) := by decide +kernel
theorem dX14_tell_228 : decode cX14_tell 228 = .ok (.iload 6, 2) := by decide +kernel
theorem dX14_tell_230 : decode cX14_tell 230 = .ok (.baload, 1) := by decide +kernel
theorem dX14_tell_231 : decode cX14_tell 231 = .ok (.bastore, 1) := by decide +kernel
theorem dX14_tell_232 : decode cX14_tell 232 = .ok (.iinc 6 1, 3) := by decide +kernel
theorem dX14_tell_235 : decode cX14_tell 235 = .ok (.goto (-25), 3) := by decide +kernel
theorem dX14_tell_238 : decode cX14_tell 238 = .ok (.aload_n 0, 1) := by decide +kernel
theorem dX14_tell_239 : decode cX14_tell 239 = .ok (.aload 5, 2) := by decide +kernel
theorem dX14_tell_241 : decode cX14_tell 241 = .ok (.getfield 99, 3) := by decide +kernel
theorem dX14_tell_244 : decode cX14_tell 244 = .ok (.putfield 217, 3) := by decide +kernel
theorem dX14_tell_247 : decode cX14_tell 247 = .ok (.aload_n 0, 1) := by decide +kernel
theorem dX14_tell_248 : decode cX14_tell 248 = .ok (.iconst 4, 1) := by decide +kernel
theorem dX14_tell_249 : decode cX14_tell 249 = .ok (.putfield 87, 3) := by decide +kernel
theorem dX14_tell_252 : decode cX14_tell 252 = .ok (.aload_n 0, 1) := by decide +kernel
theorem dX14_tell_253 : decode cX14_tell 253 = .ok (.aload 5, 2) := by decide +kernel
theorem dX14_tell_255 : decode cX14_tell 255 = .ok (.getfield 101, 3) := by decide +kernel
theorem dX14_tell_258 : decode cX14_tell 258 = .ok (.putfield 9, 3) := by decide +kernel
theorem dX14_tell_261 : decode cX14_tell 261 = .ok (.iconst (-1), 1) := by decide +kernel
theorem dX14_tell_262 : decode cX14_tell 262 = .ok (.ireturn, 1) := by decide +kernel
theorem dX14_tell_263 : decode cX14_tell 263 = .ok (.aload_n 0, 1) := by decide +kernel
theorem dX14_tell_264 : decode cX14_tell 264 = .ok (.aload_n 0, 1) := by decide +kernel
theorem dX14_tell_265 : decode cX14_tell 265 = .ok (.getfield 220, 3) := by decide +kernel
theorem dX14_tell_268 : decode cX14_tell 268 = .ok (.invokevirtual 229, 3) := by decide +kernel
theorem dX14_tell_271 : decode cX14_tell 271 = .ok (.ireturn, 1) := by decide +kernel
theorem dX14_layers_0 : decode cX14_layers 0 = .ok (.iconst 0, 1) := by decide +kernel
theorem dX14_layers_1 : decode cX14_layers 1 = .ok (.istore_n 2, 1) := by decide +kernel
theorem dX14_layers_2 : decode cX14_layers 2 = .ok (.iload_n 2, 1) := by decide +kernel
theorem dX14_layers_3 : decode cX14_layers 3 = .ok (.bipush 10, 2) := by decide +kernel
theorem dX14_layers_5 : decode cX14_layers 5 = .ok (.if_icmp .ge 16, 3) := by decide +kernel
theorem dX14_layers_8 : decode cX14_layers 8 = .ok (.aload_n 0, 1) := by decide +kernel
theorem dX14_layers_9 : decode cX14_layers 9 = .ok (.getfield 30, 3) := by decide +kernel
theorem dX14_layers_12 : decode cX14_layers 12 = .ok (.iload_n 2, 1) := by decide +kernel
theorem dX14_layers_13 : decode cX14_layers 13 = .ok (.iconst 0, 1) := by decide +kernel
theorem dX14_layers_14 : decode cX14_layers 14 = .ok (.iastore, 1) := by decide +kernel
theorem dX14_layers_15 : decode cX14_layers 15 = .ok (.iinc 2 1, 3) := by decide +kernel
theorem dX14_layers_18 : decode cX14_layers 18 = .ok (.goto (-16), 3) := by decide +kernel
theorem dX14_layers_21 : decode cX14_layers 21 = .ok (.iconst 1, 1) := by decide +kernel
theorem dX14_layers_22 : decode cX14_layers 22 = .ok (.istore_n 2, 1) := by decide +kernel
theorem dX14_layers_23 : decode cX14_layers 23 = .ok (.iload_n 2, 1) := by decide +kernel
theorem dX14_layers_24 : decode cX14_layers 24 = .ok (.ifCond .eq 141, 3) := by decide +kernel
theorem dX14_layers_27 : decode cX14_layers 27 = .ok (.iconst 0, 1) := by decide +kernel
theorem dX14_layers_28 : decode cX14_layers 28 = .ok (.istore_n 2, 1) := by decide +kernel
theorem dX14_layers_29 : decode cX14_layers 29 = .ok (.iconst 0, 1) := by decide +kernel
theorem dX14_layers_30 : decode cX14_layers 30 = .ok (.istore_n 3, 1) := by decide +kernel
theorem dX14_layers_31 : decode cX14_layers 31 = .ok (.iload_n 3, 1) := by decide +kernel
theorem dX14_layers_32 : decode cX14_layers 32 = .ok (.iload_n 1, 1) := by decide +kernel
theorem dX14_layers_33 : decode cX14_layers 33 = .ok (.if_icmp .ge 129, 3) := by decide +kernel
theorem dX14_layers_36 : decode cX14_layers 36 = .ok (.aload_n 0, 1) := by decide +kernel
theorem dX14_layers_37 : decode cX14_layers 37 = .ok (.getfield 42, 3) := by decide +kernel
theorem dX14_layers_40 : decode cX14_layers 40 = .ok (.iload_n 3, 1) := by decide +kernel
theorem dX14_layers_41 : decode cX14_layers 41 = .ok (.aaload, 1) := by decide +kernel
theorem dX14_layers_42 : decode cX14_layers 42 = .ok (.astore 4, 2) := by decide +kernel
theorem dX14_layers_44 : decode cX14_layers 44 = .ok (.iconst 1, 1) := by decide +kernel
theorem dX14_layers_45 : decode cX14_layers 45 = .ok (.istore 5, 2) := by decide +kernel
theorem dX14_layers_47 : decode cX14_layers 47 = .ok (.iload 5, 2) := by decide +kernel
theorem dX14_layers_49 : decode cX14_layers 49 = .ok (.aload 4, 2) := by decide +kernel
theorem dX14_layers_51 : decode cX14_layers 51 = .ok (.getfield 199, 3) := by decide +kernel
theorem dX14_layers_54 : decode cX14_layers 54 = .ok (.if_icmp .gt 102, 3) := by decide +kernel
theorem dX14_layers_57 : decode cX14_layers 57 = .ok (.aload 4, 2) := by decide +kernel
theorem dX14_layers_59 : decode cX14_layers 59 = .ok (.getfield 169, 3) := by decide +kernel
theorem dX14_layers_62 : decode cX14_layers 62 = .ok (.iload 5, 2) := by decide +kernel
theorem dX14_layers_64 : decode cX14_layers 64 = .ok (.iaload, 1) := by decide +kernel
theorem dX14_layers_65 : decode cX14_layers 65 = .ok (.iconst 2, 1) := by decide +kernel
theorem dX14_layers_66 : decode cX14_layers 66 = .ok (.if_icmp .ne 6, 3) := by decide +kernel
theorem dX14_layers_69 : decode cX14_layers 69 = .ok (.goto 81, 3) := by decide +kernel
theorem dX14_layers_72 : decode cX14_layers 72 = .ok (.aload_n 0, 1) := by decide +kernel
theorem dX14_layers_73 : decode cX14_layers 73 = .ok (.getfield 30, 3) := by decide +kernel
theorem dX14_layers_76 : decode cX14_layers 76 = .ok (.aload 4, 2) := by decide +kernel
theorem dX14_layers_78 : decode cX14_layers 78 = .ok (.getfield 171, 3) := by decide +kernel
theorem dX14_layers_81 : decode cX14_layers 81 = .ok (.iload 5, 2) := by decide +kernel
theorem dX14_layers_83 : decode cX14_layers 83 = .ok (.iaload, 1) := by decide +kernel
theorem dX14_layers_84 : decode cX14_layers 84 = .ok (.iaload, 1) := by decide +kernel
theorem dX14_layers_85 : decode cX14_layers 85 = .ok (.aload 4, 2) := by decide +kernel
theorem dX14_layers_87 : decode cX14_layers 87 = .ok (.getfield 169, 3) := by decide +kernel
theorem dX14_layers_90 : decode cX14_layers 90 = .ok (.iload 5, 2) := by decide +kernel
theorem dX14_layers_92 : decode cX14_layers 92 = .ok (.iaload, 1) := by decide +kernel
theorem dX14_layers_93 : decode cX14_layers 93 = .ok (.iconst 1, 1) := by decide +kernel
theorem dX14_layers_94 : decode cX14_layers 94 = .ok (.if_icmp .ne 7, 3) := by decide +kernel
theorem dX14_layers_97 : decode cX14_layers 97 = .ok (.iconst 1, 1) := by decide +kernel
theorem dX14_layers_98 : decode cX14_layers 98 = .ok (.goto 4, 3) := by decide +kernel
theorem dX14_layers_101 : decode cX14_layers 101 = .ok (.iconst 0, 1) := by decide +kernel
theorem dX14_layers_102 : decode cX14_layers 102 = .ok (.iadd, 1) := by decide +kernel
theorem dX14_layers_103 : decode cX14_layers 103 = .ok (.istore 6, 2) := by decide +kernel
theorem dX14_layers_105 : decode cX14_layers 105 = .ok (.aload_n 0, 1) := by decide +kernel
theorem dX14_layers_106 : decode cX14_layers 106 = .ok (.getfield 30, 3) := by decide +kernel
theorem dX14_layers_109 : decode cX14_layers 109 = .ok (.aload 4, 2) := by decide +kernel
theorem dX14_layers_111 : decode cX14_layers 111 = .ok (.getfield 171, 3) := by decide +kernel
theorem dX14_layers_114 : decode cX14_layers 114 = .ok (.iconst 0, 1) := by decide +kernel
theorem dX14_layers_115 : decode cX14_layers 115 = .ok (.iaload, 1) := by decide +kernel
theorem dX14_layers_116 : decode cX14_layers 116 = .ok (.iaload, 1) := by decide +kernel
theorem dX14_layers_117 : decode cX14_layers 117 = .ok (.iload 6, 2) := by decide +kernel
theorem dX14_layers_119 : decode cX14_layers 119 = .ok (.if_icmp .lt 6, 3) := by decide +kernel
theorem dX14_layers_122 : decode cX14_layers 122 = .ok (.goto 28, 3) := by decide +kernel
theorem dX14_layers_125 : decode cX14_layers 125 = .ok (.aload_n 0, 1) := by decide +kernel
theorem dX14_layers_126 : decode cX14_layers 126 = .ok (.getfield 30, 3) := by decide +kernel
theorem dX14_layers_129 : decode cX14_layers 129 = .ok (.aload 4, 2) := by decide +kernel
theorem dX14_layers_131 : decode cX14_layers 131 = .ok (.getfield 171, 3) := by decide +kernel
theorem dX14_layers_134 : decode cX14_layers 134 = .ok (.iconst 0, 1) := by decide +kernel
theorem dX14_layers_135 : decode cX14_layers 135 = .ok (.iaload, 1) := by decide +kernel
theorem dX14_layers_136 : decode cX14_layers 136 = .ok (.iload 6, 2) := by decide +kernel
theorem dX14_layers_138 : decode cX14_layers 138 = .ok (.iastore, 1) := by decide +kernel
theorem dX14_layers_139 : decode cX14_layers 139 = .ok (.iconst 1, 1) := by decide +kernel
theorem dX14_layers_140 : decode cX14_layers 140 = .ok (.istore_n 2, 1) := by decide +kernel
theorem dX14_layers_141 : decode cX14_layers 141 = .ok (.iload 6, 2) := by decide +kernel
theorem dX14_layers_143 : decode cX14_layers 143 = .ok (.bipush 10, 2) := by decide +kernel
theorem dX14_layers_145 : decode cX14_layers 145 = .ok (.if_icmp .le 5, 3) := by decide +kernel
theorem dX14_layers_148 : decode cX14_layers 148 = .ok (.iconst 0, 1) := by decide +kernel
theorem dX14_layers_149 : decode cX14_layers 149 = .ok (.ireturn, 1) := by decide +kernel
theorem dX14_layers_150 : decode cX14_layers 150 = .ok (.iinc 5 1, 3) := by decide +kernel
theorem dX14_layers_153 : decode cX14_layers 153 = .ok (.goto (-106), 3) := by decide +kernel
theorem dX14_layers_156 : decode cX14_layers 156 = .ok (.iinc 3 1, 3) := by decide +kernel
theorem dX14_layers_159 : decode cX14_layers 159 = .ok (.goto (-128), 3) := by decide +kernel
theorem dX14_layers_162 : decode cX14_layers 162 = .ok (.goto (-139), 3) := by decide +kernel
theorem dX14_layers_165 : decode cX14_layers 165 = .ok (.iconst 1, 1) := by decide +kernel
theorem dX14_layers_166 : decode cX14_layers 166 = .ok (.ireturn, 1) := by decide +kernel
theorem dX14_fault_0 : decode cX14_fault 0 = .ok (.aload_n 0, 1) := by decide +kernel
theorem dX14_fault_1 : decode cX14_fault 1 = .ok (.iconst 0, 1) := by decide +kernel
theorem dX14_fault_2 : decode cX14_fault 2 = .ok (.putfield 84, 3) := by decide +kernel
theorem dX14_fault_5 : decode cX14_fault 5 = .ok (.aload_n 0, 1) := by decide +kernel
theorem dX14_fault_6 : decode cX14_fault 6 = .ok (.getfield 217, 3) := by decide +kernel
theorem dX14_fault_9 : decode cX14_fault 9 = .ok (.ireturn, 1) := by decide +kernel
theorem dX14_where_0 : decode cX14_where 0 = .ok (.aload_n 0, 1) := by decide +kernel
theorem dX14_where_1 : decode cX14_where 1 = .ok (.iconst 0, 1) := by decide +kernel
theorem dX14_where_2 : decode cX14_where 2 = .ok (.putfield 84, 3) := by decide +kernel
theorem dX14_where_5 : decode cX14_where 5 = .ok (.aload_n 0, 1) := by decide +kernel
theorem dX14_where_6 : decode cX14_where 6 = .ok (.getfield 9, 3) := by decide +kernel
theorem dX14_where_9 : decode cX14_where 9 = .ok (.ireturn, 1) := by decide +kernel
theorem dX14_atom_0 : decode cX14_atom 0 = .ok (.aload_n 0, 1) := by decide +kernel
theorem dX14_atom_1 : decode cX14_atom 1 = .ok (.iconst 0, 1) := by decide +kernel
theorem dX14_atom_2 : decode cX14_atom 2 = .ok (.putfield 84, 3) := by decide +kernel
theorem dX14_atom_5 : decode cX14_atom 5 = .ok (.aload_n 0, 1) := by decide +kernel
theorem dX14_atom_6 : decode cX14_atom 6 = .ok (.iload_n 1, 1) := by decide +kernel
theorem dX14_atom_7 : decode cX14_atom 7 = .ok (.invokevirtual 232, 3) := by decide +kernel
theorem dX14_atom_10 : decode cX14_atom 10 = .ok (.ifCond .eq 23, 3) := by decide +kernel
theorem dX14_atom_13 : decode cX14_atom 13 = .ok (.iload_n 2, 1) := by decide +kernel
theorem dX14_atom_14 : decode cX14_atom 14 = .ok (.iconst 0, 1) := by decide +kernel
theorem dX14_atom_15 : decode cX14_atom 15 = .ok (.bipush 9, 2) := by decide +kernel
theorem dX14_atom_17 : decode cX14_atom 17 = .ok (.invokestatic 235, 3) := by decide +kernel
theorem dX14_atom_20 : decode cX14_atom 20 = .ok (.ifCond .eq 13, 3) := by decide +kernel
theorem dX14_atom_23 : decode cX14_atom 23 = .ok (.iload_n 3, 1) := by decide +kernel
theorem dX14_atom_24 : decode cX14_atom 24 = .ok (.iconst 0, 1) := by decide +kernel
theorem dX14_atom_25 : decode cX14_atom 25 = .ok (.bipush 9, 2) := by decide +kernel
theorem dX14_atom_27 : decode cX14_atom 27 = .ok (.invokestatic 235, 3) := by decide +kernel
theorem dX14_atom_30 : decode cX14_atom 30 = .ok (.ifCond .ne 5, 3) := by decide +kernel
theorem dX14_atom_33 : decode cX14_atom 33 = .ok (.iconst (-1), 1) := by decide +kernel
theorem dX14_atom_34 : decode cX14_atom 34 = .ok (.ireturn, 1) := by decide +kernel
theorem dX14_atom_35 : decode cX14_atom 35 = .ok (.bipush 100, 2) := by decide +kernel
theorem dX14_atom_37 : decode cX14_atom 37 = .ok (.iload_n 1, 1) := by decide +kernel
theorem dX14_atom_38 : decode cX14_atom 38 = .ok (.imul, 1) := by decide +kernel
theorem dX14_atom_39 : decode cX14_atom 39 = .ok (.bipush 10, 2) := by decide +kernel
theorem dX14_atom_41 : decode cX14_atom 41 = .ok (.iload_n 2, 1) := by decide +kernel
theorem dX14_atom_42 : decode cX14_atom 42 = .ok (.imul, 1) := by decide +kernel
theorem dX14_atom_43 : decode cX14_atom 43 = .ok (.iadd, 1) := by decide +kernel
theorem dX14_atom_44 : decode cX14_atom 44 = .ok (.iload_n 3, 1) := by decide +kernel
theorem dX14_atom_45 : decode cX14_atom 45 = .ok (.iadd, 1) := by decide +kernel
theorem dX14_atom_46 : decode cX14_atom 46 = .ok (.istore 4, 2) := by decide +kernel
theorem dX14_atom_48 : decode cX14_atom 48 = .ok (.aload_n 0, 1) := by decide +kernel
theorem dX14_atom_49 : decode cX14_atom 49 = .ok (.iload 4, 2) := by decide +kernel
theorem dX14_atom_51 : decode cX14_atom 51 = .ok (.invokevirtual 239, 3) := by decide +kernel
theorem dX14_atom_54 : decode cX14_atom 54 = .ok (.ifCond .eq 8, 3) := by decide +kernel
theorem dX14_atom_57 : decode cX14_atom 57 = .ok (.iload 4, 2) := by decide +kernel
theorem dX14_atom_59 : decode cX14_atom 59 = .ok (.goto 4, 3) := by decide +kernel
theorem dX14_atom_62 : decode cX14_atom 62 = .ok (.iconst (-1), 1) := by decide +kernel
theorem dX14_atom_63 : decode cX14_atom 63 = .ok (.ireturn, 1) := by decide +kernel
theorem dX14_name_0 : decode cX14_name 0 = .ok (.iload_n 3, 1) := by decide +kernel
theorem dX14_name_1 : decode cX14_name 1 = .ok (.ifCond .eq 11, 3) := by decide +kernel
theorem dX14_name_4 : decode cX14_name 4 = .ok (.aload_n 0, 1) := by decide +kernel
theorem dX14_name_5 : decode cX14_name 5 = .ok (.iload_n 1, 1) := by decide +kernel
theorem dX14_name_6 : decode cX14_name 6 = .ok (.invokevirtual 232, 3) := by decide +kernel
theorem dX14_name_9 : decode cX14_name 9 = .ok (.goto 20, 3) := by decide +kernel
theorem dX14_name_12 : decode cX14_name 12 = .ok (.iload_n 1, 1) := by decide +kernel
theorem dX14_name_13 : decode cX14_name 13 = .ok (.ifCond .lt 15, 3) := by decide +kernel
theorem dX14_name_16 : decode cX14_name 16 = .ok (.iload_n 1, 1) := by decide +kernel
theorem dX14_name_17 : decode cX14_name 17 = .ok (.aload_n 0, 1) := by decide +kernel
theorem dX14_name_18 : decode cX14_name 18 = .ok (.getfield 96, 3) := by decide +kernel
theorem dX14_name_21 : decode cX14_name 21 = .ok (.if_icmp .ge 7, 3) := by decide +kernel
theorem dX14_name_24 : decode cX14_name 24 = .ok (.iconst 1, 1) := by decide +kernel
theorem dX14_name_25 : decode cX14_name 25 = .ok (.goto 4, 3) := by decide +kernel
theorem dX14_name_28 : decode cX14_name 28 = .ok (.iconst 0, 1) := by decide +kernel
theorem dX14_name_29 : decode cX14_name 29 = .ok (.istore 4, 2) := by decide +kernel
theorem dX14_name_31 : decode cX14_name 31 = .ok (.iload 4, 2) := by decide +kernel
theorem dX14_name_33 : decode cX14_name 33 = .ok (.ifCond .ne 7, 3) := by decide +kernel
theorem dX14_name_36 : decode cX14_name 36 = .ok (.iconst 0, 1) := by decide +kernel
theorem dX14_name_37 : decode cX14_name 37 = .ok (.goto 22, 3) := by decide +kernel
theorem dX14_name_40 : decode cX14_name 40 = .ok (.iload_n 3, 1) := by decide +kernel
theorem dX14_name_41 : decode cX14_name 41 = .ok (.ifCond .eq 12, 3) := by decide +kernel
theorem dX14_name_44 : decode cX14_name 44 = .ok (.aload_n 0, 1) := by decide +kernel
theorem dX14_name_45 : decode cX14_name 45 = .ok (.getfield 24, 3) := by decide +kernel
theorem dX14_name_48 : decode cX14_name 48 = .ok (.iload_n 1, 1) := by decide +kernel
theorem dX14_name_49 : decode cX14_name 49 = .ok (.iaload, 1) := by decide +kernel
theorem dX14_name_50 : decode cX14_name 50 = .ok (.goto 9, 3) := by decide +kernel
theorem dX14_name_53 : decode cX14_name 53 = .ok (.aload_n 0, 1) := by decide +kernel
theorem dX14_name_54 : decode cX14_name 54 = .ok (.getfield 20, 3) := by decide +kernel
theorem dX14_name_57 : decode cX14_name 57 = .ok (.iload_n 1, 1) := by decide +kernel
theorem dX14_name_58 : decode cX14_name 58 = .ok (.iaload, 1) := by decide +kernel
theorem dX14_name_59 : decode cX14_name 59 = .ok (.istore 5, 2) := by decide +kernel
theorem dX14_name_61 : decode cX14_name 61 = .ok (.aload_n 0, 1) := by decide +kernel
theorem dX14_name_62 : decode cX14_name 62 = .ok (.iload_n 2, 1) := by decide +kernel
theorem dX14_name_63 : decode cX14_name 63 = .ok (.ifCond .lt 9, 3) := by decide +kernel
theorem dX14_name_66 : decode cX14_name 66 = .ok (.iload_n 2, 1) := by decide +kernel
theorem dX14_name_67 : decode cX14_name 67 = .ok (.iload 5, 2) := by decide +kernel
theorem dX14_name_69 : decode cX14_name 69 = .ok (.if_icmp .lt 7, 3) := by decide +kernel
theorem dX14_name_72 : decode cX14_name 72 = .ok (.iconst 1, 1) := by decide +kernel
theorem dX14_name_73 : decode cX14_name 73 = .ok (.goto 4, 3) := by decide +kernel
theorem dX14_name_76 : decode cX14_name 76 = .ok (.iconst 0, 1) := by decide +kernel
theorem dX14_name_77 : decode cX14_name 77 = .ok (.putfield 84, 3) := by decide +kernel
theorem dX14_name_80 : decode cX14_name 80 = .ok (.aload_n 0, 1) := by decide +kernel
theorem dX14_name_81 : decode cX14_name 81 = .ok (.getfield 84, 3) := by decide +kernel
theorem dX14_name_84 : decode cX14_name 84 = .ok (.ifCond .le 5, 3) := by decide +kernel
theorem dX14_name_87 : decode cX14_name 87 = .ok (.iconst 0, 1) := by decide +kernel
theorem dX14_name_88 : decode cX14_name 88 = .ok (.ireturn, 1) := by decide +kernel
theorem dX14_name_89 : decode cX14_name 89 = .ok (.bipush 96, 2) := by decide +kernel
theorem dX14_name_91 : decode cX14_name 91 = .ok (.iload_n 3, 1) := by decide +kernel
theorem dX14_name_92 : decode cX14_name 92 = .ok (.ifCond .eq 12, 3) := by decide +kernel
theorem dX14_name_95 : decode cX14_name 95 = .ok (.aload_n 0, 1) := by decide +kernel
theorem dX14_name_96 : decode cX14_name 96 = .ok (.getfield 17, 3) := by decide +kernel
theorem dX14_name_99 : decode cX14_name 99 = .ok (.iload_n 1, 1) := by decide +kernel
theorem dX14_name_100 : decode cX14_name 100 = .ok (.laload, 1) := by decide +kernel
theorem dX14_name_101 : decode cX14_name 101 = .ok (.goto 9, 3) := by decide +kernel
theorem dX14_name_104 : decode cX14_name 104 = .ok (.aload_n 0, 1) := by decide +kernel
theorem dX14_name_105 : decode cX14_name 105 = .ok (.getfield 13, 3) := by decide +kernel
theorem dX14_name_108 : decode cX14_name 108 = .ok (.iload_n 1, 1) := by decide +kernel
theorem dX14_name_109 : decode cX14_name 109 = .ok (.laload, 1) := by decide +kernel
theorem dX14_name_110 : decode cX14_name 110 = .ok (.iconst 5, 1) := by decide +kernel
theorem dX14_name_111 : decode cX14_name 111 = .ok (.iload 5, 2) := by decide +kernel
theorem dX14_name_113 : decode cX14_name 113 = .ok (.iconst 1, 1) := by decide +kernel
theorem dX14_name_114 : decode cX14_name 114 = .ok (.isub, 1) := by decide +kernel
theorem dX14_name_115 : decode cX14_name 115 = .ok (.iload_n 2, 1) := by decide +kernel
theorem dX14_name_116 : decode cX14_name 116 = .ok (.isub, 1) := by decide +kernel
theorem dX14_name_117 : decode cX14_name 117 = .ok (.imul, 1) := by decide +kernel
theorem dX14_name_118 : decode cX14_name 118 = .ok (.lshr, 1) := by decide +kernel
theorem dX14_name_119 : decode cX14_name 119 = .ok (.ldc2_w 242, 3) := by decide +kernel
theorem dX14_name_122 : decode cX14_name 122 = .ok (.land, 1) := by decide +kernel
theorem dX14_name_123 : decode cX14_name 123 = .ok (.l2i, 1) := by decide +kernel
theorem dX14_name_124 : decode cX14_name 124 = .ok (.iadd, 1) := by decide +kernel
theorem dX14_name_125 : decode cX14_name 125 = .ok (.ireturn, 1) := by decide +kernel
theorem dX14_places_0 : decode cX14_places 0 = .ok (.aload_n 0, 1) := by decide +kernel
theorem dX14_places_1 : decode cX14_places 1 = .ok (.iconst 0, 1) := by decide +kernel
theorem dX14_places_2 : decode cX14_places 2 = .ok (.putfield 84, 3) := by decide +kernel
theorem dX14_places_5 : decode cX14_places 5 = .ok (.aload_n 0, 1) := by decide +kernel
theorem dX14_places_6 : decode cX14_places 6 = .ok (.iload_n 1, 1) := by decide +kernel
theorem dX14_places_7 : decode cX14_places 7 = .ok (.invokevirtual 232, 3) := by decide +kernel
theorem dX14_places_10 : decode cX14_places 10 = .ok (.ifCond .eq 12, 3) := by decide +kernel
theorem dX14_places_13 : decode cX14_places 13 = .ok (.aload_n 0, 1) := by decide +kernel
theorem dX14_places_14 : decode cX14_places 14 = .ok (.getfield 27, 3) := by decide +kernel
theorem dX14_places_17 : decode cX14_places 17 = .ok (.iload_n 1, 1) := by decide +kernel
theorem dX14_places_18 : decode cX14_places 18 = .ok (.iaload, 1) := by decide +kernel
theorem dX14_places_19 : decode cX14_places 19 = .ok (.goto 4, 3) := by decide +kernel
theorem dX14_places_22 : decode cX14_places 22 = .ok (.iconst (-1), 1) := by decide +kernel
theorem dX14_places_23 : decode cX14_places 23 = .ok (.ireturn, 1) := by decide +kernel
theorem dX14_layer_0 : decode cX14_layer 0 = .ok (.aload_n 0, 1) := by decide +kernel
theorem dX14_layer_1 : decode cX14_layer 1 = .ok (.iconst 0, 1) := by decide +kernel
theorem dX14_layer_2 : decode cX14_layer 2 = .ok (.putfield 84, 3) := by decide +kernel
theorem dX14_layer_5 : decode cX14_layer 5 = .ok (.aload_n 0, 1) := by decide +kernel
theorem dX14_layer_6 : decode cX14_layer 6 = .ok (.iload_n 1, 1) := by decide +kernel
theorem dX14_layer_7 : decode cX14_layer 7 = .ok (.invokevirtual 232, 3) := by decide +kernel
theorem dX14_layer_10 : decode cX14_layer 10 = .ok (.ifCond .ne 5, 3) := by decide +kernel
theorem dX14_layer_13 : decode cX14_layer 13 = .ok (.iconst (-1), 1) := by decide +kernel
theorem dX14_layer_14 : decode cX14_layer 14 = .ok (.ireturn, 1) := by decide +kernel
theorem dX14_layer_15 : decode cX14_layer 15 = .ok (.aload_n 0, 1) := by decide +kernel
theorem dX14_layer_16 : decode cX14_layer 16 = .ok (.aload_n 0, 1) := by decide +kernel
theorem dX14_layer_17 : decode cX14_layer 17 = .ok (.getfield 93, 3) := by decide +kernel
theorem dX14_layer_20 : decode cX14_layer 20 = .ok (.invokevirtual 226, 3) := by decide +kernel
theorem dX14_layer_23 : decode cX14_layer 23 = .ok (.istore_n 2, 1) := by decide +kernel
theorem dX14_layer_24 : decode cX14_layer 24 = .ok (.aload_n 0, 1) := by decide +kernel
theorem dX14_layer_25 : decode cX14_layer 25 = .ok (.getfield 30, 3) := by decide +kernel
theorem dX14_layer_28 : decode cX14_layer 28 = .ok (.iload_n 1, 1) := by decide +kernel
theorem dX14_layer_29 : decode cX14_layer 29 = .ok (.iaload, 1) := by decide +kernel
theorem dX14_layer_30 : decode cX14_layer 30 = .ok (.ireturn, 1) := by decide +kernel
theorem dX14_fact_0 : decode cX14_fact 0 = .ok (.aload_n 0, 1) := by decide +kernel
theorem dX14_fact_1 : decode cX14_fact 1 = .ok (.iconst 0, 1) := by decide +kernel
theorem dX14_fact_2 : decode cX14_fact 2 = .ok (.putfield 84, 3) := by decide +kernel
theorem dX14_fact_5 : decode cX14_fact 5 = .ok (.aload_n 0, 1) := by decide +kernel
theorem dX14_fact_6 : decode cX14_fact 6 = .ok (.iload_n 1, 1) := by decide +kernel
theorem dX14_fact_7 : decode cX14_fact 7 = .ok (.invokevirtual 239, 3) := by decide +kernel
theorem dX14_fact_10 : decode cX14_fact 10 = .ok (.ifCond .ne 9, 3) := by decide +kernel
theorem dX14_fact_13 : decode cX14_fact 13 = .ok (.aload_n 0, 1) := by decide +kernel
theorem dX14_fact_14 : decode cX14_fact 14 = .ok (.iconst 1, 1) := by decide +kernel
theorem dX14_fact_15 : decode cX14_fact 15 = .ok (.invokevirtual 214, 3) := by decide +kernel
theorem dX14_fact_18 : decode cX14_fact 18 = .ok (.ireturn, 1) := by decide +kernel
theorem dX14_fact_19 : decode cX14_fact 19 = .ok (.aload_n 0, 1) := by decide +kernel
theorem dX14_fact_20 : decode cX14_fact 20 = .ok (.getfield 33, 3) := by decide +kernel
theorem dX14_fact_23 : decode cX14_fact 23 = .ok (.iload_n 1, 1) := by decide +kernel
theorem dX14_fact_24 : decode cX14_fact 24 = .ok (.baload, 1) := by decide +kernel
theorem dX14_fact_25 : decode cX14_fact 25 = .ok (.istore_n 3, 1) := by decide +kernel
theorem dX14_fact_26 : decode cX14_fact 26 = .ok (.aload_n 0, 1) := by decide +kernel
theorem dX14_fact_27 : decode cX14_fact 27 = .ok (.getfield 33, 3) := by decide +kernel
theorem dX14_fact_30 : decode cX14_fact 30 = .ok (.iload_n 1, 1) := by decide +kernel
theorem dX14_fact_31 : decode cX14_fact 31 = .ok (.iload_n 2, 1) := by decide +kernel
theorem dX14_fact_32 : decode cX14_fact 32 = .ok (.bastore, 1) := by decide +kernel
theorem dX14_fact_33 : decode cX14_fact 33 = .ok (.aload_n 0, 1) := by decide +kernel
theorem dX14_fact_34 : decode cX14_fact 34 = .ok (.iload_n 3, 1) := by decide +kernel
theorem dX14_fact_35 : decode cX14_fact 35 = .ok (.iload_n 2, 1) := by decide +kernel
theorem dX14_fact_36 : decode cX14_fact 36 = .ok (.if_icmp .ne 7, 3) := by decide +kernel
theorem dX14_fact_39 : decode cX14_fact 39 = .ok (.iconst 0, 1) := by decide +kernel
theorem dX14_fact_40 : decode cX14_fact 40 = .ok (.goto 4, 3) := by decide +kernel
theorem dX14_fact_43 : decode cX14_fact 43 = .ok (.iconst 1, 1) := by decide +kernel
theorem dX14_fact_44 : decode cX14_fact 44 = .ok (.invokevirtual 229, 3) := by decide +kernel
theorem dX14_fact_47 : decode cX14_fact 47 = .ok (.ireturn, 1) := by decide +kernel
theorem dX14_drop_0 : decode cX14_drop 0 = .ok (.aload_n 0, 1) := by decide +kernel
theorem dX14_drop_1 : decode cX14_drop 1 = .ok (.iconst 0, 1) := by decide +kernel
theorem dX14_drop_2 : decode cX14_drop 2 = .ok (.putfield 84, 3) := by decide +kernel
theorem dX14_drop_5 : decode cX14_drop 5 = .ok (.aload_n 0, 1) := by decide +kernel
theorem dX14_drop_6 : decode cX14_drop 6 = .ok (.iload_n 1, 1) := by decide +kernel
theorem dX14_drop_7 : decode cX14_drop 7 = .ok (.invokevirtual 244, 3) := by decide +kernel
theorem dX14_drop_10 : decode cX14_drop 10 = .ok (.ifCond .ne 9, 3) := by decide +kernel
theorem dX14_drop_13 : decode cX14_drop 13 = .ok (.aload_n 0, 1) := by decide +kernel
theorem dX14_drop_14 : decode cX14_drop 14 = .ok (.iconst 1, 1) := by decide +kernel
theorem dX14_drop_15 : decode cX14_drop 15 = .ok (.invokevirtual 247, 3) := by decide +kernel
theorem dX14_drop_18 : decode cX14_drop 18 = .ok (.ireturn, 1) := by decide +kernel
theorem dX14_drop_19 : decode cX14_drop 19 = .ok (.aload_n 0, 1) := by decide +kernel
theorem dX14_drop_20 : decode cX14_drop 20 = .ok (.dup, 1) := by decide +kernel
theorem dX14_drop_21 : decode cX14_drop 21 = .ok (.getfield 93, 3) := by decide +kernel
theorem dX14_drop_24 : decode cX14_drop 24 = .ok (.iconst 1, 1) := by decide +kernel
theorem dX14_drop_25 : decode cX14_drop 25 = .ok (.isub, 1) := by decide +kernel
theorem dX14_drop_26 : decode cX14_drop 26 = .ok (.putfield 93, 3) := by decide +kernel
theorem dX14_drop_29 : decode cX14_drop 29 = .ok (.iload_n 1, 1) := by decide +kernel
theorem dX14_drop_30 : decode cX14_drop 30 = .ok (.istore_n 2, 1) := by decide +kernel
theorem dX14_drop_31 : decode cX14_drop 31 = .ok (.iload_n 2, 1) := by decide +kernel
theorem dX14_drop_32 : decode cX14_drop 32 = .ok (.aload_n 0, 1) := by decide +kernel
theorem dX14_drop_33 : decode cX14_drop 33 = .ok (.getfield 93, 3) := by decide +kernel
theorem dX14_drop_36 : decode cX14_drop 36 = .ok (.if_icmp .ge 23, 3) := by decide +kernel
theorem dX14_drop_39 : decode cX14_drop 39 = .ok (.aload_n 0, 1) := by decide +kernel
theorem dX14_drop_40 : decode cX14_drop 40 = .ok (.getfield 42, 3) := by decide +kernel
theorem dX14_drop_43 : decode cX14_drop 43 = .ok (.iload_n 2, 1) := by decide +kernel
theorem dX14_drop_44 : decode cX14_drop 44 = .ok (.aload_n 0, 1) := by decide +kernel
theorem dX14_drop_45 : decode cX14_drop 45 = .ok (.getfield 42, 3) := by decide +kernel
theorem dX14_drop_48 : decode cX14_drop 48 = .ok (.iload_n 2, 1) := by decide +kernel
theorem dX14_drop_49 : decode cX14_drop 49 = .ok (.iconst 1, 1) := by decide +kernel
theorem dX14_drop_50 : decode cX14_drop 50 = .ok (.iadd, 1) := by decide +kernel
theorem dX14_drop_51 : decode cX14_drop 51 = .ok (.aaload, 1) := by decide +kernel
theorem dX14_drop_52 : decode cX14_drop 52 = .ok (.aastore, 1) := by decide +kernel
theorem dX14_drop_53 : decode cX14_drop 53 = .ok (.iinc 2 1, 3) := by decide +kernel
theorem dX14_drop_56 : decode cX14_drop 56 = .ok (.goto (-25), 3) := by decide +kernel
theorem dX14_drop_59 : decode cX14_drop 59 = .ok (.aload_n 0, 1) := by decide +kernel
theorem dX14_drop_60 : decode cX14_drop 60 = .ok (.invokevirtual 250, 3) := by decide +kernel
theorem dX14_drop_63 : decode cX14_drop 63 = .ok (.ireturn, 1) := by decide +kernel
theorem dX14_works_0 : decode cX14_works 0 = .ok (.aload_n 0, 1) := by decide +kernel
theorem dX14_works_1 : decode cX14_works 1 = .ok (.aload_n 0, 1) := by decide +kernel
theorem dX14_works_2 : decode cX14_works 2 = .ok (.getfield 93, 3) := by decide +kernel
theorem dX14_works_5 : decode cX14_works 5 = .ok (.invokevirtual 226, 3) := by decide +kernel
theorem dX14_works_8 : decode cX14_works 8 = .ok (.istore_n 2, 1) := by decide +kernel
theorem dX14_works_9 : decode cX14_works 9 = .ok (.iconst 0, 1) := by decide +kernel
theorem dX14_works_10 : decode cX14_works 10 = .ok (.istore_n 3, 1) := by decide +kernel
theorem dX14_works_11 : decode cX14_works 11 = .ok (.iload_n 3, 1) := by decide +kernel
theorem dX14_works_12 : decode cX14_works 12 = .ok (.sipush 1000, 3) := by decide +kernel
theorem dX14_works_15 : decode cX14_works 15 = .ok (.if_icmp .ge 30, 3) := by decide +kernel
theorem dX14_works_18 : decode cX14_works 18 = .ok (.aload_n 0, 1) := by decide +kernel
theorem dX14_works_19 : decode cX14_works 19 = .ok (.getfield 63, 3) := by decide +kernel
theorem dX14_works_22 : decode cX14_works 22 = .ok (.iload_n 3, 1) := by decide +kernel
theorem dX14_works_23 : decode cX14_works 23 = .ok (.aload_n 0, 1) := by decide +kernel
theorem dX14_works_24 : decode cX14_works 24 = .ok (.getfield 33, 3) := by decide +kernel
theorem dX14_works_27 : decode cX14_works 27 = .ok (.iload_n 3, 1) := by decide +kernel
theorem dX14_works_28 : decode cX14_works 28 = .ok (.baload, 1) := by decide +kernel
theorem dX14_works_29 : decode cX14_works 29 = .ok (.ifCond .eq 7, 3) := by decide +kernel
theorem dX14_works_32 : decode cX14_works 32 = .ok (.iconst 0, 1) := by decide +kernel
theorem dX14_works_33 : decode cX14_works 33 = .ok (.goto 5, 3) := by decide +kernel
theorem dX14_works_36 : decode cX14_works 36 = .ok (.ldc 253, 2) := by decide +kernel
theorem dX14_works_38 : decode cX14_works 38 = .ok (.iastore, 1) := by decide +kernel
theorem dX14_works_39 : decode cX14_works 39 = .ok (.iinc 3 1, 3) := by decide +kernel
theorem dX14_works_42 : decode cX14_works 42 = .ok (.goto (-31), 3) := by decide +kernel
theorem dX14_works_45 : decode cX14_works 45 = .ok (.iconst 0, 1) := by decide +kernel
theorem dX14_works_46 : decode cX14_works 46 = .ok (.istore_n 3, 1) := by decide +kernel
theorem dX14_works_47 : decode cX14_works 47 = .ok (.iload_n 3, 1) := by decide +kernel
theorem dX14_works_48 : decode cX14_works 48 = .ok (.bipush 10, 2) := by decide +kernel
theorem dX14_works_50 : decode cX14_works 50 = .ok (.if_icmp .gt 85, 3) := by decide +kernel
theorem dX14_works_53 : decode cX14_works 53 = .ok (.aload_n 0, 1) := by decide +kernel
theorem dX14_works_54 : decode cX14_works 54 = .ok (.iconst 1, 1) := by decide +kernel
theorem dX14_works_55 : decode cX14_works 55 = .ok (.putfield 254, 3) := by decide +kernel
theorem dX14_works_58 : decode cX14_works 58 = .ok (.aload_n 0, 1) := by decide +kernel
theorem dX14_works_59 : decode cX14_works 59 = .ok (.getfield 254, 3) := by decide +kernel
theorem dX14_works_62 : decode cX14_works 62 = .ok (.ifCond .eq 67, 3) := by decide +kernel
theorem dX14_works_65 : decode cX14_works 65 = .ok (.aload_n 0, 1) := by decide +kernel
theorem dX14_works_66 : decode cX14_works 66 = .ok (.iconst 0, 1) := by decide +kernel
theorem dX14_works_67 : decode cX14_works 67 = .ok (.putfield 254, 3) := by decide +kernel
theorem dX14_works_70 : decode cX14_works 70 = .ok (.iconst 0, 1) := by decide +kernel
theorem dX14_works_71 : decode cX14_works 71 = .ok (.istore 4, 2) := by decide +kernel
theorem dX14_works_73 : decode cX14_works 73 = .ok (.iload 4, 2) := by decide +kernel
theorem dX14_works_75 : decode cX14_works 75 = .ok (.aload_n 0, 1) := by decide +kernel
theorem dX14_works_76 : decode cX14_works 76 = .ok (.getfield 93, 3) := by decide +kernel
theorem dX14_works_79 : decode cX14_works 79 = .ok (.if_icmp .ge 47, 3) := by decide +kernel
theorem dX14_works_82 : decode cX14_works 82 = .ok (.iload 4, 2) := by decide +kernel
theorem dX14_works_84 : decode cX14_works 84 = .ok (.iload_n 1, 1) := by decide +kernel
theorem dX14_works_85 : decode cX14_works 85 = .ok (.if_icmp .eq 35, 3) := by decide +kernel
theorem dX14_works_88 : decode cX14_works 88 = .ok (.aload_n 0, 1) := by decide +kernel
theorem dX14_works_89 : decode cX14_works 89 = .ok (.getfield 30, 3) := by decide +kernel
theorem dX14_works_92 : decode cX14_works 92 = .ok (.aload_n 0, 1) := by decide +kernel
theorem dX14_works_93 : decode cX14_works 93 = .ok (.getfield 42, 3) := by decide +kernel
theorem dX14_works_96 : decode cX14_works 96 = .ok (.iload 4, 2) := by decide +kernel
theorem dX14_works_98 : decode cX14_works 98 = .ok (.aaload, 1) := by decide +kernel
theorem dX14_works_99 : decode cX14_works 99 = .ok (.getfield 171, 3) := by decide +kernel
theorem dX14_works_102 : decode cX14_works 102 = .ok (.iconst 0, 1) := by decide +kernel
theorem dX14_works_103 : decode cX14_works 103 = .ok (.iaload, 1) := by decide +kernel
theorem dX14_works_104 : decode cX14_works 104 = .ok (.iaload, 1) := by decide +kernel
theorem dX14_works_105 : decode cX14_works 105 = .ok (.iload_n 3, 1) := by decide +kernel
theorem dX14_works_106 : decode cX14_works 106 = .ok (.if_icmp .ne 14, 3) := by decide +kernel
theorem dX14_works_109 : decode cX14_works 109 = .ok (.aload_n 0, 1) := by decide +kernel
theorem dX14_works_110 : decode cX14_works 110 = .ok (.aload_n 0, 1) := by decide +kernel
theorem dX14_works_111 : decode cX14_works 111 = .ok (.getfield 42, 3) := by decide +kernel
theorem dX14_works_114 : decode cX14_works 114 = .ok (.iload 4, 2) := by decide +kernel
theorem dX14_works_116 : decode cX14_works 116 = .ok (.aaload, 1) := by decide +kernel
theorem dX14_works_117 : decode cX14_works 117 = .ok (.invokevirtual 258, 3) := by decide +kernel
theorem dX14_works_120 : decode cX14_works 120 = .ok (.iinc 4 1, 3) := by decide +kernel
theorem dX14_works_123 : decode cX14_works 123 = .ok (.goto (-50), 3) := by decide +kernel
theorem dX14_works_126 : decode cX14_works 126 = .ok (.goto (-68), 3) := by decide +kernel
theorem dX14_works_129 : decode cX14_works 129 = .ok (.iinc 3 1, 3) := by decide +kernel
theorem dX14_works_132 : decode cX14_works 132 = .ok (.goto (-85), 3) := by decide +kernel
theorem dX14_works_135 : decode cX14_works 135 = .ok (.return_, 1) := by decide +kernel
theorem dX14_takes_0 : decode cX14_takes 0 = .ok (.iconst 0, 1) := by decide +kernel
theorem dX14_takes_1 : decode cX14_takes 1 = .ok (.istore_n 2, 1) := by decide +kernel
theorem dX14_takes_2 : decode cX14_takes 2 = .ok (.iload_n 2, 1) := by decide +kernel
theorem dX14_takes_3 : decode cX14_takes 3 = .ok (.iconst 3, 1) := by decide +kernel
theorem dX14_takes_4 : decode cX14_takes 4 = .ok (.if_icmp .ge 16, 3) := by decide +kernel
theorem dX14_takes_7 : decode cX14_takes 7 = .ok (.aload_n 0, 1) := by decide +kernel
theorem dX14_takes_8 : decode cX14_takes 8 = .ok (.getfield 66, 3) := by decide +kernel
theorem dX14_takes_11 : decode cX14_takes 11 = .ok (.iload_n 2, 1) := by decide +kernel
theorem dX14_takes_12 : decode cX14_takes 12 = .ok (.iconst (-1), 1) := by decide +kernel
theorem dX14_takes_13 : decode cX14_takes 13 = .ok (.iastore, 1) := by decide +kernel
theorem dX14_takes_14 : decode cX14_takes 14 = .ok (.iinc 2 1, 3) := by decide +kernel
theorem dX14_takes_17 : decode cX14_takes 17 = .ok (.goto (-15), 3) := by decide +kernel
theorem dX14_takes_20 : decode cX14_takes 20 = .ok (.aload_n 0, 1) := by decide +kernel
theorem dX14_takes_21 : decode cX14_takes 21 = .ok (.aload_n 1, 1) := by decide +kernel
theorem dX14_takes_22 : decode cX14_takes 22 = .ok (.iconst 1, 1) := by decide +kernel
theorem dX14_takes_23 : decode cX14_takes 23 = .ok (.iconst 0, 1) := by decide +kernel
theorem dX14_takes_24 : decode cX14_takes 24 = .ok (.invokevirtual 262, 3) := by decide +kernel
theorem dX14_takes_27 : decode cX14_takes 27 = .ok (.return_, 1) := by decide +kernel
theorem dX14_argOf_0 : decode cX14_argOf 0 = .ok (.iload_n 1, 1) := by decide +kernel
theorem dX14_argOf_1 : decode cX14_argOf 1 = .ok (.iconst (-1), 1) := by decide +kernel
theorem dX14_argOf_2 : decode cX14_argOf 2 = .ok (.if_icmp .ne 7, 3) := by decide +kernel
theorem dX14_argOf_5 : decode cX14_argOf 5 = .ok (.iconst 0, 1) := by decide +kernel
theorem dX14_argOf_6 : decode cX14_argOf 6 = .ok (.goto 22, 3) := by decide +kernel
theorem dX14_argOf_9 : decode cX14_argOf 9 = .ok (.iload_n 1, 1) := by decide +kernel
theorem dX14_argOf_10 : decode cX14_argOf 10 = .ok (.bipush 100, 2) := by decide +kernel
theorem dX14_argOf_12 : decode cX14_argOf 12 = .ok (.if_icmp .lt 15, 3) := by decide +kernel
theorem dX14_argOf_15 : decode cX14_argOf 15 = .ok (.aload_n 0, 1) := by decide +kernel
theorem dX14_argOf_16 : decode cX14_argOf 16 = .ok (.getfield 66, 3) := by decide +kernel
theorem dX14_argOf_19 : decode cX14_argOf 19 = .ok (.iload_n 1, 1) := by decide +kernel
theorem dX14_argOf_20 : decode cX14_argOf 20 = .ok (.bipush 100, 2) := by decide +kernel
theorem dX14_argOf_22 : decode cX14_argOf 22 = .ok (.isub, 1) := by decide +kernel
theorem dX14_argOf_23 : decode cX14_argOf 23 = .ok (.iaload, 1) := by decide +kernel
theorem dX14_argOf_24 : decode cX14_argOf 24 = .ok (.goto 4, 3) := by decide +kernel
theorem dX14_argOf_27 : decode cX14_argOf 27 = .ok (.iload_n 1, 1) := by decide +kernel
theorem dX14_argOf_28 : decode cX14_argOf 28 = .ok (.ireturn, 1) := by decide +kernel
theorem dX14_atomOf_0 : decode cX14_atomOf 0 = .ok (.bipush 100, 2) := by decide +kernel
theorem dX14_atomOf_2 : decode cX14_atomOf 2 = .ok (.aload_n 1, 1) := by decide +kernel
theorem dX14_atomOf_3 : decode cX14_atomOf 3 = .ok (.getfield 171, 3) := by decide +kernel
theorem dX14_atomOf_6 : decode cX14_atomOf 6 = .ok (.iload_n 2, 1) := by decide +kernel
theorem dX14_atomOf_7 : decode cX14_atomOf 7 = .ok (.iaload, 1) := by decide +kernel
theorem dX14_atomOf_8 : decode cX14_atomOf 8 = .ok (.imul, 1) := by decide +kernel
theorem dX14_atomOf_9 : decode cX14_atomOf 9 = .ok (.bipush 10, 2) := by decide +kernel
theorem dX14_atomOf_11 : decode cX14_atomOf 11 = .ok (.aload_n 0, 1) := by decide +kernel
theorem dX14_atomOf_12 : decode cX14_atomOf 12 = .ok (.aload_n 1, 1) := by decide +kernel
theorem dX14_atomOf_13 : decode cX14_atomOf 13 = .ok (.getfield 173, 3) := by decide +kernel
theorem dX14_atomOf_16 : decode cX14_atomOf 16 = .ok (.iload_n 2, 1) := by decide +kernel
theorem dX14_atomOf_17 : decode cX14_atomOf 17 = .ok (.iaload, 1) := by decide +kernel
theorem dX14_atomOf_18 : decode cX14_atomOf 18 = .ok (.invokevirtual 266, 3) := by decide +kernel
theorem dX14_atomOf_21 : decode cX14_atomOf 21 = .ok (.imul, 1) := by decide +kernel
theorem dX14_atomOf_22 : decode cX14_atomOf 22 = .ok (.iadd, 1) := by decide +kernel
theorem dX14_atomOf_23 : decode cX14_atomOf 23 = .ok (.aload_n 0, 1) := by decide +kernel
theorem dX14_atomOf_24 : decode cX14_atomOf 24 = .ok (.aload_n 1, 1) := by decide +kernel
theorem dX14_atomOf_25 : decode cX14_atomOf 25 = .ok (.getfield 176, 3) := by decide +kernel
theorem dX14_atomOf_28 : decode cX14_atomOf 28 = .ok (.iload_n 2, 1) := by decide +kernel
theorem dX14_atomOf_29 : decode cX14_atomOf 29 = .ok (.iaload, 1) := by decide +kernel
theorem dX14_atomOf_30 : decode cX14_atomOf 30 = .ok (.invokevirtual 266, 3) := by decide +kernel
theorem dX14_atomOf_33 : decode cX14_atomOf 33 = .ok (.iadd, 1) := by decide +kernel
theorem dX14_atomOf_34 : decode cX14_atomOf 34 = .ok (.ireturn, 1) := by decide +kernel
theorem dX14_fits_0 : decode cX14_fits 0 = .ok (.iload_n 1, 1) := by decide +kernel
theorem dX14_fits_1 : decode cX14_fits 1 = .ok (.bipush 100, 2) := by decide +kernel
theorem dX14_fits_3 : decode cX14_fits 3 = .ok (.if_icmp .ge 31, 3) := by decide +kernel
theorem dX14_fits_6 : decode cX14_fits 6 = .ok (.iload_n 1, 1) := by decide +kernel
theorem dX14_fits_7 : decode cX14_fits 7 = .ok (.iconst (-1), 1) := by decide +kernel
theorem dX14_fits_8 : decode cX14_fits 8 = .ok (.if_icmp .ne 15, 3) := by decide +kernel
theorem dX14_fits_11 : decode cX14_fits 11 = .ok (.iload_n 2, 1) := by decide +kernel
theorem dX14_fits_12 : decode cX14_fits 12 = .ok (.ifCond .ne 7, 3) := by decide +kernel
theorem dX14_fits_15 : decode cX14_fits 15 = .ok (.iconst 1, 1) := by decide +kernel
theorem dX14_fits_16 : decode cX14_fits 16 = .ok (.goto 17, 3) := by decide +kernel
theorem dX14_fits_19 : decode cX14_fits 19 = .ok (.iconst 0, 1) := by decide +kernel
theorem dX14_fits_20 : decode cX14_fits 20 = .ok (.goto 13, 3) := by decide +kernel
theorem dX14_fits_23 : decode cX14_fits 23 = .ok (.iload_n 1, 1) := by decide +kernel
theorem dX14_fits_24 : decode cX14_fits 24 = .ok (.iload_n 2, 1) := by decide +kernel
theorem dX14_fits_25 : decode cX14_fits 25 = .ok (.if_icmp .ne 7, 3) := by decide +kernel
theorem dX14_fits_28 : decode cX14_fits 28 = .ok (.iconst 1, 1) := by decide +kernel
theorem dX14_fits_29 : decode cX14_fits 29 = .ok (.goto 4, 3) := by decide +kernel
theorem dX14_fits_32 : decode cX14_fits 32 = .ok (.iconst 0, 1) := by decide +kernel
theorem dX14_fits_33 : decode cX14_fits 33 = .ok (.ireturn, 1) := by decide +kernel
theorem dX14_fits_34 : decode cX14_fits 34 = .ok (.aload_n 0, 1) := by decide +kernel
theorem dX14_fits_35 : decode cX14_fits 35 = .ok (.getfield 66, 3) := by decide +kernel
theorem dX14_fits_38 : decode cX14_fits 38 = .ok (.iload_n 1, 1) := by decide +kernel
theorem dX14_fits_39 : decode cX14_fits 39 = .ok (.bipush 100, 2) := by decide +kernel
theorem dX14_fits_41 : decode cX14_fits 41 = .ok (.isub, 1) := by decide +kernel
theorem dX14_fits_42 : decode cX14_fits 42 = .ok (.iaload, 1) := by decide +kernel
theorem dX14_fits_43 : decode cX14_fits 43 = .ok (.iconst (-1), 1) := by decide +kernel
theorem dX14_fits_44 : decode cX14_fits 44 = .ok (.if_icmp .eq 16, 3) := by decide +kernel
theorem dX14_fits_47 : decode cX14_fits 47 = .ok (.aload_n 0, 1) := by decide +kernel
theorem dX14_fits_48 : decode cX14_fits 48 = .ok (.getfield 66, 3) := by decide +kernel
theorem dX14_fits_51 : decode cX14_fits 51 = .ok (.iload_n 1, 1) := by decide +kernel
theorem dX14_fits_52 : decode cX14_fits 52 = .ok (.bipush 100, 2) := by decide +kernel
theorem dX14_fits_54 : decode cX14_fits 54 = .ok (.isub, 1) := by decide +kernel
theorem dX14_fits_55 : decode cX14_fits 55 = .ok (.iaload, 1) := by decide +kernel
theorem dX14_fits_56 : decode cX14_fits 56 = .ok (.iload_n 2, 1) := by decide +kernel
theorem dX14_fits_57 : decode cX14_fits 57 = .ok (.if_icmp .ne 7, 3) := by decide +kernel
theorem dX14_fits_60 : decode cX14_fits 60 = .ok (.iconst 1, 1) := by decide +kernel
theorem dX14_fits_61 : decode cX14_fits 61 = .ok (.goto 4, 3) := by decide +kernel
theorem dX14_fits_64 : decode cX14_fits 64 = .ok (.iconst 0, 1) := by decide +kernel
theorem dX14_fits_65 : decode cX14_fits 65 = .ok (.ireturn, 1) := by decide +kernel
theorem dX14_goes_0 : decode cX14_goes 0 = .ok (.iload_n 2, 1) := by decide +kernel
theorem dX14_goes_1 : decode cX14_goes 1 = .ok (.aload_n 1, 1) := by decide +kernel
theorem dX14_goes_2 : decode cX14_goes 2 = .ok (.getfield 199, 3) := by decide +kernel
theorem dX14_goes_5 : decode cX14_goes 5 = .ok (.if_icmp .le 50, 3) := by decide +kernel
theorem dX14_goes_8 : decode cX14_goes 8 = .ok (.aload_n 0, 1) := by decide +kernel
theorem dX14_goes_9 : decode cX14_goes 9 = .ok (.aload_n 1, 1) := by decide +kernel
theorem dX14_goes_10 : decode cX14_goes 10 = .ok (.invokevirtual 269, 3) := by decide +kernel
theorem dX14_goes_13 : decode cX14_goes 13 = .ok (.ifCond .ne 4, 3) := by decide +kernel
theorem dX14_goes_16 : decode cX14_goes 16 = .ok (.return_, 1) := by decide +kernel
theorem dX14_goes_17 : decode cX14_goes 17 = .ok (.aload_n 0, 1) := by decide +kernel
theorem dX14_goes_18 : decode cX14_goes 18 = .ok (.aload_n 1, 1) := by decide +kernel
theorem dX14_goes_19 : decode cX14_goes 19 = .ok (.iconst 0, 1) := by decide +kernel
theorem dX14_goes_20 : decode cX14_goes 20 = .ok (.invokevirtual 273, 3) := by decide +kernel
theorem dX14_goes_23 : decode cX14_goes 23 = .ok (.istore 4, 2) := by decide +kernel
theorem dX14_goes_25 : decode cX14_goes 25 = .ok (.iload_n 3, 1) := by decide +kernel
theorem dX14_goes_26 : decode cX14_goes 26 = .ok (.iconst 1, 1) := by decide +kernel
theorem dX14_goes_27 : decode cX14_goes 27 = .ok (.iadd, 1) := by decide +kernel
theorem dX14_goes_28 : decode cX14_goes 28 = .ok (.aload_n 0, 1) := by decide +kernel
theorem dX14_goes_29 : decode cX14_goes 29 = .ok (.getfield 63, 3) := by decide +kernel
theorem dX14_goes_32 : decode cX14_goes 32 = .ok (.iload 4, 2) := by decide +kernel
theorem dX14_goes_34 : decode cX14_goes 34 = .ok (.iaload, 1) := by decide +kernel
theorem dX14_goes_35 : decode cX14_goes 35 = .ok (.if_icmp .lt 4, 3) := by decide +kernel
theorem dX14_goes_38 : decode cX14_goes 38 = .ok (.return_, 1) := by decide +kernel
theorem dX14_goes_39 : decode cX14_goes 39 = .ok (.aload_n 0, 1) := by decide +kernel
theorem dX14_goes_40 : decode cX14_goes 40 = .ok (.getfield 63, 3) := by decide +kernel
theorem dX14_goes_43 : decode cX14_goes 43 = .ok (.iload 4, 2) := by decide +kernel
theorem dX14_goes_45 : decode cX14_goes 45 = .ok (.iload_n 3, 1) := by decide +kernel
theorem dX14_goes_46 : decode cX14_goes 46 = .ok (.iconst 1, 1) := by decide +kernel
theorem dX14_goes_47 : decode cX14_goes 47 = .ok (.iadd, 1) := by decide +kernel
theorem dX14_goes_48 : decode cX14_goes 48 = .ok (.iastore, 1) := by decide +kernel
theorem dX14_goes_49 : decode cX14_goes 49 = .ok (.aload_n 0, 1) := by decide +kernel
theorem dX14_goes_50 : decode cX14_goes 50 = .ok (.iconst 1, 1) := by decide +kernel
theorem dX14_goes_51 : decode cX14_goes 51 = .ok (.putfield 254, 3) := by decide +kernel
theorem dX14_goes_54 : decode cX14_goes 54 = .ok (.return_, 1) := by decide +kernel
theorem dX14_goes_55 : decode cX14_goes 55 = .ok (.aload_n 1, 1) := by decide +kernel
theorem dX14_goes_56 : decode cX14_goes 56 = .ok (.getfield 169, 3) := by decide +kernel
theorem dX14_goes_59 : decode cX14_goes 59 = .ok (.iload_n 2, 1) := by decide +kernel
theorem dX14_goes_60 : decode cX14_goes 60 = .ok (.iaload, 1) := by decide +kernel
theorem dX14_goes_61 : decode cX14_goes 61 = .ok (.ifCond .eq 13, 3) := by decide +kernel
theorem dX14_goes_64 : decode cX14_goes 64 = .ok (.aload_n 0, 1) := by decide +kernel
theorem dX14_goes_65 : decode cX14_goes 65 = .ok (.aload_n 1, 1) := by decide +kernel
theorem dX14_goes_66 : decode cX14_goes 66 = .ok (.iload_n 2, 1) := by decide +kernel
theorem dX14_goes_67 : decode cX14_goes 67 = .ok (.iconst 1, 1) := by decide +kernel
theorem dX14_goes_68 : decode cX14_goes 68 = .ok (.iadd, 1) := by decide +kernel
theorem dX14_goes_69 : decode cX14_goes 69 = .ok (.iload_n 3, 1) := by decide +kernel
theorem dX14_goes_70 : decode cX14_goes 70 = .ok (.invokevirtual 262, 3) := by decide +kernel
theorem dX14_goes_73 : decode cX14_goes 73 = .ok (.return_, 1) := by decide +kernel
theorem dX14_goes_74 : decode cX14_goes 74 = .ok (.bipush 100, 2) := by decide +kernel
theorem dX14_goes_76 : decode cX14_goes 76 = .ok (.aload_n 1, 1) := by decide +kernel
theorem dX14_goes_77 : decode cX14_goes 77 = .ok (.getfield 171, 3) := by decide +kernel
theorem dX14_goes_80 : decode cX14_goes 80 = .ok (.iload_n 2, 1) := by decide +kernel
theorem dX14_goes_81 : decode cX14_goes 81 = .ok (.iaload, 1) := by decide +kernel
theorem dX14_goes_82 : decode cX14_goes 82 = .ok (.imul, 1) := by decide +kernel
theorem dX14_goes_83 : decode cX14_goes 83 = .ok (.istore 4, 2) := by decide +kernel
theorem dX14_goes_85 : decode cX14_goes 85 = .ok (.iload 4, 2) := by decide +kernel
theorem dX14_goes_87 : decode cX14_goes 87 = .ok (.bipush 100, 2) := by decide +kernel
theorem dX14_goes_89 : decode cX14_goes 89 = .ok (.aload_n 1, 1) := by decide +kernel
theorem dX14_goes_90 : decode cX14_goes 90 = .ok (.getfield 171, 3) := by decide +kernel
theorem dX14_goes_93 : decode cX14_goes 93 = .ok (.iload_n 2, 1) := by decide +kernel
theorem dX14_goes_94 : decode cX14_goes 94 = .ok (.iaload, 1) := by decide +kernel
theorem dX14_goes_95 : decode cX14_goes 95 = .ok (.imul, 1) := by decide +kernel
theorem dX14_goes_96 : decode cX14_goes 96 = .ok (.bipush 100, 2) := by decide +kernel
theorem dX14_goes_98 : decode cX14_goes 98 = .ok (.iadd, 1) := by decide +kernel
theorem dX14_goes_99 : decode cX14_goes 99 = .ok (.if_icmp .ge 273, 3) := by decide +kernel
theorem dX14_goes_102 : decode cX14_goes 102 = .ok (.aload_n 0, 1) := by decide +kernel
theorem dX14_goes_103 : decode cX14_goes 103 = .ok (.getfield 63, 3) := by decide +kernel
theorem dX14_goes_106 : decode cX14_goes 106 = .ok (.iload 4, 2) := by decide +kernel
theorem dX14_goes_108 : decode cX14_goes 108 = .ok (.iaload, 1) := by decide +kernel
theorem dX14_goes_109 : decode cX14_goes 109 = .ok (.ldc 253, 2) := by decide +kernel
theorem dX14_goes_111 : decode cX14_goes 111 = .ok (.if_icmp .ge 255, 3) := by decide +kernel
theorem dX14_goes_114 : decode cX14_goes 114 = .ok (.aload_n 0, 1) := by decide +kernel
theorem dX14_goes_115 : decode cX14_goes 115 = .ok (.aload_n 1, 1) := by decide +kernel
theorem dX14_goes_116 : decode cX14_goes 116 = .ok (.getfield 173, 3) := by decide +kernel
theorem dX14_goes_119 : decode cX14_goes 119 = .ok (.iload_n 2, 1) := by decide +kernel
theorem dX14_goes_120 : decode cX14_goes 120 = .ok (.iaload, 1) := by decide +kernel
theorem dX14_goes_121 : decode cX14_goes 121 = .ok (.iload 4, 2) := by decide +kernel
theorem dX14_goes_123 : decode cX14_goes 123 = .ok (.bipush 10, 2) := by decide +kernel
theorem dX14_goes_125 : decode cX14_goes 125 = .ok (.idiv, 1) := by decide +kernel
theorem dX14_goes_126 : decode cX14_goes 126 = .ok (.bipush 10, 2) := by decide +kernel
theorem dX14_goes_128 : decode cX14_goes 128 = .ok (.irem, 1) := by decide +kernel
theorem dX14_goes_129 : decode cX14_goes 129 = .ok (.invokevirtual 276, 3) := by decide +kernel
theorem dX14_goes_132 : decode cX14_goes 132 = .ok (.ifCond .eq 234, 3) := by decide +kernel
theorem dX14_goes_135 : decode cX14_goes 135 = .ok (.aload_n 0, 1) := by decide +kernel
theorem dX14_goes_136 : decode cX14_goes 136 = .ok (.aload_n 1, 1) := by decide +kernel
theorem dX14_goes_137 : decode cX14_goes 137 = .ok (.getfield 176, 3) := by decide +kernel
theorem dX14_goes_140 : decode cX14_goes 140 = .ok (.iload_n 2, 1) := by decide +kernel
theorem dX14_goes_141 : decode cX14_goes 141 = .ok (.iaload, 1) := by decide +kernel
theorem dX14_goes_142 : decode cX14_goes 142 = .ok (.iload 4, 2) := by decide +kernel
theorem dX14_goes_144 : decode cX14_goes 144 = .ok (.bipush 10, 2) := by decide +kernel
theorem dX14_goes_146 : decode cX14_goes 146 = .ok (.irem, 1) := by decide +kernel
theorem dX14_goes_147 : decode cX14_goes 147 = .ok (.invokevirtual 276, 3) := by decide +kernel
theorem dX14_goes_150 : decode cX14_goes 150 = .ok (.ifCond .ne 6, 3) := by decide +kernel
theorem dX14_goes_153 : decode cX14_goes 153 = .ok (.goto 213, 3) := by decide +kernel
theorem dX14_goes_156 : decode cX14_goes 156 = .ok (.aload_n 1, 1) := by decide +kernel
theorem dX14_goes_157 : decode cX14_goes 157 = .ok (.getfield 173, 3) := by decide +kernel
theorem dX14_goes_160 : decode cX14_goes 160 = .ok (.iload_n 2, 1) := by decide +kernel
theorem dX14_goes_161 : decode cX14_goes 161 = .ok (.iaload, 1) := by decide +kernel
theorem dX14_goes_162 : decode cX14_goes 162 = .ok (.bipush 100, 2) := by decide +kernel
theorem dX14_goes_164 : decode cX14_goes 164 = .ok (.if_icmp .lt 15, 3) := by decide +kernel
theorem dX14_goes_167 : decode cX14_goes 167 = .ok (.aload_n 1, 1) := by decide +kernel
theorem dX14_goes_168 : decode cX14_goes 168 = .ok (.getfield 173, 3) := by decide +kernel
theorem dX14_goes_171 : decode cX14_goes 171 = .ok (.iload_n 2, 1) := by decide +kernel
theorem dX14_goes_172 : decode cX14_goes 172 = .ok (.iaload, 1) := by decide +kernel
theorem dX14_goes_173 : decode cX14_goes 173 = .ok (.bipush 100, 2) := by decide +kernel
theorem dX14_goes_175 : decode cX14_goes 175 = .ok (.isub, 1) := by decide +kernel
theorem dX14_goes_176 : decode cX14_goes 176 = .ok (.goto 4, 3) := by decide +kernel
theorem dX14_goes_179 : decode cX14_goes 179 = .ok (.iconst (-1), 1) := by decide +kernel
theorem dX14_goes_180 : decode cX14_goes 180 = .ok (.istore 5, 2) := by decide +kernel
theorem dX14_goes_182 : decode cX14_goes 182 = .ok (.aload_n 1, 1) := by decide +kernel
theorem dX14_goes_183 : decode cX14_goes 183 = .ok (.getfield 176, 3) := by decide +kernel
theorem dX14_goes_186 : decode cX14_goes 186 = .ok (.iload_n 2, 1) := by decide +kernel
theorem dX14_goes_187 : decode cX14_goes 187 = .ok (.iaload, 1) := by decide +kernel
theorem dX14_goes_188 : decode cX14_goes 188 = .ok (.bipush 100, 2) := by decide +kernel
theorem dX14_goes_190 : decode cX14_goes 190 = .ok (.if_icmp .lt 15, 3) := by decide +kernel
theorem dX14_goes_193 : decode cX14_goes 193 = .ok (.aload_n 1, 1) := by decide +kernel
theorem dX14_goes_194 : decode cX14_goes 194 = .ok (.getfield 176, 3) := by decide +kernel
theorem dX14_goes_197 : decode cX14_goes 197 = .ok (.iload_n 2, 1) := by decide +kernel
theorem dX14_goes_198 : decode cX14_goes 198 = .ok (.iaload, 1) := by decide +kernel
theorem dX14_goes_199 : decode cX14_goes 199 = .ok (.bipush 100, 2) := by decide +kernel
theorem dX14_goes_201 : decode cX14_goes 201 = .ok (.isub, 1) := by decide +kernel
theorem dX14_goes_202 : decode cX14_goes 202 = .ok (.goto 4, 3) := by decide +kernel
theorem dX14_goes_205 : decode cX14_goes 205 = .ok (.iconst (-1), 1) := by decide +kernel
theorem dX14_goes_206 : decode cX14_goes 206 = .ok (.istore 6, 2) := by decide +kernel
theorem dX14_goes_208 : decode cX14_goes 208 = .ok (.iload 5, 2) := by decide +kernel
theorem dX14_goes_210 : decode cX14_goes 210 = .ok (.iconst (-1), 1) := by decide +kernel
theorem dX14_goes_211 : decode cX14_goes 211 = .ok (.if_icmp .eq 29, 3) := by decide +kernel
theorem dX14_goes_214 : decode cX14_goes 214 = .ok (.iload 5, 2) := by decide +kernel
theorem dX14_goes_216 : decode cX14_goes 216 = .ok (.iload 6, 2) := by decide +kernel
theorem dX14_goes_218 : decode cX14_goes 218 = .ok (.if_icmp .ne 22, 3) := by decide +kernel
theorem dX14_goes_221 : decode cX14_goes 221 = .ok (.iload 4, 2) := by decide +kernel
theorem dX14_goes_223 : decode cX14_goes 223 = .ok (.bipush 10, 2) := by decide +kernel
theorem dX14_goes_225 : decode cX14_goes 225 = .ok (.idiv, 1) := by decide +kernel
theorem dX14_goes_226 : decode cX14_goes 226 = .ok (.bipush 10, 2) := by decide +kernel
theorem dX14_goes_228 : decode cX14_goes 228 = .ok (.irem, 1) := by decide +kernel
theorem dX14_goes_229 : decode cX14_goes 229 = .ok (.iload 4, 2) := by decide +kernel
theorem dX14_goes_231 : decode cX14_goes 231 = .ok (.bipush 10, 2) := by decide +kernel
theorem dX14_goes_233 : decode cX14_goes 233 = .ok (.irem, 1) := by decide +kernel
theorem dX14_goes_234 : decode cX14_goes 234 = .ok (.if_icmp .eq 6, 3) := by decide +kernel
theorem dX14_goes_237 : decode cX14_goes 237 = .ok (.goto 129, 3) := by decide +kernel
theorem dX14_goes_240 : decode cX14_goes 240 = .ok (.iload 5, 2) := by decide +kernel
theorem dX14_goes_242 : decode cX14_goes 242 = .ok (.iconst (-1), 1) := by decide +kernel
theorem dX14_goes_243 : decode cX14_goes 243 = .ok (.if_icmp .ne 7, 3) := by decide +kernel
theorem dX14_goes_246 : decode cX14_goes 246 = .ok (.iconst 0, 1) := by decide +kernel
theorem dX14_goes_247 : decode cX14_goes 247 = .ok (.goto 10, 3) := by decide +kernel
theorem dX14_goes_250 : decode cX14_goes 250 = .ok (.aload_n 0, 1) := by decide +kernel
theorem dX14_goes_251 : decode cX14_goes 251 = .ok (.getfield 66, 3) := by decide +kernel
theorem dX14_goes_254 : decode cX14_goes 254 = .ok (.iload 5, 2) := by decide +kernel
theorem dX14_goes_256 : decode cX14_goes 256 = .ok (.iaload, 1) := by decide +kernel
theorem dX14_goes_257 : decode cX14_goes 257 = .ok (.istore 7, 2) := by decide +kernel
theorem dX14_goes_259 : decode cX14_goes 259 = .ok (.iload 6, 2) := by decide +kernel
theorem dX14_goes_261 : decode cX14_goes 261 = .ok (.iconst (-1), 1) := by decide +kernel
theorem dX14_goes_262 : decode cX14_goes 262 = .ok (.if_icmp .ne 7, 3) := by decide +kernel
theorem dX14_goes_265 : decode cX14_goes 265 = .ok (.iconst 0, 1) := by decide +kernel
theorem dX14_goes_266 : decode cX14_goes 266 = .ok (.goto 10, 3) := by decide +kernel
theorem dX14_goes_269 : decode cX14_goes 269 = .ok (.aload_n 0, 1) := by decide +kernel
theorem dX14_goes_270 : decode cX14_goes 270 = .ok (.getfield 66, 3) := by decide +kernel
theorem dX14_goes_273 : decode cX14_goes 273 = .ok (.iload 6, 2) := by decide +kernel
theorem dX14_goes_275 : decode cX14_goes 275 = .ok (.iaload, 1) := by decide +kernel
theorem dX14_goes_276 : decode cX14_goes 276 = .ok (.istore 8, 2) := by decide +kernel
theorem dX14_goes_278 : decode cX14_goes 278 = .ok (.iload 5, 2) := by decide +kernel
theorem dX14_goes_280 : decode cX14_goes 280 = .ok (.iconst (-1), 1) := by decide +kernel
theorem dX14_goes_281 : decode cX14_goes 281 = .ok (.if_icmp .eq 18, 3) := by decide +kernel
theorem dX14_goes_284 : decode cX14_goes 284 = .ok (.aload_n 0, 1) := by decide +kernel
theorem dX14_goes_285 : decode cX14_goes 285 = .ok (.getfield 66, 3) := by decide +kernel
theorem dX14_goes_288 : decode cX14_goes 288 = .ok (.iload 5, 2) := by decide +kernel
theorem dX14_goes_290 : decode cX14_goes 290 = .ok (.iload 4, 2) := by decide +kernel
theorem dX14_goes_292 : decode cX14_goes 292 = .ok (.bipush 10, 2) := by decide +kernel
theorem dX14_goes_294 : decode cX14_goes 294 = .ok (.idiv, 1) := by decide +kernel
theorem dX14_goes_295 : decode cX14_goes 295 = .ok (.bipush 10, 2) := by decide +kernel
theorem dX14_goes_297 : decode cX14_goes 297 = .ok (.irem, 1) := by decide +kernel
theorem dX14_goes_298 : decode cX14_goes 298 = .ok (.iastore, 1) := by decide +kernel
theorem dX14_goes_299 : decode cX14_goes 299 = .ok (.iload 6, 2) := by decide +kernel
theorem dX14_goes_301 : decode cX14_goes 301 = .ok (.iconst (-1), 1) := by decide +kernel
theorem dX14_goes_302 : decode cX14_goes 302 = .ok (.if_icmp .eq 15, 3) := by decide +kernel
theorem dX14_goes_305 : decode cX14_goes 305 = .ok (.aload_n 0, 1) := by decide +kernel
theorem dX14_goes_306 : decode cX14_goes 306 = .ok (.getfield 66, 3) := by decide +kernel
theorem dX14_goes_309 : decode cX14_goes 309 = .ok (.iload 6, 2) := by decide +kernel
theorem dX14_goes_311 : decode cX14_goes 311 = .ok (.iload 4, 2) := by decide +kernel
theorem dX14_goes_313 : decode cX14_goes 313 = .ok (.bipush 10, 2) := by decide +kernel
theorem dX14_goes_315 : decode cX14_goes 315 = .ok (.irem, 1) := by decide +kernel
theorem dX14_goes_316 : decode cX14_goes 316 = .ok (.iastore, 1) := by decide +kernel
theorem dX14_goes_317 : decode cX14_goes 317 = .ok (.aload_n 0, 1) := by decide +kernel
theorem dX14_goes_318 : decode cX14_goes 318 = .ok (.aload_n 1, 1) := by decide +kernel
theorem dX14_goes_319 : decode cX14_goes 319 = .ok (.iload_n 2, 1) := by decide +kernel
theorem dX14_goes_320 : decode cX14_goes 320 = .ok (.iconst 1, 1) := by decide +kernel
theorem dX14_goes_321 : decode cX14_goes 321 = .ok (.iadd, 1) := by decide +kernel
theorem dX14_goes_322 : decode cX14_goes 322 = .ok (.iload_n 3, 1) := by decide +kernel
theorem dX14_goes_323 : decode cX14_goes 323 = .ok (.aload_n 0, 1) := by decide +kernel
theorem dX14_goes_324 : decode cX14_goes 324 = .ok (.getfield 63, 3) := by decide +kernel
theorem dX14_goes_327 : decode cX14_goes 327 = .ok (.iload 4, 2) := by decide +kernel
theorem dX14_goes_329 : decode cX14_goes 329 = .ok (.iaload, 1) := by decide +kernel
theorem dX14_goes_330 : decode cX14_goes 330 = .ok (.invokestatic 205, 3) := by decide +kernel
theorem dX14_goes_333 : decode cX14_goes 333 = .ok (.invokevirtual 262, 3) := by decide +kernel
theorem dX14_goes_336 : decode cX14_goes 336 = .ok (.iload 6, 2) := by decide +kernel
theorem dX14_goes_338 : decode cX14_goes 338 = .ok (.iconst (-1), 1) := by decide +kernel
theorem dX14_goes_339 : decode cX14_goes 339 = .ok (.if_icmp .eq 12, 3) := by decide +kernel
theorem dX14_goes_342 : decode cX14_goes 342 = .ok (.aload_n 0, 1) := by decide +kernel
theorem dX14_goes_343 : decode cX14_goes 343 = .ok (.getfield 66, 3) := by decide +kernel
theorem dX14_goes_346 : decode cX14_goes 346 = .ok (.iload 6, 2) := by decide +kernel
theorem dX14_goes_348 : decode cX14_goes 348 = .ok (.iload 8, 2) := by decide +kernel
theorem dX14_goes_350 : decode cX14_goes 350 = .ok (.iastore, 1) := by decide +kernel
theorem dX14_goes_351 : decode cX14_goes 351 = .ok (.iload 5, 2) := by decide +kernel
theorem dX14_goes_353 : decode cX14_goes 353 = .ok (.iconst (-1), 1) := by decide +kernel
theorem dX14_goes_354 : decode cX14_goes 354 = .ok (.if_icmp .eq 12, 3) := by decide +kernel
theorem dX14_goes_357 : decode cX14_goes 357 = .ok (.aload_n 0, 1) := by decide +kernel
theorem dX14_goes_358 : decode cX14_goes 358 = .ok (.getfield 66, 3) := by decide +kernel
theorem dX14_goes_361 : decode cX14_goes 361 = .ok (.iload 5, 2) := by decide +kernel
theorem dX14_goes_363 : decode cX14_goes 363 = .ok (.iload 7, 2) := by decide +kernel
theorem dX14_goes_365 : decode cX14_goes 365 = .ok (.iastore, 1) := by decide +kernel
theorem dX14_goes_366 : decode cX14_goes 366 = .ok (.iinc 4 1, 3) := by decide +kernel
theorem dX14_goes_369 : decode cX14_goes 369 = .ok (.goto (-284), 3) := by decide +kernel
theorem dX14_goes_372 : decode cX14_goes 372 = .ok (.return_, 1) := by decide +kernel
theorem dX14_hold_0 : decode cX14_hold 0 = .ok (.iconst 1, 1) := by decide +kernel
theorem dX14_hold_1 : decode cX14_hold 1 = .ok (.istore_n 2, 1) := by decide +kernel
theorem dX14_hold_2 : decode cX14_hold 2 = .ok (.iconst 1, 1) := by decide +kernel
theorem dX14_hold_3 : decode cX14_hold 3 = .ok (.istore_n 3, 1) := by decide +kernel
theorem dX14_hold_4 : decode cX14_hold 4 = .ok (.iload_n 3, 1) := by decide +kernel
