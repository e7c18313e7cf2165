theorem dX0_init_0 : decode cX0_init 0 = .ok (.aload_n 0, 1) := by decide +kernel
theorem dX0_init_1 : decode cX0_init 1 = .ok (.invokespecial 3, 3) := by decide +kernel
theorem dX0_init_4 : decode cX0_init 4 = .ok (.aload_n 0, 1) := by decide +kernel
theorem dX0_init_5 : decode cX0_init 5 = .ok (.bipush 30, 2) := by decide +kernel
theorem dX0_init_7 : decode cX0_init 7 = .ok (.newarray .int, 2) := by decide +kernel
theorem dX0_init_9 : decode cX0_init 9 = .ok (.putfield 9, 3) := by decide +kernel
theorem dX0_init_12 : decode cX0_init 12 = .ok (.aload_n 0, 1) := by decide +kernel
theorem dX0_init_13 : decode cX0_init 13 = .ok (.bipush 6, 2) := by decide +kernel
theorem dX0_init_15 : decode cX0_init 15 = .ok (.newarray .int, 2) := by decide +kernel
theorem dX0_init_17 : decode cX0_init 17 = .ok (.putfield 15, 3) := by decide +kernel
theorem dX0_init_20 : decode cX0_init 20 = .ok (.aload_n 0, 1) := by decide +kernel
theorem dX0_init_21 : decode cX0_init 21 = .ok (.iconst 0, 1) := by decide +kernel
theorem dX0_init_22 : decode cX0_init 22 = .ok (.putfield 18, 3) := by decide +kernel
theorem dX0_init_25 : decode cX0_init 25 = .ok (.return_, 1) := by decide +kernel
theorem dX0_append_0 : decode cX0_append 0 = .ok (.iload_n 3, 1) := by decide +kernel
theorem dX0_append_1 : decode cX0_append 1 = .ok (.iconst 1, 1) := by decide +kernel
theorem dX0_append_2 : decode cX0_append 2 = .ok (.isub, 1) := by decide +kernel
theorem dX0_append_3 : decode cX0_append 3 = .ok (.istore 4, 2) := by decide +kernel
theorem dX0_append_5 : decode cX0_append 5 = .ok (.iload 4, 2) := by decide +kernel
theorem dX0_append_7 : decode cX0_append 7 = .ok (.ifCond .lt 40, 3) := by decide +kernel
theorem dX0_append_10 : decode cX0_append 10 = .ok (.aload_n 0, 1) := by decide +kernel
theorem dX0_append_11 : decode cX0_append 11 = .ok (.getfield 9, 3) := by decide +kernel
theorem dX0_append_14 : decode cX0_append 14 = .ok (.aload_n 0, 1) := by decide +kernel
theorem dX0_append_15 : decode cX0_append 15 = .ok (.getfield 18, 3) := by decide +kernel
theorem dX0_append_18 : decode cX0_append 18 = .ok (.lload_n 1, 1) := by decide +kernel
theorem dX0_append_19 : decode cX0_append 19 = .ok (.bipush 8, 2) := by decide +kernel
theorem dX0_append_21 : decode cX0_append 21 = .ok (.iload 4, 2) := by decide +kernel
theorem dX0_append_23 : decode cX0_append 23 = .ok (.imul, 1) := by decide +kernel
theorem dX0_append_24 : decode cX0_append 24 = .ok (.lushr, 1) := by decide +kernel
theorem dX0_append_25 : decode cX0_append 25 = .ok (.l2i, 1) := by decide +kernel
theorem dX0_append_26 : decode cX0_append 26 = .ok (.sipush 255, 3) := by decide +kernel
theorem dX0_append_29 : decode cX0_append 29 = .ok (.iand, 1) := by decide +kernel
theorem dX0_append_30 : decode cX0_append 30 = .ok (.iastore, 1) := by decide +kernel
theorem dX0_append_31 : decode cX0_append 31 = .ok (.aload_n 0, 1) := by decide +kernel
theorem dX0_append_32 : decode cX0_append 32 = .ok (.dup, 1) := by decide +kernel
theorem dX0_append_33 : decode cX0_append 33 = .ok (.getfield 18, 3) := by decide +kernel
theorem dX0_append_36 : decode cX0_append 36 = .ok (.iconst 1, 1) := by decide +kernel
theorem dX0_append_37 : decode cX0_append 37 = .ok (.iadd, 1) := by decide +kernel
theorem dX0_append_38 : decode cX0_append 38 = .ok (.putfield 18, 3) := by decide +kernel
theorem dX0_append_41 : decode cX0_append 41 = .ok (.iinc 4 (-1), 3) := by decide +kernel
theorem dX0_append_44 : decode cX0_append 44 = .ok (.goto (-39), 3) := by decide +kernel
theorem dX0_append_47 : decode cX0_append 47 = .ok (.return_, 1) := by decide +kernel
theorem dX0_read_0 : decode cX0_read 0 = .ok (.iconst 0, 1) := by decide +kernel
theorem dX0_read_1 : decode cX0_read 1 = .ok (.istore_n 1, 1) := by decide +kernel
theorem dX0_read_2 : decode cX0_read 2 = .ok (.iload_n 1, 1) := by decide +kernel
theorem dX0_read_3 : decode cX0_read 3 = .ok (.bipush 6, 2) := by decide +kernel
theorem dX0_read_5 : decode cX0_read 5 = .ok (.if_icmp .ge 16, 3) := by decide +kernel
theorem dX0_read_8 : decode cX0_read 8 = .ok (.aload_n 0, 1) := by decide +kernel
theorem dX0_read_9 : decode cX0_read 9 = .ok (.getfield 15, 3) := by decide +kernel
theorem dX0_read_12 : decode cX0_read 12 = .ok (.iload_n 1, 1) := by decide +kernel
theorem dX0_read_13 : decode cX0_read 13 = .ok (.iconst 0, 1) := by decide +kernel
theorem dX0_read_14 : decode cX0_read 14 = .ok (.iastore, 1) := by decide +kernel
theorem dX0_read_15 : decode cX0_read 15 = .ok (.iinc 1 1, 3) := by decide +kernel
theorem dX0_read_18 : decode cX0_read 18 = .ok (.goto (-16), 3) := by decide +kernel
theorem dX0_read_21 : decode cX0_read 21 = .ok (.iconst (-1), 1) := by decide +kernel
theorem dX0_read_22 : decode cX0_read 22 = .ok (.istore_n 1, 1) := by decide +kernel
theorem dX0_read_23 : decode cX0_read 23 = .ok (.iconst 0, 1) := by decide +kernel
theorem dX0_read_24 : decode cX0_read 24 = .ok (.istore_n 2, 1) := by decide +kernel
theorem dX0_read_25 : decode cX0_read 25 = .ok (.iconst 0, 1) := by decide +kernel
theorem dX0_read_26 : decode cX0_read 26 = .ok (.istore_n 3, 1) := by decide +kernel
theorem dX0_read_27 : decode cX0_read 27 = .ok (.iload_n 3, 1) := by decide +kernel
theorem dX0_read_28 : decode cX0_read 28 = .ok (.aload_n 0, 1) := by decide +kernel
theorem dX0_read_29 : decode cX0_read 29 = .ok (.getfield 18, 3) := by decide +kernel
theorem dX0_read_32 : decode cX0_read 32 = .ok (.if_icmp .ge 95, 3) := by decide +kernel
theorem dX0_read_35 : decode cX0_read 35 = .ok (.aload_n 0, 1) := by decide +kernel
theorem dX0_read_36 : decode cX0_read 36 = .ok (.getfield 9, 3) := by decide +kernel
theorem dX0_read_39 : decode cX0_read 39 = .ok (.iload_n 3, 1) := by decide +kernel
theorem dX0_read_40 : decode cX0_read 40 = .ok (.iaload, 1) := by decide +kernel
theorem dX0_read_41 : decode cX0_read 41 = .ok (.istore 4, 2) := by decide +kernel
theorem dX0_read_43 : decode cX0_read 43 = .ok (.iload 4, 2) := by decide +kernel
theorem dX0_read_45 : decode cX0_read 45 = .ok (.bipush 48, 2) := by decide +kernel
theorem dX0_read_47 : decode cX0_read 47 = .ok (.if_icmp .lt 37, 3) := by decide +kernel
theorem dX0_read_50 : decode cX0_read 50 = .ok (.iload 4, 2) := by decide +kernel
theorem dX0_read_52 : decode cX0_read 52 = .ok (.bipush 57, 2) := by decide +kernel
theorem dX0_read_54 : decode cX0_read 54 = .ok (.if_icmp .gt 30, 3) := by decide +kernel
theorem dX0_read_57 : decode cX0_read 57 = .ok (.iload_n 1, 1) := by decide +kernel
theorem dX0_read_58 : decode cX0_read 58 = .ok (.invokestatic 22, 3) := by decide +kernel
theorem dX0_read_61 : decode cX0_read 61 = .ok (.ifCond .eq 16, 3) := by decide +kernel
theorem dX0_read_64 : decode cX0_read 64 = .ok (.aload_n 0, 1) := by decide +kernel
theorem dX0_read_65 : decode cX0_read 65 = .ok (.iload_n 1, 1) := by decide +kernel
theorem dX0_read_66 : decode cX0_read 66 = .ok (.iload 4, 2) := by decide +kernel
theorem dX0_read_68 : decode cX0_read 68 = .ok (.bipush 48, 2) := by decide +kernel
theorem dX0_read_70 : decode cX0_read 70 = .ok (.isub, 1) := by decide +kernel
theorem dX0_read_71 : decode cX0_read 71 = .ok (.invokevirtual 26, 3) := by decide +kernel
theorem dX0_read_74 : decode cX0_read 74 = .ok (.ifCond .ne 5, 3) := by decide +kernel
theorem dX0_read_77 : decode cX0_read 77 = .ok (.iload_n 3, 1) := by decide +kernel
theorem dX0_read_78 : decode cX0_read 78 = .ok (.ireturn, 1) := by decide +kernel
theorem dX0_read_79 : decode cX0_read 79 = .ok (.iconst 0, 1) := by decide +kernel
theorem dX0_read_80 : decode cX0_read 80 = .ok (.istore_n 2, 1) := by decide +kernel
theorem dX0_read_81 : decode cX0_read 81 = .ok (.goto 40, 3) := by decide +kernel
theorem dX0_read_84 : decode cX0_read 84 = .ok (.iload 4, 2) := by decide +kernel
theorem dX0_read_86 : decode cX0_read 86 = .ok (.invokestatic 30, 3) := by decide +kernel
theorem dX0_read_89 : decode cX0_read 89 = .ok (.istore_n 1, 1) := by decide +kernel
theorem dX0_read_90 : decode cX0_read 90 = .ok (.iload_n 2, 1) := by decide +kernel
theorem dX0_read_91 : decode cX0_read 91 = .ok (.ifCond .ne 8, 3) := by decide +kernel
theorem dX0_read_94 : decode cX0_read 94 = .ok (.iload_n 1, 1) := by decide +kernel
theorem dX0_read_95 : decode cX0_read 95 = .ok (.iconst (-1), 1) := by decide +kernel
theorem dX0_read_96 : decode cX0_read 96 = .ok (.if_icmp .ne 5, 3) := by decide +kernel
theorem dX0_read_99 : decode cX0_read 99 = .ok (.iload_n 3, 1) := by decide +kernel
theorem dX0_read_100 : decode cX0_read 100 = .ok (.ireturn, 1) := by decide +kernel
theorem dX0_read_101 : decode cX0_read 101 = .ok (.iload_n 1, 1) := by decide +kernel
theorem dX0_read_102 : decode cX0_read 102 = .ok (.invokestatic 22, 3) := by decide +kernel
theorem dX0_read_105 : decode cX0_read 105 = .ok (.istore_n 2, 1) := by decide +kernel
theorem dX0_read_106 : decode cX0_read 106 = .ok (.aload_n 0, 1) := by decide +kernel
theorem dX0_read_107 : decode cX0_read 107 = .ok (.getfield 15, 3) := by decide +kernel
theorem dX0_read_110 : decode cX0_read 110 = .ok (.iload_n 1, 1) := by decide +kernel
theorem dX0_read_111 : decode cX0_read 111 = .ok (.iload_n 2, 1) := by decide +kernel
theorem dX0_read_112 : decode cX0_read 112 = .ok (.ifCond .eq 7, 3) := by decide +kernel
theorem dX0_read_115 : decode cX0_read 115 = .ok (.iconst 0, 1) := by decide +kernel
theorem dX0_read_116 : decode cX0_read 116 = .ok (.goto 4, 3) := by decide +kernel
theorem dX0_read_119 : decode cX0_read 119 = .ok (.iconst 1, 1) := by decide +kernel
theorem dX0_read_120 : decode cX0_read 120 = .ok (.iastore, 1) := by decide +kernel
theorem dX0_read_121 : decode cX0_read 121 = .ok (.iinc 3 1, 3) := by decide +kernel
theorem dX0_read_124 : decode cX0_read 124 = .ok (.goto (-97), 3) := by decide +kernel
theorem dX0_read_127 : decode cX0_read 127 = .ok (.iload_n 2, 1) := by decide +kernel
theorem dX0_read_128 : decode cX0_read 128 = .ok (.ifCond .eq 10, 3) := by decide +kernel
theorem dX0_read_131 : decode cX0_read 131 = .ok (.aload_n 0, 1) := by decide +kernel
theorem dX0_read_132 : decode cX0_read 132 = .ok (.getfield 18, 3) := by decide +kernel
theorem dX0_read_135 : decode cX0_read 135 = .ok (.goto 4, 3) := by decide +kernel
theorem dX0_read_138 : decode cX0_read 138 = .ok (.iconst (-1), 1) := by decide +kernel
theorem dX0_read_139 : decode cX0_read 139 = .ok (.ireturn, 1) := by decide +kernel
theorem dX0_takesNumber_0 : decode cX0_takesNumber 0 = .ok (.iload_n 0, 1) := by decide +kernel
theorem dX0_takesNumber_1 : decode cX0_takesNumber 1 = .ok (.ifCond .lt 12, 3) := by decide +kernel
theorem dX0_takesNumber_4 : decode cX0_takesNumber 4 = .ok (.iload_n 0, 1) := by decide +kernel
theorem dX0_takesNumber_5 : decode cX0_takesNumber 5 = .ok (.iconst 2, 1) := by decide +kernel
theorem dX0_takesNumber_6 : decode cX0_takesNumber 6 = .ok (.if_icmp .gt 7, 3) := by decide +kernel
theorem dX0_takesNumber_9 : decode cX0_takesNumber 9 = .ok (.iconst 1, 1) := by decide +kernel
theorem dX0_takesNumber_10 : decode cX0_takesNumber 10 = .ok (.goto 4, 3) := by decide +kernel
theorem dX0_takesNumber_13 : decode cX0_takesNumber 13 = .ok (.iconst 0, 1) := by decide +kernel
theorem dX0_takesNumber_14 : decode cX0_takesNumber 14 = .ok (.ireturn, 1) := by decide +kernel
theorem dX0_addDigit_0 : decode cX0_addDigit 0 = .ok (.aload_n 0, 1) := by decide +kernel
theorem dX0_addDigit_1 : decode cX0_addDigit 1 = .ok (.getfield 15, 3) := by decide +kernel
theorem dX0_addDigit_4 : decode cX0_addDigit 4 = .ok (.iload_n 1, 1) := by decide +kernel
theorem dX0_addDigit_5 : decode cX0_addDigit 5 = .ok (.bipush 10, 2) := by decide +kernel
theorem dX0_addDigit_7 : decode cX0_addDigit 7 = .ok (.aload_n 0, 1) := by decide +kernel
theorem dX0_addDigit_8 : decode cX0_addDigit 8 = .ok (.getfield 15, 3) := by decide +kernel
theorem dX0_addDigit_11 : decode cX0_addDigit 11 = .ok (.iload_n 1, 1) := by decide +kernel
theorem dX0_addDigit_12 : decode cX0_addDigit 12 = .ok (.iaload, 1) := by decide +kernel
theorem dX0_addDigit_13 : decode cX0_addDigit 13 = .ok (.imul, 1) := by decide +kernel
theorem dX0_addDigit_14 : decode cX0_addDigit 14 = .ok (.iload_n 2, 1) := by decide +kernel
theorem dX0_addDigit_15 : decode cX0_addDigit 15 = .ok (.iadd, 1) := by decide +kernel
theorem dX0_addDigit_16 : decode cX0_addDigit 16 = .ok (.iastore, 1) := by decide +kernel
theorem dX0_addDigit_17 : decode cX0_addDigit 17 = .ok (.aload_n 0, 1) := by decide +kernel
theorem dX0_addDigit_18 : decode cX0_addDigit 18 = .ok (.getfield 15, 3) := by decide +kernel
theorem dX0_addDigit_21 : decode cX0_addDigit 21 = .ok (.iload_n 1, 1) := by decide +kernel
theorem dX0_addDigit_22 : decode cX0_addDigit 22 = .ok (.iaload, 1) := by decide +kernel
theorem dX0_addDigit_23 : decode cX0_addDigit 23 = .ok (.sipush 999, 3) := by decide +kernel
theorem dX0_addDigit_26 : decode cX0_addDigit 26 = .ok (.if_icmp .gt 7, 3) := by decide +kernel
theorem dX0_addDigit_29 : decode cX0_addDigit 29 = .ok (.iconst 1, 1) := by decide +kernel
theorem dX0_addDigit_30 : decode cX0_addDigit 30 = .ok (.goto 4, 3) := by decide +kernel
theorem dX0_addDigit_33 : decode cX0_addDigit 33 = .ok (.iconst 0, 1) := by decide +kernel
theorem dX0_addDigit_34 : decode cX0_addDigit 34 = .ok (.ireturn, 1) := by decide +kernel
theorem dX0_termOf_0 : decode cX0_termOf 0 = .ok (.iload_n 0, 1) := by decide +kernel
theorem dX0_termOf_1 : decode cX0_termOf 1 = .ok (.lookupswitch 71 #[(98, 63), (100, 61), (104, 67), (108, 59), (119, 69), (120, 65)], 59) := by decide +kernel
theorem dX0_termOf_60 : decode cX0_termOf 60 = .ok (.iconst 0, 1) := by decide +kernel
theorem dX0_termOf_61 : decode cX0_termOf 61 = .ok (.ireturn, 1) := by decide +kernel
theorem dX0_termOf_62 : decode cX0_termOf 62 = .ok (.iconst 1, 1) := by decide +kernel
theorem dX0_termOf_63 : decode cX0_termOf 63 = .ok (.ireturn, 1) := by decide +kernel
theorem dX0_termOf_64 : decode cX0_termOf 64 = .ok (.iconst 2, 1) := by decide +kernel
theorem dX0_termOf_65 : decode cX0_termOf 65 = .ok (.ireturn, 1) := by decide +kernel
theorem dX0_termOf_66 : decode cX0_termOf 66 = .ok (.iconst 3, 1) := by decide +kernel
theorem dX0_termOf_67 : decode cX0_termOf 67 = .ok (.ireturn, 1) := by decide +kernel
theorem dX0_termOf_68 : decode cX0_termOf 68 = .ok (.iconst 4, 1) := by decide +kernel
theorem dX0_termOf_69 : decode cX0_termOf 69 = .ok (.ireturn, 1) := by decide +kernel
theorem dX0_termOf_70 : decode cX0_termOf 70 = .ok (.iconst 5, 1) := by decide +kernel
theorem dX0_termOf_71 : decode cX0_termOf 71 = .ok (.ireturn, 1) := by decide +kernel
theorem dX0_termOf_72 : decode cX0_termOf 72 = .ok (.iconst (-1), 1) := by decide +kernel
theorem dX0_termOf_73 : decode cX0_termOf 73 = .ok (.ireturn, 1) := by decide +kernel
theorem dX1_init_0 : decode cX1_init 0 = .ok (.aload_n 0, 1) := by decide +kernel
theorem dX1_init_1 : decode cX1_init 1 = .ok (.invokespecial 3, 3) := by decide +kernel
theorem dX1_init_4 : decode cX1_init 4 = .ok (.aload_n 0, 1) := by decide +kernel
theorem dX1_init_5 : decode cX1_init 5 = .ok (.bipush 6, 2) := by decide +kernel
theorem dX1_init_7 : decode cX1_init 7 = .ok (.newarray .int, 2) := by decide +kernel
theorem dX1_init_9 : decode cX1_init 9 = .ok (.putfield 9, 3) := by decide +kernel
theorem dX1_init_12 : decode cX1_init 12 = .ok (.aload_n 0, 1) := by decide +kernel
theorem dX1_init_13 : decode cX1_init 13 = .ok (.bipush 6, 2) := by decide +kernel
theorem dX1_init_15 : decode cX1_init 15 = .ok (.newarray .int, 2) := by decide +kernel
theorem dX1_init_17 : decode cX1_init 17 = .ok (.putfield 15, 3) := by decide +kernel
theorem dX1_init_20 : decode cX1_init 20 = .ok (.aload_n 0, 1) := by decide +kernel
theorem dX1_init_21 : decode cX1_init 21 = .ok (.iconst 0, 1) := by decide +kernel
theorem dX1_init_22 : decode cX1_init 22 = .ok (.putfield 18, 3) := by decide +kernel
theorem dX1_init_25 : decode cX1_init 25 = .ok (.return_, 1) := by decide +kernel
theorem dX1_has_0 : decode cX1_has 0 = .ok (.iload_n 1, 1) := by decide +kernel
theorem dX1_has_1 : decode cX1_has 1 = .ok (.ifCond .lt 15, 3) := by decide +kernel
theorem dX1_has_4 : decode cX1_has 4 = .ok (.iload_n 1, 1) := by decide +kernel
theorem dX1_has_5 : decode cX1_has 5 = .ok (.aload_n 0, 1) := by decide +kernel
theorem dX1_has_6 : decode cX1_has 6 = .ok (.getfield 18, 3) := by decide +kernel
theorem dX1_has_9 : decode cX1_has 9 = .ok (.if_icmp .ge 7, 3) := by decide +kernel
theorem dX1_has_12 : decode cX1_has 12 = .ok (.iconst 1, 1) := by decide +kernel
theorem dX1_has_13 : decode cX1_has 13 = .ok (.goto 4, 3) := by decide +kernel
theorem dX1_has_16 : decode cX1_has 16 = .ok (.iconst 0, 1) := by decide +kernel
theorem dX1_has_17 : decode cX1_has 17 = .ok (.ireturn, 1) := by decide +kernel
theorem dX1_lay_0 : decode cX1_lay 0 = .ok (.aload_n 0, 1) := by decide +kernel
theorem dX1_lay_1 : decode cX1_lay 1 = .ok (.getfield 9, 3) := by decide +kernel
theorem dX1_lay_4 : decode cX1_lay 4 = .ok (.aload_n 0, 1) := by decide +kernel
theorem dX1_lay_5 : decode cX1_lay 5 = .ok (.getfield 18, 3) := by decide +kernel
theorem dX1_lay_8 : decode cX1_lay 8 = .ok (.iload_n 1, 1) := by decide +kernel
theorem dX1_lay_9 : decode cX1_lay 9 = .ok (.iastore, 1) := by decide +kernel
theorem dX1_lay_10 : decode cX1_lay 10 = .ok (.aload_n 0, 1) := by decide +kernel
theorem dX1_lay_11 : decode cX1_lay 11 = .ok (.getfield 15, 3) := by decide +kernel
theorem dX1_lay_14 : decode cX1_lay 14 = .ok (.aload_n 0, 1) := by decide +kernel
theorem dX1_lay_15 : decode cX1_lay 15 = .ok (.getfield 18, 3) := by decide +kernel
theorem dX1_lay_18 : decode cX1_lay 18 = .ok (.iload_n 2, 1) := by decide +kernel
theorem dX1_lay_19 : decode cX1_lay 19 = .ok (.iastore, 1) := by decide +kernel
theorem dX1_lay_20 : decode cX1_lay 20 = .ok (.aload_n 0, 1) := by decide +kernel
theorem dX1_lay_21 : decode cX1_lay 21 = .ok (.dup, 1) := by decide +kernel
theorem dX1_lay_22 : decode cX1_lay 22 = .ok (.getfield 18, 3) := by decide +kernel
theorem dX1_lay_25 : decode cX1_lay 25 = .ok (.iconst 1, 1) := by decide +kernel
theorem dX1_lay_26 : decode cX1_lay 26 = .ok (.iadd, 1) := by decide +kernel
theorem dX1_lay_27 : decode cX1_lay 27 = .ok (.putfield 18, 3) := by decide +kernel
theorem dX1_lay_30 : decode cX1_lay 30 = .ok (.aload_n 0, 1) := by decide +kernel
theorem dX1_lay_31 : decode cX1_lay 31 = .ok (.getfield 18, 3) := by decide +kernel
theorem dX1_lay_34 : decode cX1_lay 34 = .ok (.iconst 1, 1) := by decide +kernel
theorem dX1_lay_35 : decode cX1_lay 35 = .ok (.isub, 1) := by decide +kernel
theorem dX1_lay_36 : decode cX1_lay 36 = .ok (.ireturn, 1) := by decide +kernel
theorem dX1_dig_0 : decode cX1_dig 0 = .ok (.iconst 0, 1) := by decide +kernel
theorem dX1_dig_1 : decode cX1_dig 1 = .ok (.istore_n 3, 1) := by decide +kernel
theorem dX1_dig_2 : decode cX1_dig 2 = .ok (.iconst 0, 1) := by decide +kernel
theorem dX1_dig_3 : decode cX1_dig 3 = .ok (.istore 4, 2) := by decide +kernel
theorem dX1_dig_5 : decode cX1_dig 5 = .ok (.iload 4, 2) := by decide +kernel
theorem dX1_dig_7 : decode cX1_dig 7 = .ok (.aload_n 0, 1) := by decide +kernel
theorem dX1_dig_8 : decode cX1_dig 8 = .ok (.getfield 18, 3) := by decide +kernel
theorem dX1_dig_11 : decode cX1_dig 11 = .ok (.if_icmp .ge 50, 3) := by decide +kernel
theorem dX1_dig_14 : decode cX1_dig 14 = .ok (.iload_n 1, 1) := by decide +kernel
theorem dX1_dig_15 : decode cX1_dig 15 = .ok (.iload_n 3, 1) := by decide +kernel
theorem dX1_dig_16 : decode cX1_dig 16 = .ok (.isub, 1) := by decide +kernel
theorem dX1_dig_17 : decode cX1_dig 17 = .ok (.aload_n 0, 1) := by decide +kernel
theorem dX1_dig_18 : decode cX1_dig 18 = .ok (.getfield 9, 3) := by decide +kernel
theorem dX1_dig_21 : decode cX1_dig 21 = .ok (.iload 4, 2) := by decide +kernel
theorem dX1_dig_23 : decode cX1_dig 23 = .ok (.iaload, 1) := by decide +kernel
theorem dX1_dig_24 : decode cX1_dig 24 = .ok (.invokestatic 22, 3) := by decide +kernel
theorem dX1_dig_27 : decode cX1_dig 27 = .ok (.istore 5, 2) := by decide +kernel
theorem dX1_dig_29 : decode cX1_dig 29 = .ok (.aload_n 0, 1) := by decide +kernel
theorem dX1_dig_30 : decode cX1_dig 30 = .ok (.getfield 9, 3) := by decide +kernel
theorem dX1_dig_33 : decode cX1_dig 33 = .ok (.iload 4, 2) := by decide +kernel
theorem dX1_dig_35 : decode cX1_dig 35 = .ok (.dup2, 1) := by decide +kernel
theorem dX1_dig_36 : decode cX1_dig 36 = .ok (.iaload, 1) := by decide +kernel
theorem dX1_dig_37 : decode cX1_dig 37 = .ok (.iload 5, 2) := by decide +kernel
theorem dX1_dig_39 : decode cX1_dig 39 = .ok (.isub, 1) := by decide +kernel
theorem dX1_dig_40 : decode cX1_dig 40 = .ok (.iastore, 1) := by decide +kernel
theorem dX1_dig_41 : decode cX1_dig 41 = .ok (.aload_n 2, 1) := by decide +kernel
theorem dX1_dig_42 : decode cX1_dig 42 = .ok (.iload 4, 2) := by decide +kernel
theorem dX1_dig_44 : decode cX1_dig 44 = .ok (.dup2, 1) := by decide +kernel
theorem dX1_dig_45 : decode cX1_dig 45 = .ok (.iaload, 1) := by decide +kernel
theorem dX1_dig_46 : decode cX1_dig 46 = .ok (.iload 5, 2) := by decide +kernel
theorem dX1_dig_48 : decode cX1_dig 48 = .ok (.iadd, 1) := by decide +kernel
theorem dX1_dig_49 : decode cX1_dig 49 = .ok (.iastore, 1) := by decide +kernel
theorem dX1_dig_50 : decode cX1_dig 50 = .ok (.iload_n 3, 1) := by decide +kernel
theorem dX1_dig_51 : decode cX1_dig 51 = .ok (.iload 5, 2) := by decide +kernel
theorem dX1_dig_53 : decode cX1_dig 53 = .ok (.iadd, 1) := by decide +kernel
theorem dX1_dig_54 : decode cX1_dig 54 = .ok (.istore_n 3, 1) := by decide +kernel
theorem dX1_dig_55 : decode cX1_dig 55 = .ok (.iinc 4 1, 3) := by decide +kernel
theorem dX1_dig_58 : decode cX1_dig 58 = .ok (.goto (-53), 3) := by decide +kernel
theorem dX1_dig_61 : decode cX1_dig 61 = .ok (.iload_n 3, 1) := by decide +kernel
theorem dX1_dig_62 : decode cX1_dig 62 = .ok (.ireturn, 1) := by decide +kernel
theorem dX1_worthOf_0 : decode cX1_worthOf 0 = .ok (.iconst 0, 1) := by decide +kernel
theorem dX1_worthOf_1 : decode cX1_worthOf 1 = .ok (.istore_n 2, 1) := by decide +kernel
theorem dX1_worthOf_2 : decode cX1_worthOf 2 = .ok (.iconst 0, 1) := by decide +kernel
theorem dX1_worthOf_3 : decode cX1_worthOf 3 = .ok (.istore_n 3, 1) := by decide +kernel
theorem dX1_worthOf_4 : decode cX1_worthOf 4 = .ok (.iload_n 3, 1) := by decide +kernel
theorem dX1_worthOf_5 : decode cX1_worthOf 5 = .ok (.aload_n 0, 1) := by decide +kernel
theorem dX1_worthOf_6 : decode cX1_worthOf 6 = .ok (.getfield 18, 3) := by decide +kernel
theorem dX1_worthOf_9 : decode cX1_worthOf 9 = .ok (.if_icmp .ge 22, 3) := by decide +kernel
theorem dX1_worthOf_12 : decode cX1_worthOf 12 = .ok (.iload_n 2, 1) := by decide +kernel
theorem dX1_worthOf_13 : decode cX1_worthOf 13 = .ok (.aload_n 1, 1) := by decide +kernel
theorem dX1_worthOf_14 : decode cX1_worthOf 14 = .ok (.iload_n 3, 1) := by decide +kernel
theorem dX1_worthOf_15 : decode cX1_worthOf 15 = .ok (.iaload, 1) := by decide +kernel
theorem dX1_worthOf_16 : decode cX1_worthOf 16 = .ok (.aload_n 0, 1) := by decide +kernel
theorem dX1_worthOf_17 : decode cX1_worthOf 17 = .ok (.getfield 15, 3) := by decide +kernel
theorem dX1_worthOf_20 : decode cX1_worthOf 20 = .ok (.iload_n 3, 1) := by decide +kernel
theorem dX1_worthOf_21 : decode cX1_worthOf 21 = .ok (.iaload, 1) := by decide +kernel
theorem dX1_worthOf_22 : decode cX1_worthOf 22 = .ok (.imul, 1) := by decide +kernel
theorem dX1_worthOf_23 : decode cX1_worthOf 23 = .ok (.iadd, 1) := by decide +kernel
theorem dX1_worthOf_24 : decode cX1_worthOf 24 = .ok (.istore_n 2, 1) := by decide +kernel
theorem dX1_worthOf_25 : decode cX1_worthOf 25 = .ok (.iinc 3 1, 3) := by decide +kernel
theorem dX1_worthOf_28 : decode cX1_worthOf 28 = .ok (.goto (-24), 3) := by decide +kernel
theorem dX1_worthOf_31 : decode cX1_worthOf 31 = .ok (.iload_n 2, 1) := by decide +kernel
theorem dX1_worthOf_32 : decode cX1_worthOf 32 = .ok (.ireturn, 1) := by decide +kernel
theorem dX1_sampleOf_0 : decode cX1_sampleOf 0 = .ok (.iconst 0, 1) := by decide +kernel
theorem dX1_sampleOf_1 : decode cX1_sampleOf 1 = .ok (.istore_n 3, 1) := by decide +kernel
theorem dX1_sampleOf_2 : decode cX1_sampleOf 2 = .ok (.iconst 0, 1) := by decide +kernel
theorem dX1_sampleOf_3 : decode cX1_sampleOf 3 = .ok (.istore 4, 2) := by decide +kernel
theorem dX1_sampleOf_5 : decode cX1_sampleOf 5 = .ok (.iconst 0, 1) := by decide +kernel
theorem dX1_sampleOf_6 : decode cX1_sampleOf 6 = .ok (.istore 5, 2) := by decide +kernel
theorem dX1_sampleOf_8 : decode cX1_sampleOf 8 = .ok (.iconst 0, 1) := by decide +kernel
theorem dX1_sampleOf_9 : decode cX1_sampleOf 9 = .ok (.istore 6, 2) := by decide +kernel
theorem dX1_sampleOf_11 : decode cX1_sampleOf 11 = .ok (.iload 6, 2) := by decide +kernel
theorem dX1_sampleOf_13 : decode cX1_sampleOf 13 = .ok (.aload_n 0, 1) := by decide +kernel
theorem dX1_sampleOf_14 : decode cX1_sampleOf 14 = .ok (.getfield 18, 3) := by decide +kernel
theorem dX1_sampleOf_17 : decode cX1_sampleOf 17 = .ok (.if_icmp .ge 52, 3) := by decide +kernel
theorem dX1_sampleOf_20 : decode cX1_sampleOf 20 = .ok (.iload_n 3, 1) := by decide +kernel
theorem dX1_sampleOf_21 : decode cX1_sampleOf 21 = .ok (.aload_n 1, 1) := by decide +kernel
theorem dX1_sampleOf_22 : decode cX1_sampleOf 22 = .ok (.iload 6, 2) := by decide +kernel
theorem dX1_sampleOf_24 : decode cX1_sampleOf 24 = .ok (.iaload, 1) := by decide +kernel
theorem dX1_sampleOf_25 : decode cX1_sampleOf 25 = .ok (.iadd, 1) := by decide +kernel
theorem dX1_sampleOf_26 : decode cX1_sampleOf 26 = .ok (.istore 7, 2) := by decide +kernel
theorem dX1_sampleOf_28 : decode cX1_sampleOf 28 = .ok (.iload 7, 2) := by decide +kernel
theorem dX1_sampleOf_30 : decode cX1_sampleOf 30 = .ok (.iload_n 2, 1) := by decide +kernel
theorem dX1_sampleOf_31 : decode cX1_sampleOf 31 = .ok (.idiv, 1) := by decide +kernel
theorem dX1_sampleOf_32 : decode cX1_sampleOf 32 = .ok (.iload_n 3, 1) := by decide +kernel
theorem dX1_sampleOf_33 : decode cX1_sampleOf 33 = .ok (.iload_n 2, 1) := by decide +kernel
theorem dX1_sampleOf_34 : decode cX1_sampleOf 34 = .ok (.idiv, 1) := by decide +kernel
theorem dX1_sampleOf_35 : decode cX1_sampleOf 35 = .ok (.isub, 1) := by decide +kernel
theorem dX1_sampleOf_36 : decode cX1_sampleOf 36 = .ok (.istore 8, 2) := by decide +kernel
theorem dX1_sampleOf_38 : decode cX1_sampleOf 38 = .ok (.iload 4, 2) := by decide +kernel
theorem dX1_sampleOf_40 : decode cX1_sampleOf 40 = .ok (.iload 8, 2) := by decide +kernel
theorem dX1_sampleOf_42 : decode cX1_sampleOf 42 = .ok (.aload_n 0, 1) := by decide +kernel
theorem dX1_sampleOf_43 : decode cX1_sampleOf 43 = .ok (.getfield 15, 3) := by decide +kernel
theorem dX1_sampleOf_46 : decode cX1_sampleOf 46 = .ok (.iload 6, 2) := by decide +kernel
theorem dX1_sampleOf_48 : decode cX1_sampleOf 48 = .ok (.iaload, 1) := by decide +kernel
theorem dX1_sampleOf_49 : decode cX1_sampleOf 49 = .ok (.imul, 1) := by decide +kernel
theorem dX1_sampleOf_50 : decode cX1_sampleOf 50 = .ok (.iadd, 1) := by decide +kernel
theorem dX1_sampleOf_51 : decode cX1_sampleOf 51 = .ok (.istore 4, 2) := by decide +kernel
theorem dX1_sampleOf_53 : decode cX1_sampleOf 53 = .ok (.iload 5, 2) := by decide +kernel
theorem dX1_sampleOf_55 : decode cX1_sampleOf 55 = .ok (.iload 8, 2) := by decide +kernel
theorem dX1_sampleOf_57 : decode cX1_sampleOf 57 = .ok (.iadd, 1) := by decide +kernel
theorem dX1_sampleOf_58 : decode cX1_sampleOf 58 = .ok (.istore 5, 2) := by decide +kernel
theorem dX1_sampleOf_60 : decode cX1_sampleOf 60 = .ok (.iload 7, 2) := by decide +kernel
theorem dX1_sampleOf_62 : decode cX1_sampleOf 62 = .ok (.istore_n 3, 1) := by decide +kernel
theorem dX1_sampleOf_63 : decode cX1_sampleOf 63 = .ok (.iinc 6 1, 3) := by decide +kernel
theorem dX1_sampleOf_66 : decode cX1_sampleOf 66 = .ok (.goto (-55), 3) := by decide +kernel
theorem dX1_sampleOf_69 : decode cX1_sampleOf 69 = .ok (.iload 5, 2) := by decide +kernel
theorem dX1_sampleOf_71 : decode cX1_sampleOf 71 = .ok (.ifCond .ne 8, 3) := by decide +kernel
theorem dX1_sampleOf_74 : decode cX1_sampleOf 74 = .ok (.bipush (-9), 2) := by decide +kernel
theorem dX1_sampleOf_76 : decode cX1_sampleOf 76 = .ok (.goto 8, 3) := by decide +kernel
theorem dX1_sampleOf_79 : decode cX1_sampleOf 79 = .ok (.iload 4, 2) := by decide +kernel
theorem dX1_sampleOf_81 : decode cX1_sampleOf 81 = .ok (.iload 5, 2) := by decide +kernel
theorem dX1_sampleOf_83 : decode cX1_sampleOf 83 = .ok (.idiv, 1) := by decide +kernel
theorem dX1_sampleOf_84 : decode cX1_sampleOf 84 = .ok (.ireturn, 1) := by decide +kernel
theorem dX2_init_0 : decode cX2_init 0 = .ok (.aload_n 0, 1) := by decide +kernel
theorem dX2_init_1 : decode cX2_init 1 = .ok (.invokespecial 3, 3) := by decide +kernel
theorem dX2_init_4 : decode cX2_init 4 = .ok (.aload_n 0, 1) := by decide +kernel
theorem dX2_init_5 : decode cX2_init 5 = .ok (.sipush 200, 3) := by decide +kernel
theorem dX2_init_8 : decode cX2_init 8 = .ok (.newarray .int, 2) := by decide +kernel
theorem dX2_init_10 : decode cX2_init 10 = .ok (.putfield 9, 3) := by decide +kernel
theorem dX2_init_13 : decode cX2_init 13 = .ok (.aload_n 0, 1) := by decide +kernel
theorem dX2_init_14 : decode cX2_init 14 = .ok (.sipush 200, 3) := by decide +kernel
theorem dX2_init_17 : decode cX2_init 17 = .ok (.newarray .int, 2) := by decide +kernel
theorem dX2_init_19 : decode cX2_init 19 = .ok (.putfield 15, 3) := by decide +kernel
theorem dX2_init_22 : decode cX2_init 22 = .ok (.aload_n 0, 1) := by decide +kernel
theorem dX2_init_23 : decode cX2_init 23 = .ok (.sipush 200, 3) := by decide +kernel
theorem dX2_init_26 : decode cX2_init 26 = .ok (.newarray .int, 2) := by decide +kernel
theorem dX2_init_28 : decode cX2_init 28 = .ok (.putfield 18, 3) := by decide +kernel
theorem dX2_init_31 : decode cX2_init 31 = .ok (.return_, 1) := by decide +kernel
theorem dX2_tell_0 : decode cX2_tell 0 = .ok (.aload_n 0, 1) := by decide +kernel
theorem dX2_tell_1 : decode cX2_tell 1 = .ok (.getfield 9, 3) := by decide +kernel
theorem dX2_tell_4 : decode cX2_tell 4 = .ok (.iload_n 1, 1) := by decide +kernel
theorem dX2_tell_5 : decode cX2_tell 5 = .ok (.iload_n 2, 1) := by decide +kernel
theorem dX2_tell_6 : decode cX2_tell 6 = .ok (.iastore, 1) := by decide +kernel
theorem dX2_tell_7 : decode cX2_tell 7 = .ok (.aload_n 0, 1) := by decide +kernel
theorem dX2_tell_8 : decode cX2_tell 8 = .ok (.getfield 15, 3) := by decide +kernel
theorem dX2_tell_11 : decode cX2_tell 11 = .ok (.iload_n 1, 1) := by decide +kernel
theorem dX2_tell_12 : decode cX2_tell 12 = .ok (.iload_n 3, 1) := by decide +kernel
theorem dX2_tell_13 : decode cX2_tell 13 = .ok (.iastore, 1) := by decide +kernel
theorem dX2_tell_14 : decode cX2_tell 14 = .ok (.aload_n 0, 1) := by decide +kernel
theorem dX2_tell_15 : decode cX2_tell 15 = .ok (.getfield 18, 3) := by decide +kernel
theorem dX2_tell_18 : decode cX2_tell 18 = .ok (.iload_n 1, 1) := by decide +kernel
theorem dX2_tell_19 : decode cX2_tell 19 = .ok (.iload 4, 2) := by decide +kernel
theorem dX2_tell_21 : decode cX2_tell 21 = .ok (.iastore, 1) := by decide +kernel
theorem dX2_tell_22 : decode cX2_tell 22 = .ok (.return_, 1) := by decide +kernel
theorem dX2_dugFrom_0 : decode cX2_dugFrom 0 = .ok (.iconst 0, 1) := by decide +kernel
theorem dX2_dugFrom_1 : decode cX2_dugFrom 1 = .ok (.istore_n 3, 1) := by decide +kernel
theorem dX2_dugFrom_2 : decode cX2_dugFrom 2 = .ok (.iload_n 1, 1) := by decide +kernel
theorem dX2_dugFrom_3 : decode cX2_dugFrom 3 = .ok (.istore 4, 2) := by decide +kernel
theorem dX2_dugFrom_5 : decode cX2_dugFrom 5 = .ok (.iload 4, 2) := by decide +kernel
theorem dX2_dugFrom_7 : decode cX2_dugFrom 7 = .ok (.iload_n 2, 1) := by decide +kernel
theorem dX2_dugFrom_8 : decode cX2_dugFrom 8 = .ok (.if_icmp .gt 19, 3) := by decide +kernel
theorem dX2_dugFrom_11 : decode cX2_dugFrom 11 = .ok (.iload_n 3, 1) := by decide +kernel
theorem dX2_dugFrom_12 : decode cX2_dugFrom 12 = .ok (.aload_n 0, 1) := by decide +kernel
theorem dX2_dugFrom_13 : decode cX2_dugFrom 13 = .ok (.getfield 15, 3) := by decide +kernel
theorem dX2_dugFrom_16 : decode cX2_dugFrom 16 = .ok (.iload 4, 2) := by decide +kernel
theorem dX2_dugFrom_18 : decode cX2_dugFrom 18 = .ok (.iaload, 1) := by decide +kernel
theorem dX2_dugFrom_19 : decode cX2_dugFrom 19 = .ok (.iadd, 1) := by decide +kernel
theorem dX2_dugFrom_20 : decode cX2_dugFrom 20 = .ok (.istore_n 3, 1) := by decide +kernel
theorem dX2_dugFrom_21 : decode cX2_dugFrom 21 = .ok (.iinc 4 1, 3) := by decide +kernel
theorem dX2_dugFrom_24 : decode cX2_dugFrom 24 = .ok (.goto (-19), 3) := by decide +kernel
theorem dX2_dugFrom_27 : decode cX2_dugFrom 27 = .ok (.iload_n 3, 1) := by decide +kernel
theorem dX2_dugFrom_28 : decode cX2_dugFrom 28 = .ok (.ireturn, 1) := by decide +kernel
theorem dX2_foretell_0 : decode cX2_foretell 0 = .ok (.aload_n 0, 1) := by decide +kernel
theorem dX2_foretell_1 : decode cX2_foretell 1 = .ok (.iload_n 1, 1) := by decide +kernel
theorem dX2_foretell_2 : decode cX2_foretell 2 = .ok (.invokevirtual 21, 3) := by decide +kernel
theorem dX2_foretell_5 : decode cX2_foretell 5 = .ok (.istore_n 2, 1) := by decide +kernel
theorem dX2_foretell_6 : decode cX2_foretell 6 = .ok (.iload_n 2, 1) := by decide +kernel
theorem dX2_foretell_7 : decode cX2_foretell 7 = .ok (.bipush (-9), 2) := by decide +kernel
theorem dX2_foretell_9 : decode cX2_foretell 9 = .ok (.if_icmp .ne 6, 3) := by decide +kernel
theorem dX2_foretell_12 : decode cX2_foretell 12 = .ok (.bipush (-9), 2) := by decide +kernel
theorem dX2_foretell_14 : decode cX2_foretell 14 = .ok (.ireturn, 1) := by decide +kernel
theorem dX2_foretell_15 : decode cX2_foretell 15 = .ok (.iconst 0, 1) := by decide +kernel
theorem dX2_foretell_16 : decode cX2_foretell 16 = .ok (.iload_n 2, 1) := by decide +kernel
theorem dX2_foretell_17 : decode cX2_foretell 17 = .ok (.bipush 7, 2) := by decide +kernel
theorem dX2_foretell_19 : decode cX2_foretell 19 = .ok (.isub, 1) := by decide +kernel
theorem dX2_foretell_20 : decode cX2_foretell 20 = .ok (.iconst 1, 1) := by decide +kernel
theorem dX2_foretell_21 : decode cX2_foretell 21 = .ok (.iadd, 1) := by decide +kernel
theorem dX2_foretell_22 : decode cX2_foretell 22 = .ok (.invokestatic 25, 3) := by decide +kernel
theorem dX2_foretell_25 : decode cX2_foretell 25 = .ok (.istore_n 3, 1) := by decide +kernel
theorem dX2_foretell_26 : decode cX2_foretell 26 = .ok (.aload_n 0, 1) := by decide +kernel
theorem dX2_foretell_27 : decode cX2_foretell 27 = .ok (.iload_n 3, 1) := by decide +kernel
theorem dX2_foretell_28 : decode cX2_foretell 28 = .ok (.iload_n 2, 1) := by decide +kernel
theorem dX2_foretell_29 : decode cX2_foretell 29 = .ok (.invokevirtual 31, 3) := by decide +kernel
theorem dX2_foretell_32 : decode cX2_foretell 32 = .ok (.istore 4, 2) := by decide +kernel
theorem dX2_foretell_34 : decode cX2_foretell 34 = .ok (.iload 4, 2) := by decide +kernel
theorem dX2_foretell_36 : decode cX2_foretell 36 = .ok (.ifCond .ne 6, 3) := by decide +kernel
theorem dX2_foretell_39 : decode cX2_foretell 39 = .ok (.bipush (-9), 2) := by decide +kernel
theorem dX2_foretell_41 : decode cX2_foretell 41 = .ok (.ireturn, 1) := by decide +kernel
theorem dX2_foretell_42 : decode cX2_foretell 42 = .ok (.aload_n 0, 1) := by decide +kernel
theorem dX2_foretell_43 : decode cX2_foretell 43 = .ok (.getfield 9, 3) := by decide +kernel
theorem dX2_foretell_46 : decode cX2_foretell 46 = .ok (.iload_n 2, 1) := by decide +kernel
theorem dX2_foretell_47 : decode cX2_foretell 47 = .ok (.iaload, 1) := by decide +kernel
theorem dX2_foretell_48 : decode cX2_foretell 48 = .ok (.iload_n 2, 1) := by decide +kernel
theorem dX2_foretell_49 : decode cX2_foretell 49 = .ok (.iload_n 3, 1) := by decide +kernel
theorem dX2_foretell_50 : decode cX2_foretell 50 = .ok (.isub, 1) := by decide +kernel
theorem dX2_foretell_51 : decode cX2_foretell 51 = .ok (.iconst 1, 1) := by decide +kernel
theorem dX2_foretell_52 : decode cX2_foretell 52 = .ok (.iadd, 1) := by decide +kernel
theorem dX2_foretell_53 : decode cX2_foretell 53 = .ok (.imul, 1) := by decide +kernel
theorem dX2_foretell_54 : decode cX2_foretell 54 = .ok (.iload 4, 2) := by decide +kernel
theorem dX2_foretell_56 : decode cX2_foretell 56 = .ok (.iadd, 1) := by decide +kernel
theorem dX2_foretell_57 : decode cX2_foretell 57 = .ok (.iconst 1, 1) := by decide +kernel
theorem dX2_foretell_58 : decode cX2_foretell 58 = .ok (.isub, 1) := by decide +kernel
theorem dX2_foretell_59 : decode cX2_foretell 59 = .ok (.iload 4, 2) := by decide +kernel
theorem dX2_foretell_61 : decode cX2_foretell 61 = .ok (.idiv, 1) := by decide +kernel
theorem dX2_foretell_62 : decode cX2_foretell 62 = .ok (.ireturn, 1) := by decide +kernel
theorem dX2_latestCome_0 : decode cX2_latestCome 0 = .ok (.iload_n 1, 1) := by decide +kernel
theorem dX2_latestCome_1 : decode cX2_latestCome 1 = .ok (.iconst 1, 1) := by decide +kernel
theorem dX2_latestCome_2 : decode cX2_latestCome 2 = .ok (.isub, 1) := by decide +kernel
theorem dX2_latestCome_3 : decode cX2_latestCome 3 = .ok (.istore_n 2, 1) := by decide +kernel
theorem dX2_latestCome_4 : decode cX2_latestCome 4 = .ok (.iload_n 2, 1) := by decide +kernel
theorem dX2_latestCome_5 : decode cX2_latestCome 5 = .ok (.ifCond .lt 21, 3) := by decide +kernel
theorem dX2_latestCome_8 : decode cX2_latestCome 8 = .ok (.aload_n 0, 1) := by decide +kernel
theorem dX2_latestCome_9 : decode cX2_latestCome 9 = .ok (.getfield 18, 3) := by decide +kernel
theorem dX2_latestCome_12 : decode cX2_latestCome 12 = .ok (.iload_n 2, 1) := by decide +kernel
theorem dX2_latestCome_13 : decode cX2_latestCome 13 = .ok (.iaload, 1) := by decide +kernel
theorem dX2_latestCome_14 : decode cX2_latestCome 14 = .ok (.iload_n 1, 1) := by decide +kernel
theorem dX2_latestCome_15 : decode cX2_latestCome 15 = .ok (.if_icmp .gt 5, 3) := by decide +kernel
theorem dX2_latestCome_18 : decode cX2_latestCome 18 = .ok (.iload_n 2, 1) := by decide +kernel
theorem dX2_latestCome_19 : decode cX2_latestCome 19 = .ok (.ireturn, 1) := by decide +kernel
theorem dX2_latestCome_20 : decode cX2_latestCome 20 = .ok (.iinc 2 (-1), 3) := by decide +kernel
theorem dX2_latestCome_23 : decode cX2_latestCome 23 = .ok (.goto (-19), 3) := by decide +kernel
theorem dX2_latestCome_26 : decode cX2_latestCome 26 = .ok (.bipush (-9), 2) := by decide +kernel
theorem dX2_latestCome_28 : decode cX2_latestCome 28 = .ok (.ireturn, 1) := by decide +kernel
theorem dX3_init_0 : decode cX3_init 0 = .ok (.aload_n 0, 1) := by decide +kernel
theorem dX3_init_1 : decode cX3_init 1 = .ok (.invokespecial 3, 3) := by decide +kernel
theorem dX3_init_4 : decode cX3_init 4 = .ok (.aload_n 0, 1) := by decide +kernel
theorem dX3_init_5 : decode cX3_init 5 = .ok (.bipush 6, 2) := by decide +kernel
theorem dX3_init_7 : decode cX3_init 7 = .ok (.newarray .int, 2) := by decide +kernel
theorem dX3_init_9 : decode cX3_init 9 = .ok (.putfield 9, 3) := by decide +kernel
theorem dX3_init_12 : decode cX3_init 12 = .ok (.aload_n 0, 1) := by decide +kernel
theorem dX3_init_13 : decode cX3_init 13 = .ok (.bipush 6, 2) := by decide +kernel
theorem dX3_init_15 : decode cX3_init 15 = .ok (.newarray .int, 2) := by decide +kernel
theorem dX3_init_17 : decode cX3_init 17 = .ok (.putfield 15, 3) := by decide +kernel
theorem dX3_init_20 : decode cX3_init 20 = .ok (.aload_n 0, 1) := by decide +kernel
theorem dX3_init_21 : decode cX3_init 21 = .ok (.sipush 200, 3) := by decide +kernel
theorem dX3_init_24 : decode cX3_init 24 = .ok (.newarray .int, 2) := by decide +kernel
theorem dX3_init_26 : decode cX3_init 26 = .ok (.putfield 18, 3) := by decide +kernel
theorem dX3_init_29 : decode cX3_init 29 = .ok (.aload_n 0, 1) := by decide +kernel
theorem dX3_init_30 : decode cX3_init 30 = .ok (.iconst 0, 1) := by decide +kernel
theorem dX3_init_31 : decode cX3_init 31 = .ok (.putfield 21, 3) := by decide +kernel
theorem dX3_init_34 : decode cX3_init 34 = .ok (.aload_n 0, 1) := by decide +kernel
theorem dX3_init_35 : decode cX3_init 35 = .ok (.bipush (-9), 2) := by decide +kernel
theorem dX3_init_37 : decode cX3_init 37 = .ok (.putfield 25, 3) := by decide +kernel
theorem dX3_init_40 : decode cX3_init 40 = .ok (.aload_n 0, 1) := by decide +kernel
theorem dX3_init_41 : decode cX3_init 41 = .ok (.iload_n 1, 1) := by decide +kernel
theorem dX3_init_42 : decode cX3_init 42 = .ok (.putfield 28, 3) := by decide +kernel
theorem dX3_init_45 : decode cX3_init 45 = .ok (.aload_n 0, 1) := by decide +kernel
theorem dX3_init_46 : decode cX3_init 46 = .ok (.iload_n 2, 1) := by decide +kernel
theorem dX3_init_47 : decode cX3_init 47 = .ok (.putfield 31, 3) := by decide +kernel
theorem dX3_init_50 : decode cX3_init 50 = .ok (.aload_n 0, 1) := by decide +kernel
theorem dX3_init_51 : decode cX3_init 51 = .ok (.iload_n 3, 1) := by decide +kernel
theorem dX3_init_52 : decode cX3_init 52 = .ok (.putfield 34, 3) := by decide +kernel
theorem dX3_init_55 : decode cX3_init 55 = .ok (.aload_n 0, 1) := by decide +kernel
theorem dX3_init_56 : decode cX3_init 56 = .ok (.iload 4, 2) := by decide +kernel
theorem dX3_init_58 : decode cX3_init 58 = .ok (.putfield 37, 3) := by decide +kernel
theorem dX3_init_61 : decode cX3_init 61 = .ok (.aload_n 0, 1) := by decide +kernel
theorem dX3_init_62 : decode cX3_init 62 = .ok (.iload 5, 2) := by decide +kernel
theorem dX3_init_64 : decode cX3_init 64 = .ok (.putfield 40, 3) := by decide +kernel
theorem dX3_init_67 : decode cX3_init 67 = .ok (.return_, 1) := by decide +kernel
theorem dX3_isLoaded_0 : decode cX3_isLoaded 0 = .ok (.aload_n 0, 1) := by decide +kernel
theorem dX3_isLoaded_1 : decode cX3_isLoaded 1 = .ok (.getfield 25, 3) := by decide +kernel
theorem dX3_isLoaded_4 : decode cX3_isLoaded 4 = .ok (.bipush (-9), 2) := by decide +kernel
theorem dX3_isLoaded_6 : decode cX3_isLoaded 6 = .ok (.if_icmp .eq 7, 3) := by decide +kernel
theorem dX3_isLoaded_9 : decode cX3_isLoaded 9 = .ok (.iconst 1, 1) := by decide +kernel
theorem dX3_isLoaded_10 : decode cX3_isLoaded 10 = .ok (.goto 4, 3) := by decide +kernel
theorem dX3_isLoaded_13 : decode cX3_isLoaded 13 = .ok (.iconst 0, 1) := by decide +kernel
theorem dX3_isLoaded_14 : decode cX3_isLoaded 14 = .ok (.ireturn, 1) := by decide +kernel
theorem dX3_isDry_0 : decode cX3_isDry 0 = .ok (.aload_n 0, 1) := by decide +kernel
theorem dX3_isDry_1 : decode cX3_isDry 1 = .ok (.invokevirtual 43, 3) := by decide +kernel
theorem dX3_isDry_4 : decode cX3_isDry 4 = .ok (.ifCond .ne 14, 3) := by decide +kernel
theorem dX3_isDry_7 : decode cX3_isDry 7 = .ok (.aload_n 0, 1) := by decide +kernel
theorem dX3_isDry_8 : decode cX3_isDry 8 = .ok (.getfield 40, 3) := by decide +kernel
theorem dX3_isDry_11 : decode cX3_isDry 11 = .ok (.ifCond .ne 7, 3) := by decide +kernel
theorem dX3_isDry_14 : decode cX3_isDry 14 = .ok (.iconst 1, 1) := by decide +kernel
theorem dX3_isDry_15 : decode cX3_isDry 15 = .ok (.goto 4, 3) := by decide +kernel
theorem dX3_isDry_18 : decode cX3_isDry 18 = .ok (.iconst 0, 1) := by decide +kernel
theorem dX3_isDry_19 : decode cX3_isDry 19 = .ok (.ireturn, 1) := by decide +kernel
theorem dX3_agreed_0 : decode cX3_agreed 0 = .ok (.aload_n 0, 1) := by decide +kernel
theorem dX3_agreed_1 : decode cX3_agreed 1 = .ok (.getfield 15, 3) := by decide +kernel
theorem dX3_agreed_4 : decode cX3_agreed 4 = .ok (.iload_n 1, 1) := by decide +kernel
theorem dX3_agreed_5 : decode cX3_agreed 5 = .ok (.iaload, 1) := by decide +kernel
theorem dX3_agreed_6 : decode cX3_agreed 6 = .ok (.iconst 1, 1) := by decide +kernel
theorem dX3_agreed_7 : decode cX3_agreed 7 = .ok (.if_icmp .ne 7, 3) := by decide +kernel
theorem dX3_agreed_10 : decode cX3_agreed 10 = .ok (.iconst 1, 1) := by decide +kernel
theorem dX3_agreed_11 : decode cX3_agreed 11 = .ok (.goto 4, 3) := by decide +kernel
theorem dX3_agreed_14 : decode cX3_agreed 14 = .ok (.iconst 0, 1) := by decide +kernel
theorem dX3_agreed_15 : decode cX3_agreed 15 = .ok (.ireturn, 1) := by decide +kernel
theorem dX3_turnOn_0 : decode cX3_turnOn 0 = .ok (.bipush 10, 2) := by decide +kernel
theorem dX3_turnOn_2 : decode cX3_turnOn 2 = .ok (.aload_n 0, 1) := by decide +kernel
theorem dX3_turnOn_3 : decode cX3_turnOn 3 = .ok (.getfield 34, 3) := by decide +kernel
theorem dX3_turnOn_6 : decode cX3_turnOn 6 = .ok (.imul, 1) := by decide +kernel
theorem dX3_turnOn_7 : decode cX3_turnOn 7 = .ok (.aload_n 0, 1) := by decide +kernel
theorem dX3_turnOn_8 : decode cX3_turnOn 8 = .ok (.getfield 28, 3) := by decide +kernel
theorem dX3_turnOn_11 : decode cX3_turnOn 11 = .ok (.iadd, 1) := by decide +kernel
theorem dX3_turnOn_12 : decode cX3_turnOn 12 = .ok (.istore_n 2, 1) := by decide +kernel
theorem dX3_turnOn_13 : decode cX3_turnOn 13 = .ok (.aload_n 0, 1) := by decide +kernel
theorem dX3_turnOn_14 : decode cX3_turnOn 14 = .ok (.getfield 31, 3) := by decide +kernel
theorem dX3_turnOn_17 : decode cX3_turnOn 17 = .ok (.ifCond .ne 5, 3) := by decide +kernel
theorem dX3_turnOn_20 : decode cX3_turnOn 20 = .ok (.iload_n 2, 1) := by decide +kernel
theorem dX3_turnOn_21 : decode cX3_turnOn 21 = .ok (.ireturn, 1) := by decide +kernel
theorem dX3_turnOn_22 : decode cX3_turnOn 22 = .ok (.iload_n 2, 1) := by decide +kernel
theorem dX3_turnOn_23 : decode cX3_turnOn 23 = .ok (.sipush 500, 3) := by decide +kernel
theorem dX3_turnOn_26 : decode cX3_turnOn 26 = .ok (.isub, 1) := by decide +kernel
theorem dX3_turnOn_27 : decode cX3_turnOn 27 = .ok (.istore_n 3, 1) := by decide +kernel
theorem dX3_turnOn_28 : decode cX3_turnOn 28 = .ok (.aload_n 0, 1) := by decide +kernel
theorem dX3_turnOn_29 : decode cX3_turnOn 29 = .ok (.getfield 31, 3) := by decide +kernel
theorem dX3_turnOn_32 : decode cX3_turnOn 32 = .ok (.iconst 1, 1) := by decide +kernel
theorem dX3_turnOn_33 : decode cX3_turnOn 33 = .ok (.if_icmp .eq 14, 3) := by decide +kernel
theorem dX3_turnOn_36 : decode cX3_turnOn 36 = .ok (.iload_n 1, 1) := by decide +kernel
theorem dX3_turnOn_37 : decode cX3_turnOn 37 = .ok (.aload_n 0, 1) := by decide +kernel
theorem dX3_turnOn_38 : decode cX3_turnOn 38 = .ok (.getfield 34, 3) := by decide +kernel
theorem dX3_turnOn_41 : decode cX3_turnOn 41 = .ok (.isub, 1) := by decide +kernel
theorem dX3_turnOn_42 : decode cX3_turnOn 42 = .ok (.bipush 9, 2) := by decide +kernel
theorem dX3_turnOn_44 : decode cX3_turnOn 44 = .ok (.if_icmp .lt 5, 3) := by decide +kernel
theorem dX3_turnOn_47 : decode cX3_turnOn 47 = .ok (.iload_n 3, 1) := by decide +kernel
theorem dX3_turnOn_48 : decode cX3_turnOn 48 = .ok (.ireturn, 1) := by decide +kernel
theorem dX3_turnOn_49 : decode cX3_turnOn 49 = .ok (.iload_n 3, 1) := by decide +kernel
theorem dX3_turnOn_50 : decode cX3_turnOn 50 = .ok (.sipush 5000, 3) := by decide +kernel
theorem dX3_turnOn_53 : decode cX3_turnOn 53 = .ok (.iadd, 1) := by decide +kernel
theorem dX3_turnOn_54 : decode cX3_turnOn 54 = .ok (.ireturn, 1) := by decide +kernel
theorem dX3_drink_0 : decode cX3_drink 0 = .ok (.aload_n 0, 1) := by decide +kernel
theorem dX3_drink_1 : decode cX3_drink 1 = .ok (.invokevirtual 43, 3) := by decide +kernel
theorem dX3_drink_4 : decode cX3_drink 4 = .ok (.ifCond .eq 4, 3) := by decide +kernel
theorem dX3_drink_7 : decode cX3_drink 7 = .ok (.return_, 1) := by decide +kernel
theorem dX3_drink_8 : decode cX3_drink 8 = .ok (.aload_n 0, 1) := by decide +kernel
theorem dX3_drink_9 : decode cX3_drink 9 = .ok (.iconst 0, 1) := by decide +kernel
theorem dX3_drink_10 : decode cX3_drink 10 = .ok (.aload_n 0, 1) := by decide +kernel
theorem dX3_drink_11 : decode cX3_drink 11 = .ok (.getfield 40, 3) := by decide +kernel
theorem dX3_drink_14 : decode cX3_drink 14 = .ok (.iconst 1, 1) := by decide +kernel
theorem dX3_drink_15 : decode cX3_drink 15 = .ok (.isub, 1) := by decide +kernel
theorem dX3_drink_16 : decode cX3_drink 16 = .ok (.invokestatic 47, 3) := by decide +kernel
theorem dX3_drink_19 : decode cX3_drink 19 = .ok (.putfield 40, 3) := by decide +kernel
theorem dX3_drink_22 : decode cX3_drink 22 = .ok (.aload_n 0, 1) := by decide +kernel
theorem dX3_drink_23 : decode cX3_drink 23 = .ok (.getfield 40, 3) := by decide +kernel
theorem dX3_drink_26 : decode cX3_drink 26 = .ok (.ifCond .ne 10, 3) := by decide +kernel
theorem dX3_drink_29 : decode cX3_drink 29 = .ok (.aload_n 0, 1) := by decide +kernel
theorem dX3_drink_30 : decode cX3_drink 30 = .ok (.getfield 18, 3) := by decide +kernel
theorem dX3_drink_33 : decode cX3_drink 33 = .ok (.iload_n 1, 1) := by decide +kernel
theorem dX3_drink_34 : decode cX3_drink 34 = .ok (.iconst (-1), 1) := by decide +kernel
theorem dX3_drink_35 : decode cX3_drink 35 = .ok (.iastore, 1) := by decide +kernel
theorem dX3_drink_36 : decode cX3_drink 36 = .ok (.return_, 1) := by decide +kernel
theorem dX3_take_0 : decode cX3_take 0 = .ok (.aload_n 0, 1) := by decide +kernel
theorem dX3_take_1 : decode cX3_take 1 = .ok (.dup, 1) := by decide +kernel
theorem dX3_take_2 : decode cX3_take 2 = .ok (.getfield 37, 3) := by decide +kernel
theorem dX3_take_5 : decode cX3_take 5 = .ok (.iload_n 1, 1) := by decide +kernel
theorem dX3_take_6 : decode cX3_take 6 = .ok (.isub, 1) := by decide +kernel
theorem dX3_take_7 : decode cX3_take 7 = .ok (.putfield 37, 3) := by decide +kernel
theorem dX3_take_10 : decode cX3_take 10 = .ok (.aload_n 0, 1) := by decide +kernel
theorem dX3_take_11 : decode cX3_take 11 = .ok (.dup, 1) := by decide +kernel
theorem dX3_take_12 : decode cX3_take 12 = .ok (.getfield 21, 3) := by decide +kernel
theorem dX3_take_15 : decode cX3_take 15 = .ok (.iload_n 1, 1) := by decide +kernel
theorem dX3_take_16 : decode cX3_take 16 = .ok (.iadd, 1) := by decide +kernel
theorem dX3_take_17 : decode cX3_take 17 = .ok (.putfield 21, 3) := by decide +kernel
theorem dX3_take_20 : decode cX3_take 20 = .ok (.aload_n 0, 1) := by decide +kernel
theorem dX3_take_21 : decode cX3_take 21 = .ok (.getfield 18, 3) := by decide +kernel
theorem dX3_take_24 : decode cX3_take 24 = .ok (.iload_n 2, 1) := by decide +kernel
theorem dX3_take_25 : decode cX3_take 25 = .ok (.iload_n 1, 1) := by decide +kernel
theorem dX3_take_26 : decode cX3_take 26 = .ok (.iastore, 1) := by decide +kernel
theorem dX3_take_27 : decode cX3_take 27 = .ok (.aload_n 0, 1) := by decide +kernel
theorem dX3_take_28 : decode cX3_take 28 = .ok (.getfield 37, 3) := by decide +kernel
theorem dX3_take_31 : decode cX3_take 31 = .ok (.ifCond .ne 8, 3) := by decide +kernel
theorem dX3_take_34 : decode cX3_take 34 = .ok (.aload_n 0, 1) := by decide +kernel
theorem dX3_take_35 : decode cX3_take 35 = .ok (.iload_n 2, 1) := by decide +kernel
theorem dX3_take_36 : decode cX3_take 36 = .ok (.putfield 25, 3) := by decide +kernel
theorem dX3_take_39 : decode cX3_take 39 = .ok (.return_, 1) := by decide +kernel
theorem dX4_init_0 : decode cX4_init 0 = .ok (.aload_n 0, 1) := by decide +kernel
theorem dX4_init_1 : decode cX4_init 1 = .ok (.invokespecial 1, 3) := by decide +kernel
theorem dX4_init_4 : decode cX4_init 4 = .ok (.aload_n 0, 1) := by decide +kernel
theorem dX4_init_5 : decode cX4_init 5 = .ok (.sipush 201, 3) := by decide +kernel
theorem dX4_init_8 : decode cX4_init 8 = .ok (.newarray .int, 2) := by decide +kernel
theorem dX4_init_10 : decode cX4_init 10 = .ok (.putfield 9, 3) := by decide +kernel
theorem dX4_init_13 : decode cX4_init 13 = .ok (.aload_n 0, 1) := by decide +kernel
theorem dX4_init_14 : decode cX4_init 14 = .ok (.new 13, 3) := by decide +kernel
theorem dX4_init_17 : decode cX4_init 17 = .ok (.dup, 1) := by decide +kernel
theorem dX4_init_18 : decode cX4_init 18 = .ok (.invokespecial 15, 3) := by decide +kernel
theorem dX4_init_21 : decode cX4_init 21 = .ok (.putfield 16, 3) := by decide +kernel
theorem dX4_init_24 : decode cX4_init 24 = .ok (.aload_n 0, 1) := by decide +kernel
theorem dX4_init_25 : decode cX4_init 25 = .ok (.bipush 10, 2) := by decide +kernel
theorem dX4_init_27 : decode cX4_init 27 = .ok (.anewarray 20, 3) := by decide +kernel
theorem dX4_init_30 : decode cX4_init 30 = .ok (.putfield 22, 3) := by decide +kernel
theorem dX4_init_33 : decode cX4_init 33 = .ok (.aload_n 0, 1) := by decide +kernel
theorem dX4_init_34 : decode cX4_init 34 = .ok (.bipush 10, 2) := by decide +kernel
theorem dX4_init_36 : decode cX4_init 36 = .ok (.anewarray 20, 3) := by decide +kernel
theorem dX4_init_39 : decode cX4_init 39 = .ok (.putfield 26, 3) := by decide +kernel
theorem dX4_init_42 : decode cX4_init 42 = .ok (.aload_n 0, 1) := by decide +kernel
theorem dX4_init_43 : decode cX4_init 43 = .ok (.new 29, 3) := by decide +kernel
theorem dX4_init_46 : decode cX4_init 46 = .ok (.dup, 1) := by decide +kernel
theorem dX4_init_47 : decode cX4_init 47 = .ok (.invokespecial 31, 3) := by decide +kernel
theorem dX4_init_50 : decode cX4_init 50 = .ok (.putfield 32, 3) := by decide +kernel
theorem dX4_init_53 : decode cX4_init 53 = .ok (.aload_n 0, 1) := by decide +kernel
theorem dX4_init_54 : decode cX4_init 54 = .ok (.new 36, 3) := by decide +kernel
theorem dX4_init_57 : decode cX4_init 57 = .ok (.dup, 1) := by decide +kernel
theorem dX4_init_58 : decode cX4_init 58 = .ok (.invokespecial 38, 3) := by decide +kernel
theorem dX4_init_61 : decode cX4_init 61 = .ok (.putfield 39, 3) := by decide +kernel
theorem dX4_init_64 : decode cX4_init 64 = .ok (.aload_n 0, 1) := by decide +kernel
theorem dX4_init_65 : decode cX4_init 65 = .ok (.iconst 0, 1) := by decide +kernel
theorem dX4_init_66 : decode cX4_init 66 = .ok (.putfield 43, 3) := by decide +kernel
theorem dX4_init_69 : decode cX4_init 69 = .ok (.aload_n 0, 1) := by decide +kernel
theorem dX4_init_70 : decode cX4_init 70 = .ok (.iconst 0, 1) := by decide +kernel
theorem dX4_init_71 : decode cX4_init 71 = .ok (.putfield 47, 3) := by decide +kernel
theorem dX4_init_74 : decode cX4_init 74 = .ok (.aload_n 0, 1) := by decide +kernel
theorem dX4_init_75 : decode cX4_init 75 = .ok (.bipush 20, 2) := by decide +kernel
theorem dX4_init_77 : decode cX4_init 77 = .ok (.putfield 50, 3) := by decide +kernel
theorem dX4_init_80 : decode cX4_init 80 = .ok (.aload_n 0, 1) := by decide +kernel
theorem dX4_init_81 : decode cX4_init 81 = .ok (.lconst 0, 1) := by decide +kernel
theorem dX4_init_82 : decode cX4_init 82 = .ok (.putfield 53, 3) := by decide +kernel
theorem dX4_init_85 : decode cX4_init 85 = .ok (.return_, 1) := by decide +kernel
theorem dX4_layer_0 : decode cX4_layer 0 = .ok (.iload_n 1, 1) := by decide +kernel
theorem dX4_layer_1 : decode cX4_layer 1 = .ok (.iconst 1, 1) := by decide +kernel
theorem dX4_layer_2 : decode cX4_layer 2 = .ok (.sipush 5000, 3) := by decide +kernel
theorem dX4_layer_5 : decode cX4_layer 5 = .ok (.invokestatic 57, 3) := by decide +kernel
theorem dX4_layer_8 : decode cX4_layer 8 = .ok (.ifCond .eq 13, 3) := by decide +kernel
theorem dX4_layer_11 : decode cX4_layer 11 = .ok (.iload_n 2, 1) := by decide +kernel
theorem dX4_layer_12 : decode cX4_layer 12 = .ok (.iconst 1, 1) := by decide +kernel
theorem dX4_layer_13 : decode cX4_layer 13 = .ok (.bipush 100, 2) := by decide +kernel
theorem dX4_layer_15 : decode cX4_layer 15 = .ok (.invokestatic 57, 3) := by decide +kernel
theorem dX4_layer_18 : decode cX4_layer 18 = .ok (.ifCond .ne 5, 3) := by decide +kernel
theorem dX4_layer_21 : decode cX4_layer 21 = .ok (.iconst (-1), 1) := by decide +kernel
theorem dX4_layer_22 : decode cX4_layer 22 = .ok (.ireturn, 1) := by decide +kernel
theorem dX4_layer_23 : decode cX4_layer 23 = .ok (.aload_n 0, 1) := by decide +kernel
theorem dX4_layer_24 : decode cX4_layer 24 = .ok (.getfield 16, 3) := by decide +kernel
theorem dX4_layer_27 : decode cX4_layer 27 = .ok (.getfield 61, 3) := by decide +kernel
theorem dX4_layer_30 : decode cX4_layer 30 = .ok (.bipush 6, 2) := by decide +kernel
theorem dX4_layer_32 : decode cX4_layer 32 = .ok (.if_icmp .lt 6, 3) := by decide +kernel
theorem dX4_layer_35 : decode cX4_layer 35 = .ok (.bipush (-3), 2) := by decide +kernel
theorem dX4_layer_37 : decode cX4_layer 37 = .ok (.ireturn, 1) := by decide +kernel
theorem dX4_layer_38 : decode cX4_layer 38 = .ok (.aload_n 0, 1) := by decide +kernel
theorem dX4_layer_39 : decode cX4_layer 39 = .ok (.getfield 16, 3) := by decide +kernel
theorem dX4_layer_42 : decode cX4_layer 42 = .ok (.iload_n 1, 1) := by decide +kernel
theorem dX4_layer_43 : decode cX4_layer 43 = .ok (.iload_n 2, 1) := by decide +kernel
theorem dX4_layer_44 : decode cX4_layer 44 = .ok (.invokevirtual 64, 3) := by decide +kernel
theorem dX4_layer_47 : decode cX4_layer 47 = .ok (.ireturn, 1) := by decide +kernel
theorem dX4_left_0 : decode cX4_left 0 = .ok (.aload_n 0, 1) := by decide +kernel
theorem dX4_left_1 : decode cX4_left 1 = .ok (.getfield 16, 3) := by decide +kernel
theorem dX4_left_4 : decode cX4_left 4 = .ok (.iload_n 1, 1) := by decide +kernel
theorem dX4_left_5 : decode cX4_left 5 = .ok (.invokevirtual 68, 3) := by decide +kernel
theorem dX4_left_8 : decode cX4_left 8 = .ok (.ifCond .eq 15, 3) := by decide +kernel
theorem dX4_left_11 : decode cX4_left 11 = .ok (.aload_n 0, 1) := by decide +kernel
theorem dX4_left_12 : decode cX4_left 12 = .ok (.getfield 16, 3) := by decide +kernel
theorem dX4_left_15 : decode cX4_left 15 = .ok (.getfield 72, 3) := by decide +kernel
theorem dX4_left_18 : decode cX4_left 18 = .ok (.iload_n 1, 1) := by decide +kernel
theorem dX4_left_19 : decode cX4_left 19 = .ok (.iaload, 1) := by decide +kernel
theorem dX4_left_20 : decode cX4_left 20 = .ok (.goto 4, 3) := by decide +kernel
theorem dX4_left_23 : decode cX4_left 23 = .ok (.iconst (-1), 1) := by decide +kernel
theorem dX4_left_24 : decode cX4_left 24 = .ok (.ireturn, 1) := by decide +kernel
theorem dX4_swell_0 : decode cX4_swell 0 = .ok (.iload_n 1, 1) := by decide +kernel
theorem dX4_swell_1 : decode cX4_swell 1 = .ok (.aload_n 0, 1) := by decide +kernel
theorem dX4_swell_2 : decode cX4_swell 2 = .ok (.getfield 43, 3) := by decide +kernel
theorem dX4_swell_5 : decode cX4_swell 5 = .ok (.sipush 200, 3) := by decide +kernel
theorem dX4_swell_8 : decode cX4_swell 8 = .ok (.invokestatic 57, 3) := by decide +kernel
theorem dX4_swell_11 : decode cX4_swell 11 = .ok (.ifCond .eq 13, 3) := by decide +kernel
theorem dX4_swell_14 : decode cX4_swell 14 = .ok (.iload_n 2, 1) := by decide +kernel
theorem dX4_swell_15 : decode cX4_swell 15 = .ok (.iconst 0, 1) := by decide +kernel
theorem dX4_swell_16 : decode cX4_swell 16 = .ok (.bipush 9, 2) := by decide +kernel
theorem dX4_swell_18 : decode cX4_swell 18 = .ok (.invokestatic 57, 3) := by decide +kernel
theorem dX4_swell_21 : decode cX4_swell 21 = .ok (.ifCond .ne 5, 3) := by decide +kernel
theorem dX4_swell_24 : decode cX4_swell 24 = .ok (.iconst (-1), 1) := by decide +kernel
theorem dX4_swell_25 : decode cX4_swell 25 = .ok (.ireturn, 1) := by decide +kernel
theorem dX4_swell_26 : decode cX4_swell 26 = .ok (.aload_n 0, 1) := by decide +kernel
theorem dX4_swell_27 : decode cX4_swell 27 = .ok (.getfield 9, 3) := by decide +kernel
theorem dX4_swell_30 : decode cX4_swell 30 = .ok (.iload_n 1, 1) := by decide +kernel
theorem dX4_swell_31 : decode cX4_swell 31 = .ok (.iaload, 1) := by decide +kernel
theorem dX4_swell_32 : decode cX4_swell 32 = .ok (.istore_n 3, 1) := by decide +kernel
theorem dX4_swell_33 : decode cX4_swell 33 = .ok (.aload_n 0, 1) := by decide +kernel
theorem dX4_swell_34 : decode cX4_swell 34 = .ok (.getfield 9, 3) := by decide +kernel
theorem dX4_swell_37 : decode cX4_swell 37 = .ok (.iload_n 1, 1) := by decide +kernel
theorem dX4_swell_38 : decode cX4_swell 38 = .ok (.iload_n 2, 1) := by decide +kernel
theorem dX4_swell_39 : decode cX4_swell 39 = .ok (.iastore, 1) := by decide +kernel
theorem dX4_swell_40 : decode cX4_swell 40 = .ok (.iload_n 3, 1) := by decide +kernel
theorem dX4_swell_41 : decode cX4_swell 41 = .ok (.ireturn, 1) := by decide +kernel
theorem dX4_ship_0 : decode cX4_ship 0 = .ok (.iload_n 1, 1) := by decide +kernel
theorem dX4_ship_1 : decode cX4_ship 1 = .ok (.iconst 0, 1) := by decide +kernel
theorem dX4_ship_2 : decode cX4_ship 2 = .ok (.iconst 2, 1) := by decide +kernel
theorem dX4_ship_3 : decode cX4_ship 3 = .ok (.invokestatic 57, 3) := by decide +kernel
theorem dX4_ship_6 : decode cX4_ship 6 = .ok (.ifCond .eq 24, 3) := by decide +kernel
theorem dX4_ship_9 : decode cX4_ship 9 = .ok (.iload_n 2, 1) := by decide +kernel
theorem dX4_ship_10 : decode cX4_ship 10 = .ok (.iconst 1, 1) := by decide +kernel
theorem dX4_ship_11 : decode cX4_ship 11 = .ok (.sipush 900, 3) := by decide +kernel
theorem dX4_ship_14 : decode cX4_ship 14 = .ok (.invokestatic 57, 3) := by decide +kernel
theorem dX4_ship_17 : decode cX4_ship 17 = .ok (.ifCond .eq 13, 3) := by decide +kernel
theorem dX4_ship_20 : decode cX4_ship 20 = .ok (.iload_n 3, 1) := by decide +kernel
theorem dX4_ship_21 : decode cX4_ship 21 = .ok (.iconst 1, 1) := by decide +kernel
theorem dX4_ship_22 : decode cX4_ship 22 = .ok (.bipush 90, 2) := by decide +kernel
theorem dX4_ship_24 : decode cX4_ship 24 = .ok (.invokestatic 57, 3) := by decide +kernel
theorem dX4_ship_27 : decode cX4_ship 27 = .ok (.ifCond .ne 5, 3) := by decide +kernel
theorem dX4_ship_30 : decode cX4_ship 30 = .ok (.iconst (-1), 1) := by decide +kernel
theorem dX4_ship_31 : decode cX4_ship 31 = .ok (.ireturn, 1) := by decide +kernel
theorem dX4_ship_32 : decode cX4_ship 32 = .ok (.aload_n 0, 1) := by decide +kernel
theorem dX4_ship_33 : decode cX4_ship 33 = .ok (.getfield 47, 3) := by decide +kernel
theorem dX4_ship_36 : decode cX4_ship 36 = .ok (.bipush 10, 2) := by decide +kernel
theorem dX4_ship_38 : decode cX4_ship 38 = .ok (.if_icmp .lt 6, 3) := by decide +kernel
theorem dX4_ship_41 : decode cX4_ship 41 = .ok (.bipush (-3), 2) := by decide +kernel
theorem dX4_ship_43 : decode cX4_ship 43 = .ok (.ireturn, 1) := by decide +kernel
theorem dX4_ship_44 : decode cX4_ship 44 = .ok (.aload_n 0, 1) := by decide +kernel
theorem dX4_ship_45 : decode cX4_ship 45 = .ok (.getfield 22, 3) := by decide +kernel
theorem dX4_ship_48 : decode cX4_ship 48 = .ok (.aload_n 0, 1) := by decide +kernel
theorem dX4_ship_49 : decode cX4_ship 49 = .ok (.getfield 47, 3) := by decide +kernel
theorem dX4_ship_52 : decode cX4_ship 52 = .ok (.new 20, 3) := by decide +kernel
theorem dX4_ship_55 : decode cX4_ship 55 = .ok (.dup, 1) := by decide +kernel
theorem dX4_ship_56 : decode cX4_ship 56 = .ok (.aload_n 0, 1) := by decide +kernel
theorem dX4_ship_57 : decode cX4_ship 57 = .ok (.getfield 47, 3) := by decide +kernel
theorem dX4_ship_60 : decode cX4_ship 60 = .ok (.iload_n 1, 1) := by decide +kernel
theorem dX4_ship_61 : decode cX4_ship 61 = .ok (.aload_n 0, 1) := by decide +kernel
theorem dX4_ship_62 : decode cX4_ship 62 = .ok (.getfield 43, 3) := by decide +kernel
theorem dX4_ship_65 : decode cX4_ship 65 = .ok (.iload_n 2, 1) := by decide +kernel
theorem dX4_ship_66 : decode cX4_ship 66 = .ok (.iload_n 3, 1) := by decide +kernel
theorem dX4_ship_67 : decode cX4_ship 67 = .ok (.invokespecial 75, 3) := by decide +kernel
theorem dX4_ship_70 : decode cX4_ship 70 = .ok (.aastore, 1) := by decide +kernel
theorem dX4_ship_71 : decode cX4_ship 71 = .ok (.aload_n 0, 1) := by decide +kernel
theorem dX4_ship_72 : decode cX4_ship 72 = .ok (.dup, 1) := by decide +kernel
theorem dX4_ship_73 : decode cX4_ship 73 = .ok (.getfield 47, 3) := by decide +kernel
theorem dX4_ship_76 : decode cX4_ship 76 = .ok (.iconst 1, 1) := by decide +kernel
theorem dX4_ship_77 : decode cX4_ship 77 = .ok (.iadd, 1) := by decide +kernel
theorem dX4_ship_78 : decode cX4_ship 78 = .ok (.putfield 47, 3) := by decide +kernel
theorem dX4_ship_81 : decode cX4_ship 81 = .ok (.aload_n 0, 1) := by decide +kernel
theorem dX4_ship_82 : decode cX4_ship 82 = .ok (.getfield 47, 3) := by decide +kernel
theorem dX4_ship_85 : decode cX4_ship 85 = .ok (.iconst 1, 1) := by decide +kernel
theorem dX4_ship_86 : decode cX4_ship 86 = .ok (.isub, 1) := by decide +kernel
theorem dX4_ship_87 : decode cX4_ship 87 = .ok (.ireturn, 1) := by decide +kernel
theorem dX4_turn_0 : decode cX4_turn 0 = .ok (.aload_n 0, 1) := by decide +kernel
theorem dX4_turn_1 : decode cX4_turn 1 = .ok (.iload_n 1, 1) := by decide +kernel
theorem dX4_turn_2 : decode cX4_turn 2 = .ok (.invokevirtual 78, 3) := by decide +kernel
theorem dX4_turn_5 : decode cX4_turn 5 = .ok (.astore_n 2, 1) := by decide +kernel
theorem dX4_turn_6 : decode cX4_turn 6 = .ok (.aload_n 2, 1) := by decide +kernel
theorem dX4_turn_7 : decode cX4_turn 7 = .ok (.ifnonnull 5, 3) := by decide +kernel
theorem dX4_turn_10 : decode cX4_turn 10 = .ok (.iconst (-1), 1) := by decide +kernel
theorem dX4_turn_11 : decode cX4_turn 11 = .ok (.ireturn, 1) := by decide +kernel
theorem dX4_turn_12 : decode cX4_turn 12 = .ok (.aload_n 0, 1) := by decide +kernel
theorem dX4_turn_13 : decode cX4_turn 13 = .ok (.dup, 1) := by decide +kernel
theorem dX4_turn_14 : decode cX4_turn 14 = .ok (.getfield 53, 3) := by decide +kernel
theorem dX4_turn_17 : decode cX4_turn 17 = .ok (.getstatic 82, 3) := by decide +kernel
theorem dX4_turn_20 : decode cX4_turn 20 = .ok (.aload_n 2, 1) := by decide +kernel
theorem dX4_turn_21 : decode cX4_turn 21 = .ok (.getfield 85, 3) := by decide +kernel
theorem dX4_turn_24 : decode cX4_turn 24 = .ok (.iaload, 1) := by decide +kernel
theorem dX4_turn_25 : decode cX4_turn 25 = .ok (.i2l, 1) := by decide +kernel
theorem dX4_turn_26 : decode cX4_turn 26 = .ok (.ladd, 1) := by decide +kernel
theorem dX4_turn_27 : decode cX4_turn 27 = .ok (.putfield 53, 3) := by decide +kernel
theorem dX4_turn_30 : decode cX4_turn 30 = .ok (.aload_n 2, 1) := by decide +kernel
theorem dX4_turn_31 : decode cX4_turn 31 = .ok (.aload_n 0, 1) := by decide +kernel
theorem dX4_turn_32 : decode cX4_turn 32 = .ok (.getfield 43, 3) := by decide +kernel
theorem dX4_turn_35 : decode cX4_turn 35 = .ok (.invokevirtual 88, 3) := by decide +kernel
theorem dX4_turn_38 : decode cX4_turn 38 = .ok (.ireturn, 1) := by decide +kernel
theorem dX4_days_0 : decode cX4_days 0 = .ok (.iload_n 1, 1) := by decide +kernel
theorem dX4_days_1 : decode cX4_days 1 = .ok (.iconst 1, 1) := by decide +kernel
theorem dX4_days_2 : decode cX4_days 2 = .ok (.bipush 20, 2) := by decide +kernel
theorem dX4_days_4 : decode cX4_days 4 = .ok (.invokestatic 57, 3) := by decide +kernel
theorem dX4_days_7 : decode cX4_days 7 = .ok (.ifCond .ne 5, 3) := by decide +kernel
theorem dX4_days_10 : decode cX4_days 10 = .ok (.iconst (-1), 1) := by decide +kernel
theorem dX4_days_11 : decode cX4_days 11 = .ok (.ireturn, 1) := by decide +kernel
theorem dX4_days_12 : decode cX4_days 12 = .ok (.aload_n 0, 1) := by decide +kernel
theorem dX4_days_13 : decode cX4_days 13 = .ok (.getfield 43, 3) := by decide +kernel
theorem dX4_days_16 : decode cX4_days 16 = .ok (.iload_n 1, 1) := by decide +kernel
theorem dX4_days_17 : decode cX4_days 17 = .ok (.iadd, 1) := by decide +kernel
theorem dX4_days_18 : decode cX4_days 18 = .ok (.sipush 200, 3) := by decide +kernel
theorem dX4_days_21 : decode cX4_days 21 = .ok (.if_icmp .le 6, 3) := by decide +kernel
theorem dX4_days_24 : decode cX4_days 24 = .ok (.bipush (-2), 2) := by decide +kernel
theorem dX4_days_26 : decode cX4_days 26 = .ok (.ireturn, 1) := by decide +kernel
theorem dX4_days_27 : decode cX4_days 27 = .ok (.iconst 0, 1) := by decide +kernel
theorem dX4_days_28 : decode cX4_days 28 = .ok (.istore_n 2, 1) := by decide +kernel
theorem dX4_days_29 : decode cX4_days 29 = .ok (.iload_n 2, 1) := by decide +kernel
theorem dX4_days_30 : decode cX4_days 30 = .ok (.iload_n 1, 1) := by decide +kernel
theorem dX4_days_31 : decode cX4_days 31 = .ok (.if_icmp .ge 13, 3) := by decide +kernel
theorem dX4_days_34 : decode cX4_days 34 = .ok (.aload_n 0, 1) := by decide +kernel
theorem dX4_days_35 : decode cX4_days 35 = .ok (.invokevirtual 92, 3) := by decide +kernel
theorem dX4_days_38 : decode cX4_days 38 = .ok (.iinc 2 1, 3) := by decide +kernel
theorem dX4_days_41 : decode cX4_days 41 = .ok (.goto (-12), 3) := by decide +kernel
theorem dX4_days_44 : decode cX4_days 44 = .ok (.aload_n 0, 1) := by decide +kernel
theorem dX4_days_45 : decode cX4_days 45 = .ok (.getfield 43, 3) := by decide +kernel
theorem dX4_days_48 : decode cX4_days 48 = .ok (.ireturn, 1) := by decide +kernel
theorem dX4_about_0 : decode cX4_about 0 = .ok (.aload_n 0, 1) := by decide +kernel
theorem dX4_about_1 : decode cX4_about 1 = .ok (.iload_n 1, 1) := by decide +kernel
theorem dX4_about_2 : decode cX4_about 2 = .ok (.invokevirtual 78, 3) := by decide +kernel
theorem dX4_about_5 : decode cX4_about 5 = .ok (.astore_n 3, 1) := by decide +kernel
theorem dX4_about_6 : decode cX4_about 6 = .ok (.aload_n 3, 1) := by decide +kernel
theorem dX4_about_7 : decode cX4_about 7 = .ok (.ifnonnull 5, 3) := by decide +kernel
theorem dX4_about_10 : decode cX4_about 10 = .ok (.iconst (-1), 1) := by decide +kernel
theorem dX4_about_11 : decode cX4_about 11 = .ok (.ireturn, 1) := by decide +kernel
theorem dX4_about_12 : decode cX4_about 12 = .ok (.iload_n 2, 1) := by decide +kernel
theorem dX4_about_13 : decode cX4_about 13 = .ok (.tableswitch 85 0 6 #[43, 48, 53, 58, 63, 68, 73], 43) := by decide +kernel
theorem dX4_about_56 : decode cX4_about 56 = .ok (.aload_n 3, 1) := by decide +kernel
theorem dX4_about_57 : decode cX4_about 57 = .ok (.getfield 85, 3) := by decide +kernel
theorem dX4_about_60 : decode cX4_about 60 = .ok (.ireturn, 1) := by decide +kernel
theorem dX4_about_61 : decode cX4_about 61 = .ok (.aload_n 3, 1) := by decide +kernel
theorem dX4_about_62 : decode cX4_about 62 = .ok (.getfield 95, 3) := by decide +kernel
theorem dX4_about_65 : decode cX4_about 65 = .ok (.ireturn, 1) := by decide +kernel
theorem dX4_about_66 : decode cX4_about 66 = .ok (.aload_n 3, 1) := by decide +kernel
theorem dX4_about_67 : decode cX4_about 67 = .ok (.getfield 98, 3) := by decide +kernel
theorem dX4_about_70 : decode cX4_about 70 = .ok (.ireturn, 1) := by decide +kernel
theorem dX4_about_71 : decode cX4_about 71 = .ok (.aload_n 3, 1) := by decide +kernel
theorem dX4_about_72 : decode cX4_about 72 = .ok (.getfield 101, 3) := by decide +kernel
theorem dX4_about_75 : decode cX4_about 75 = .ok (.ireturn, 1) := by decide +kernel
theorem dX4_about_76 : decode cX4_about 76 = .ok (.aload_n 3, 1) := by decide +kernel
theorem dX4_about_77 : decode cX4_about 77 = .ok (.getfield 103, 3) := by decide +kernel
theorem dX4_about_80 : decode cX4_about 80 = .ok (.ireturn, 1) := by decide +kernel
theorem dX4_about_81 : decode cX4_about 81 = .ok (.aload_n 3, 1) := by decide +kernel
theorem dX4_about_82 : decode cX4_about 82 = .ok (.getfield 106, 3) := by decide +kernel
theorem dX4_about_85 : decode cX4_about 85 = .ok (.ireturn, 1) := by decide +kernel
theorem dX4_about_86 : decode cX4_about 86 = .ok (.aload_n 0, 1) := by decide +kernel
theorem dX4_about_87 : decode cX4_about 87 = .ok (.getfield 16, 3) := by decide +kernel
theorem dX4_about_90 : decode cX4_about 90 = .ok (.aload_n 3, 1) := by decide +kernel
theorem dX4_about_91 : decode cX4_about 91 = .ok (.getfield 109, 3) := by decide +kernel
theorem dX4_about_94 : decode cX4_about 94 = .ok (.invokevirtual 112, 3) := by decide +kernel
theorem dX4_about_97 : decode cX4_about 97 = .ok (.ireturn, 1) := by decide +kernel
theorem dX4_about_98 : decode cX4_about 98 = .ok (.iconst (-1), 1) := by decide +kernel
theorem dX4_about_99 : decode cX4_about 99 = .ok (.ireturn, 1) := by decide +kernel
theorem dX4_cargo_0 : decode cX4_cargo 0 = .ok (.aload_n 0, 1) := by decide +kernel
theorem dX4_cargo_1 : decode cX4_cargo 1 = .ok (.iload_n 1, 1) := by decide +kernel
theorem dX4_cargo_2 : decode cX4_cargo 2 = .ok (.invokevirtual 78, 3) := by decide +kernel
theorem dX4_cargo_5 : decode cX4_cargo 5 = .ok (.astore_n 3, 1) := by decide +kernel
theorem dX4_cargo_6 : decode cX4_cargo 6 = .ok (.aload_n 3, 1) := by decide +kernel
theorem dX4_cargo_7 : decode cX4_cargo 7 = .ok (.ifnull 14, 3) := by decide +kernel
theorem dX4_cargo_10 : decode cX4_cargo 10 = .ok (.aload_n 0, 1) := by decide +kernel
theorem dX4_cargo_11 : decode cX4_cargo 11 = .ok (.getfield 16, 3) := by decide +kernel
theorem dX4_cargo_14 : decode cX4_cargo 14 = .ok (.iload_n 2, 1) := by decide +kernel
theorem dX4_cargo_15 : decode cX4_cargo 15 = .ok (.invokevirtual 68, 3) := by decide +kernel
theorem dX4_cargo_18 : decode cX4_cargo 18 = .ok (.ifCond .ne 5, 3) := by decide +kernel
theorem dX4_cargo_21 : decode cX4_cargo 21 = .ok (.iconst (-1), 1) := by decide +kernel
theorem dX4_cargo_22 : decode cX4_cargo 22 = .ok (.ireturn, 1) := by decide +kernel
theorem dX4_cargo_23 : decode cX4_cargo 23 = .ok (.aload_n 3, 1) := by decide +kernel
theorem dX4_cargo_24 : decode cX4_cargo 24 = .ok (.getfield 109, 3) := by decide +kernel
theorem dX4_cargo_27 : decode cX4_cargo 27 = .ok (.iload_n 2, 1) := by decide +kernel
theorem dX4_cargo_28 : decode cX4_cargo 28 = .ok (.iaload, 1) := by decide +kernel
theorem dX4_cargo_29 : decode cX4_cargo 29 = .ok (.ireturn, 1) := by decide +kernel
theorem dX4_loaded_0 : decode cX4_loaded 0 = .ok (.aload_n 0, 1) := by decide +kernel
theorem dX4_loaded_1 : decode cX4_loaded 1 = .ok (.iload_n 1, 1) := by decide +kernel
theorem dX4_loaded_2 : decode cX4_loaded 2 = .ok (.invokevirtual 78, 3) := by decide +kernel
theorem dX4_loaded_5 : decode cX4_loaded 5 = .ok (.astore_n 3, 1) := by decide +kernel
theorem dX4_loaded_6 : decode cX4_loaded 6 = .ok (.aload_n 3, 1) := by decide +kernel
theorem dX4_loaded_7 : decode cX4_loaded 7 = .ok (.ifnull 17, 3) := by decide +kernel
theorem dX4_loaded_10 : decode cX4_loaded 10 = .ok (.iload_n 2, 1) := by decide +kernel
theorem dX4_loaded_11 : decode cX4_loaded 11 = .ok (.iconst 0, 1) := by decide +kernel
theorem dX4_loaded_12 : decode cX4_loaded 12 = .ok (.aload_n 0, 1) := by decide +kernel
theorem dX4_loaded_13 : decode cX4_loaded 13 = .ok (.getfield 43, 3) := by decide +kernel
theorem dX4_loaded_16 : decode cX4_loaded 16 = .ok (.iconst 1, 1) := by decide +kernel
theorem dX4_loaded_17 : decode cX4_loaded 17 = .ok (.isub, 1) := by decide +kernel
theorem dX4_loaded_18 : decode cX4_loaded 18 = .ok (.invokestatic 57, 3) := by decide +kernel
theorem dX4_loaded_21 : decode cX4_loaded 21 = .ok (.ifCond .ne 6, 3) := by decide +kernel
theorem dX4_loaded_24 : decode cX4_loaded 24 = .ok (.bipush (-2), 2) := by decide +kernel
theorem dX4_loaded_26 : decode cX4_loaded 26 = .ok (.ireturn, 1) := by decide +kernel
theorem dX4_loaded_27 : decode cX4_loaded 27 = .ok (.aload_n 3, 1) := by decide +kernel
theorem dX4_loaded_28 : decode cX4_loaded 28 = .ok (.getfield 116, 3) := by decide +kernel
theorem dX4_loaded_31 : decode cX4_loaded 31 = .ok (.iload_n 2, 1) := by decide +kernel
theorem dX4_loaded_32 : decode cX4_loaded 32 = .ok (.iaload, 1) := by decide +kernel
theorem dX4_loaded_33 : decode cX4_loaded 33 = .ok (.ireturn, 1) := by decide +kernel
theorem dX4_boat_0 : decode cX4_boat 0 = .ok (.aload_n 0, 1) := by decide +kernel
theorem dX4_boat_1 : decode cX4_boat 1 = .ok (.iload_n 1, 1) := by decide +kernel
theorem dX4_boat_2 : decode cX4_boat 2 = .ok (.invokevirtual 78, 3) := by decide +kernel
theorem dX4_boat_5 : decode cX4_boat 5 = .ok (.astore_n 3, 1) := by decide +kernel
theorem dX4_boat_6 : decode cX4_boat 6 = .ok (.aload_n 3, 1) := by decide +kernel
theorem dX4_boat_7 : decode cX4_boat 7 = .ok (.ifnull 13, 3) := by decide +kernel
theorem dX4_boat_10 : decode cX4_boat 10 = .ok (.iload_n 2, 1) := by decide +kernel
theorem dX4_boat_11 : decode cX4_boat 11 = .ok (.iconst 1, 1) := by decide +kernel
theorem dX4_boat_12 : decode cX4_boat 12 = .ok (.bipush 90, 2) := by decide +kernel
theorem dX4_boat_14 : decode cX4_boat 14 = .ok (.invokestatic 57, 3) := by decide +kernel
theorem dX4_boat_17 : decode cX4_boat 17 = .ok (.ifCond .ne 5, 3) := by decide +kernel
theorem dX4_boat_20 : decode cX4_boat 20 = .ok (.iconst (-1), 1) := by decide +kernel
theorem dX4_boat_21 : decode cX4_boat 21 = .ok (.ireturn, 1) := by decide +kernel
theorem dX4_boat_22 : decode cX4_boat 22 = .ok (.aload_n 3, 1) := by decide +kernel
theorem dX4_boat_23 : decode cX4_boat 23 = .ok (.invokevirtual 119, 3) := by decide +kernel
theorem dX4_boat_26 : decode cX4_boat 26 = .ok (.ifCond .eq 6, 3) := by decide +kernel
theorem dX4_boat_29 : decode cX4_boat 29 = .ok (.bipush (-2), 2) := by decide +kernel
theorem dX4_boat_31 : decode cX4_boat 31 = .ok (.ireturn, 1) := by decide +kernel
theorem dX4_boat_32 : decode cX4_boat 32 = .ok (.aload_n 3, 1) := by decide +kernel
theorem dX4_boat_33 : decode cX4_boat 33 = .ok (.bipush 90, 2) := by decide +kernel
theorem dX4_boat_35 : decode cX4_boat 35 = .ok (.aload_n 3, 1) := by decide +kernel
theorem dX4_boat_36 : decode cX4_boat 36 = .ok (.getfield 103, 3) := by decide +kernel
theorem dX4_boat_39 : decode cX4_boat 39 = .ok (.iload_n 2, 1) := by decide +kernel
theorem dX4_boat_40 : decode cX4_boat 40 = .ok (.iadd, 1) := by decide +kernel
theorem dX4_boat_41 : decode cX4_boat 41 = .ok (.invokestatic 123, 3) := by decide +kernel
theorem dX4_boat_44 : decode cX4_boat 44 = .ok (.putfield 103, 3) := by decide +kernel
theorem dX4_boat_47 : decode cX4_boat 47 = .ok (.aload_n 3, 1) := by decide +kernel
theorem dX4_boat_48 : decode cX4_boat 48 = .ok (.getfield 103, 3) := by decide +kernel
theorem dX4_boat_51 : decode cX4_boat 51 = .ok (.ireturn, 1) := by decide +kernel
theorem dX4_sample_0 : decode cX4_sample 0 = .ok (.aload_n 0, 1) := by decide +kernel
theorem dX4_sample_1 : decode cX4_sample 1 = .ok (.iload_n 1, 1) := by decide +kernel
theorem dX4_sample_2 : decode cX4_sample 2 = .ok (.invokevirtual 78, 3) := by decide +kernel
theorem dX4_sample_5 : decode cX4_sample 5 = .ok (.astore_n 3, 1) := by decide +kernel
theorem dX4_sample_6 : decode cX4_sample 6 = .ok (.aload_n 3, 1) := by decide +kernel
theorem dX4_sample_7 : decode cX4_sample 7 = .ok (.ifnull 13, 3) := by decide +kernel
theorem dX4_sample_10 : decode cX4_sample 10 = .ok (.iload_n 2, 1) := by decide +kernel
theorem dX4_sample_11 : decode cX4_sample 11 = .ok (.iconst 1, 1) := by decide +kernel
theorem dX4_sample_12 : decode cX4_sample 12 = .ok (.bipush 9, 2) := by decide +kernel
theorem dX4_sample_14 : decode cX4_sample 14 = .ok (.invokestatic 57, 3) := by decide +kernel
theorem dX4_sample_17 : decode cX4_sample 17 = .ok (.ifCond .ne 5, 3) := by decide +kernel
theorem dX4_sample_20 : decode cX4_sample 20 = .ok (.iconst (-1), 1) := by decide +kernel
theorem dX4_sample_21 : decode cX4_sample 21 = .ok (.ireturn, 1) := by decide +kernel
theorem dX4_sample_22 : decode cX4_sample 22 = .ok (.aload_n 0, 1) := by decide +kernel
theorem dX4_sample_23 : decode cX4_sample 23 = .ok (.getfield 16, 3) := by decide +kernel
theorem dX4_sample_26 : decode cX4_sample 26 = .ok (.aload_n 3, 1) := by decide +kernel
theorem dX4_sample_27 : decode cX4_sample 27 = .ok (.getfield 109, 3) := by decide +kernel
theorem dX4_sample_30 : decode cX4_sample 30 = .ok (.iload_n 2, 1) := by decide +kernel
theorem dX4_sample_31 : decode cX4_sample 31 = .ok (.invokevirtual 128, 3) := by decide +kernel
theorem dX4_sample_34 : decode cX4_sample 34 = .ok (.ireturn, 1) := by decide +kernel
theorem dX4_type_0 : decode cX4_type 0 = .ok (.iload_n 3, 1) := by decide +kernel
theorem dX4_type_1 : decode cX4_type 1 = .ok (.iconst 1, 1) := by decide +kernel
theorem dX4_type_2 : decode cX4_type 2 = .ok (.bipush 8, 2) := by decide +kernel
theorem dX4_type_4 : decode cX4_type 4 = .ok (.invokestatic 57, 3) := by decide +kernel
theorem dX4_type_7 : decode cX4_type 7 = .ok (.ifCond .ne 5, 3) := by decide +kernel
theorem dX4_type_10 : decode cX4_type 10 = .ok (.iconst (-1), 1) := by decide +kernel
theorem dX4_type_11 : decode cX4_type 11 = .ok (.ireturn, 1) := by decide +kernel
theorem dX4_type_12 : decode cX4_type 12 = .ok (.aload_n 0, 1) := by decide +kernel
theorem dX4_type_13 : decode cX4_type 13 = .ok (.getfield 32, 3) := by decide +kernel
theorem dX4_type_16 : decode cX4_type 16 = .ok (.getfield 132, 3) := by decide +kernel
theorem dX4_type_19 : decode cX4_type 19 = .ok (.iload_n 3, 1) := by decide +kernel
theorem dX4_type_20 : decode cX4_type 20 = .ok (.iadd, 1) := by decide +kernel
theorem dX4_type_21 : decode cX4_type 21 = .ok (.bipush 30, 2) := by decide +kernel
theorem dX4_type_23 : decode cX4_type 23 = .ok (.if_icmp .le 6, 3) := by decide +kernel
theorem dX4_type_26 : decode cX4_type 26 = .ok (.bipush (-3), 2) := by decide +kernel
theorem dX4_type_28 : decode cX4_type 28 = .ok (.ireturn, 1) := by decide +kernel
theorem dX4_type_29 : decode cX4_type 29 = .ok (.aload_n 0, 1) := by decide +kernel
theorem dX4_type_30 : decode cX4_type 30 = .ok (.getfield 32, 3) := by decide +kernel
theorem dX4_type_33 : decode cX4_type 33 = .ok (.lload_n 1, 1) := by decide +kernel
theorem dX4_type_34 : decode cX4_type 34 = .ok (.iload_n 3, 1) := by decide +kernel
theorem dX4_type_35 : decode cX4_type 35 = .ok (.invokevirtual 135, 3) := by decide +kernel
theorem dX4_type_38 : decode cX4_type 38 = .ok (.aload_n 0, 1) := by decide +kernel
theorem dX4_type_39 : decode cX4_type 39 = .ok (.getfield 32, 3) := by decide +kernel
theorem dX4_type_42 : decode cX4_type 42 = .ok (.getfield 132, 3) := by decide +kernel
theorem dX4_type_45 : decode cX4_type 45 = .ok (.ireturn, 1) := by decide +kernel
theorem dX4_clear_0 : decode cX4_clear 0 = .ok (.aload_n 0, 1) := by decide +kernel
theorem dX4_clear_1 : decode cX4_clear 1 = .ok (.getfield 32, 3) := by decide +kernel
theorem dX4_clear_4 : decode cX4_clear 4 = .ok (.getfield 132, 3) := by decide +kernel
theorem dX4_clear_7 : decode cX4_clear 7 = .ok (.istore_n 1, 1) := by decide +kernel
theorem dX4_clear_8 : decode cX4_clear 8 = .ok (.aload_n 0, 1) := by decide +kernel
theorem dX4_clear_9 : decode cX4_clear 9 = .ok (.getfield 32, 3) := by decide +kernel
theorem dX4_clear_12 : decode cX4_clear 12 = .ok (.iconst 0, 1) := by decide +kernel
theorem dX4_clear_13 : decode cX4_clear 13 = .ok (.putfield 132, 3) := by decide +kernel
theorem dX4_clear_16 : decode cX4_clear 16 = .ok (.iload_n 1, 1) := by decide +kernel
theorem dX4_clear_17 : decode cX4_clear 17 = .ok (.ireturn, 1) := by decide +kernel
theorem dX4_charter_0 : decode cX4_charter 0 = .ok (.aload_n 0, 1) := by decide +kernel
theorem dX4_charter_1 : decode cX4_charter 1 = .ok (.iload_n 1, 1) := by decide +kernel
theorem dX4_charter_2 : decode cX4_charter 2 = .ok (.invokevirtual 78, 3) := by decide +kernel
theorem dX4_charter_5 : decode cX4_charter 5 = .ok (.astore_n 2, 1) := by decide +kernel
theorem dX4_charter_6 : decode cX4_charter 6 = .ok (.aload_n 2, 1) := by decide +kernel
theorem dX4_charter_7 : decode cX4_charter 7 = .ok (.ifnonnull 5, 3) := by decide +kernel
theorem dX4_charter_10 : decode cX4_charter 10 = .ok (.iconst (-1), 1) := by decide +kernel
theorem dX4_charter_11 : decode cX4_charter 11 = .ok (.ireturn, 1) := by decide +kernel
theorem dX4_charter_12 : decode cX4_charter 12 = .ok (.aload_n 0, 1) := by decide +kernel
theorem dX4_charter_13 : decode cX4_charter 13 = .ok (.getfield 32, 3) := by decide +kernel
theorem dX4_charter_16 : decode cX4_charter 16 = .ok (.getfield 132, 3) := by decide +kernel
theorem dX4_charter_19 : decode cX4_charter 19 = .ok (.ifCond .ne 6, 3) := by decide +kernel
theorem dX4_charter_22 : decode cX4_charter 22 = .ok (.bipush (-2), 2) := by decide +kernel
theorem dX4_charter_24 : decode cX4_charter 24 = .ok (.ireturn, 1) := by decide +kernel
theorem dX4_charter_25 : decode cX4_charter 25 = .ok (.aload_n 0, 1) := by decide +kernel
theorem dX4_charter_26 : decode cX4_charter 26 = .ok (.getfield 32, 3) := by decide +kernel
theorem dX4_charter_29 : decode cX4_charter 29 = .ok (.invokevirtual 139, 3) := by decide +kernel
theorem dX4_charter_32 : decode cX4_charter 32 = .ok (.istore_n 3, 1) := by decide +kernel
theorem dX4_charter_33 : decode cX4_charter 33 = .ok (.iload_n 3, 1) := by decide +kernel
theorem dX4_charter_34 : decode cX4_charter 34 = .ok (.iconst (-1), 1) := by decide +kernel
theorem dX4_charter_35 : decode cX4_charter 35 = .ok (.if_icmp .eq 8, 3) := by decide +kernel
theorem dX4_charter_38 : decode cX4_charter 38 = .ok (.bipush (-100), 2) := by decide +kernel
theorem dX4_charter_40 : decode cX4_charter 40 = .ok (.iload_n 3, 1) := by decide +kernel
theorem dX4_charter_41 : decode cX4_charter 41 = .ok (.isub, 1) := by decide +kernel
theorem dX4_charter_42 : decode cX4_charter 42 = .ok (.ireturn, 1) := by decide +kernel
theorem dX4_charter_43 : decode cX4_charter 43 = .ok (.aload_n 0, 1) := by decide +kernel
theorem dX4_charter_44 : decode cX4_charter 44 = .ok (.getfield 32, 3) := by decide +kernel
theorem dX4_charter_47 : decode cX4_charter 47 = .ok (.getfield 143, 3) := by decide +kernel
theorem dX4_charter_50 : decode cX4_charter 50 = .ok (.iconst 0, 1) := by decide +kernel
theorem dX4_charter_51 : decode cX4_charter 51 = .ok (.aload_n 2, 1) := by decide +kernel
theorem dX4_charter_52 : decode cX4_charter 52 = .ok (.getfield 146, 3) := by decide +kernel
theorem dX4_charter_55 : decode cX4_charter 55 = .ok (.iconst 0, 1) := by decide +kernel
theorem dX4_charter_56 : decode cX4_charter 56 = .ok (.bipush 6, 2) := by decide +kernel
theorem dX4_charter_58 : decode cX4_charter 58 = .ok (.invokestatic 147, 3) := by decide +kernel
theorem dX4_charter_61 : decode cX4_charter 61 = .ok (.aload_n 0, 1) := by decide +kernel
theorem dX4_charter_62 : decode cX4_charter 62 = .ok (.getfield 32, 3) := by decide +kernel
theorem dX4_charter_65 : decode cX4_charter 65 = .ok (.iconst 0, 1) := by decide +kernel
theorem dX4_charter_66 : decode cX4_charter 66 = .ok (.putfield 132, 3) := by decide +kernel
theorem dX4_charter_69 : decode cX4_charter 69 = .ok (.iconst 1, 1) := by decide +kernel
theorem dX4_charter_70 : decode cX4_charter 70 = .ok (.ireturn, 1) := by decide +kernel
theorem dX4_term_0 : decode cX4_term 0 = .ok (.aload_n 0, 1) := by decide +kernel
theorem dX4_term_1 : decode cX4_term 1 = .ok (.iload_n 1, 1) := by decide +kernel
theorem dX4_term_2 : decode cX4_term 2 = .ok (.invokevirtual 78, 3) := by decide +kernel
theorem dX4_term_5 : decode cX4_term 5 = .ok (.astore_n 3, 1) := by decide +kernel
theorem dX4_term_6 : decode cX4_term 6 = .ok (.aload_n 3, 1) := by decide +kernel
theorem dX4_term_7 : decode cX4_term 7 = .ok (.ifnull 12, 3) := by decide +kernel
theorem dX4_term_10 : decode cX4_term 10 = .ok (.iload_n 2, 1) := by decide +kernel
theorem dX4_term_11 : decode cX4_term 11 = .ok (.iconst 0, 1) := by decide +kernel
theorem dX4_term_12 : decode cX4_term 12 = .ok (.iconst 5, 1) := by decide +kernel
theorem dX4_term_13 : decode cX4_term 13 = .ok (.invokestatic 57, 3) := by decide +kernel
theorem dX4_term_16 : decode cX4_term 16 = .ok (.ifCond .ne 5, 3) := by decide +kernel
theorem dX4_term_19 : decode cX4_term 19 = .ok (.iconst (-1), 1) := by decide +kernel
theorem dX4_term_20 : decode cX4_term 20 = .ok (.ireturn, 1) := by decide +kernel
theorem dX4_term_21 : decode cX4_term 21 = .ok (.aload_n 3, 1) := by decide +kernel
theorem dX4_term_22 : decode cX4_term 22 = .ok (.getfield 146, 3) := by decide +kernel
theorem dX4_term_25 : decode cX4_term 25 = .ok (.iload_n 2, 1) := by decide +kernel
theorem dX4_term_26 : decode cX4_term 26 = .ok (.iaload, 1) := by decide +kernel
theorem dX4_term_27 : decode cX4_term 27 = .ok (.ireturn, 1) := by decide +kernel
theorem dX4_owed_0 : decode cX4_owed 0 = .ok (.aload_n 0, 1) := by decide +kernel
theorem dX4_owed_1 : decode cX4_owed 1 = .ok (.iload_n 1, 1) := by decide +kernel
theorem dX4_owed_2 : decode cX4_owed 2 = .ok (.invokevirtual 78, 3) := by decide +kernel
theorem dX4_owed_5 : decode cX4_owed 5 = .ok (.astore_n 3, 1) := by decide +kernel
theorem dX4_owed_6 : decode cX4_owed 6 = .ok (.aload_n 3, 1) := by decide +kernel
theorem dX4_owed_7 : decode cX4_owed 7 = .ok (.ifnull 12, 3) := by decide +kernel
theorem dX4_owed_10 : decode cX4_owed 10 = .ok (.iload_n 2, 1) := by decide +kernel
theorem dX4_owed_11 : decode cX4_owed 11 = .ok (.iconst 0, 1) := by decide +kernel
theorem dX4_owed_12 : decode cX4_owed 12 = .ok (.iconst 1, 1) := by decide +kernel
theorem dX4_owed_13 : decode cX4_owed 13 = .ok (.invokestatic 57, 3) := by decide +kernel
theorem dX4_owed_16 : decode cX4_owed 16 = .ok (.ifCond .ne 6, 3) := by decide +kernel
theorem dX4_owed_19 : decode cX4_owed 19 = .ok (.ldc 153, 2) := by decide +kernel
theorem dX4_owed_21 : decode cX4_owed 21 = .ok (.ireturn, 1) := by decide +kernel
theorem dX4_owed_22 : decode cX4_owed 22 = .ok (.iload_n 2, 1) := by decide +kernel
theorem dX4_owed_23 : decode cX4_owed 23 = .ok (.ifCond .ne 11, 3) := by decide +kernel
theorem dX4_owed_26 : decode cX4_owed 26 = .ok (.aload_n 0, 1) := by decide +kernel
theorem dX4_owed_27 : decode cX4_owed 27 = .ok (.aload_n 3, 1) := by decide +kernel
theorem dX4_owed_28 : decode cX4_owed 28 = .ok (.invokevirtual 154, 3) := by decide +kernel
theorem dX4_owed_31 : decode cX4_owed 31 = .ok (.goto 8, 3) := by decide +kernel
theorem dX4_owed_34 : decode cX4_owed 34 = .ok (.aload_n 0, 1) := by decide +kernel
theorem dX4_owed_35 : decode cX4_owed 35 = .ok (.aload_n 3, 1) := by decide +kernel
theorem dX4_owed_36 : decode cX4_owed 36 = .ok (.invokevirtual 158, 3) := by decide +kernel
theorem dX4_owed_39 : decode cX4_owed 39 = .ok (.ireturn, 1) := by decide +kernel
theorem dX4_shared_0 : decode cX4_shared 0 = .ok (.aload_n 0, 1) := by decide +kernel
theorem dX4_shared_1 : decode cX4_shared 1 = .ok (.iload_n 1, 1) := by decide +kernel
theorem dX4_shared_2 : decode cX4_shared 2 = .ok (.invokevirtual 78, 3) := by decide +kernel
theorem dX4_shared_5 : decode cX4_shared 5 = .ok (.astore_n 3, 1) := by decide +kernel
theorem dX4_shared_6 : decode cX4_shared 6 = .ok (.aload_n 3, 1) := by decide +kernel
theorem dX4_shared_7 : decode cX4_shared 7 = .ok (.ifnull 12, 3) := by decide +kernel
theorem dX4_shared_10 : decode cX4_shared 10 = .ok (.iload_n 2, 1) := by decide +kernel
theorem dX4_shared_11 : decode cX4_shared 11 = .ok (.iconst 0, 1) := by decide +kernel
theorem dX4_shared_12 : decode cX4_shared 12 = .ok (.iconst 2, 1) := by decide +kernel
theorem dX4_shared_13 : decode cX4_shared 13 = .ok (.invokestatic 57, 3) := by decide +kernel
theorem dX4_shared_16 : decode cX4_shared 16 = .ok (.ifCond .ne 5, 3) := by decide +kernel
theorem dX4_shared_19 : decode cX4_shared 19 = .ok (.iconst (-1), 1) := by decide +kernel
theorem dX4_shared_20 : decode cX4_shared 20 = .ok (.ireturn, 1) := by decide +kernel
theorem dX4_shared_21 : decode cX4_shared 21 = .ok (.iconst 0, 1) := by decide +kernel
theorem dX4_shared_22 : decode cX4_shared 22 = .ok (.istore 4, 2) := by decide +kernel
theorem dX4_shared_24 : decode cX4_shared 24 = .ok (.iconst 0, 1) := by decide +kernel
theorem dX4_shared_25 : decode cX4_shared 25 = .ok (.istore 5, 2) := by decide +kernel
theorem dX4_shared_27 : decode cX4_shared 27 = .ok (.aload_n 3, 1) := by decide +kernel
theorem dX4_shared_28 : decode cX4_shared 28 = .ok (.getfield 95, 3) := by decide +kernel
theorem dX4_shared_31 : decode cX4_shared 31 = .ok (.istore 6, 2) := by decide +kernel
theorem dX4_shared_33 : decode cX4_shared 33 = .ok (.iload 6, 2) := by decide +kernel
theorem dX4_shared_35 : decode cX4_shared 35 = .ok (.aload_n 0, 1) := by decide +kernel
theorem dX4_shared_36 : decode cX4_shared 36 = .ok (.aload_n 3, 1) := by decide +kernel
theorem dX4_shared_37 : decode cX4_shared 37 = .ok (.invokevirtual 161, 3) := by decide +kernel
theorem dX4_shared_40 : decode cX4_shared 40 = .ok (.if_icmp .gt 47, 3) := by decide +kernel
theorem dX4_shared_43 : decode cX4_shared 43 = .ok (.aload_n 0, 1) := by decide +kernel
theorem dX4_shared_44 : decode cX4_shared 44 = .ok (.aload_n 3, 1) := by decide +kernel
theorem dX4_shared_45 : decode cX4_shared 45 = .ok (.iload 6, 2) := by decide +kernel
theorem dX4_shared_47 : decode cX4_shared 47 = .ok (.invokevirtual 164, 3) := by decide +kernel
theorem dX4_shared_50 : decode cX4_shared 50 = .ok (.ifCond .eq 31, 3) := by decide +kernel
theorem dX4_shared_53 : decode cX4_shared 53 = .ok (.iinc 4 1, 3) := by decide +kernel
theorem dX4_shared_56 : decode cX4_shared 56 = .ok (.iload 4, 2) := by decide +kernel
theorem dX4_shared_58 : decode cX4_shared 58 = .ok (.aload_n 3, 1) := by decide +kernel
theorem dX4_shared_59 : decode cX4_shared 59 = .ok (.getfield 146, 3) := by decide +kernel
theorem dX4_shared_62 : decode cX4_shared 62 = .ok (.iconst 0, 1) := by decide +kernel
theorem dX4_shared_63 : decode cX4_shared 63 = .ok (.iaload, 1) := by decide +kernel
theorem dX4_shared_64 : decode cX4_shared 64 = .ok (.if_icmp .le 17, 3) := by decide +kernel
theorem dX4_shared_67 : decode cX4_shared 67 = .ok (.aload_n 0, 1) := by decide +kernel
theorem dX4_shared_68 : decode cX4_shared 68 = .ok (.aload_n 3, 1) := by decide +kernel
theorem dX4_shared_69 : decode cX4_shared 69 = .ok (.iload 6, 2) := by decide +kernel
theorem dX4_shared_71 : decode cX4_shared 71 = .ok (.invokevirtual 168, 3) := by decide +kernel
theorem dX4_shared_74 : decode cX4_shared 74 = .ok (.iload_n 2, 1) := by decide +kernel
theorem dX4_shared_75 : decode cX4_shared 75 = .ok (.if_icmp .ne 6, 3) := by decide +kernel
theorem dX4_shared_78 : decode cX4_shared 78 = .ok (.iinc 5 1, 3) := by decide +kernel
theorem dX4_shared_81 : decode cX4_shared 81 = .ok (.iinc 6 1, 3) := by decide +kernel
theorem dX4_shared_84 : decode cX4_shared 84 = .ok (.goto (-51), 3) := by decide +kernel
theorem dX4_shared_87 : decode cX4_shared 87 = .ok (.iload 5, 2) := by decide +kernel
theorem dX4_shared_89 : decode cX4_shared 89 = .ok (.ireturn, 1) := by decide +kernel
theorem dX4_delay_0 : decode cX4_delay 0 = .ok (.iload_n 1, 1) := by decide +kernel
theorem dX4_delay_1 : decode cX4_delay 1 = .ok (.iconst 0, 1) := by decide +kernel
theorem dX4_delay_2 : decode cX4_delay 2 = .ok (.bipush 60, 2) := by decide +kernel
theorem dX4_delay_4 : decode cX4_delay 4 = .ok (.invokestatic 57, 3) := by decide +kernel
theorem dX4_delay_7 : decode cX4_delay 7 = .ok (.ifCond .ne 5, 3) := by decide +kernel
theorem dX4_delay_10 : decode cX4_delay 10 = .ok (.iconst (-1), 1) := by decide +kernel
theorem dX4_delay_11 : decode cX4_delay 11 = .ok (.ireturn, 1) := by decide +kernel
theorem dX4_delay_12 : decode cX4_delay 12 = .ok (.aload_n 0, 1) := by decide +kernel
theorem dX4_delay_13 : decode cX4_delay 13 = .ok (.getfield 50, 3) := by decide +kernel
theorem dX4_delay_16 : decode cX4_delay 16 = .ok (.istore_n 2, 1) := by decide +kernel
theorem dX4_delay_17 : decode cX4_delay 17 = .ok (.aload_n 0, 1) := by decide +kernel
theorem dX4_delay_18 : decode cX4_delay 18 = .ok (.iload_n 1, 1) := by decide +kernel
theorem dX4_delay_19 : decode cX4_delay 19 = .ok (.putfield 50, 3) := by decide +kernel
theorem dX4_delay_22 : decode cX4_delay 22 = .ok (.iload_n 2, 1) := by decide +kernel
theorem dX4_delay_23 : decode cX4_delay 23 = .ok (.ireturn, 1) := by decide +kernel
theorem dX4_letter_0 : decode cX4_letter 0 = .ok (.iload_n 1, 1) := by decide +kernel
theorem dX4_letter_1 : decode cX4_letter 1 = .ok (.iconst 0, 1) := by decide +kernel
theorem dX4_letter_2 : decode cX4_letter 2 = .ok (.sipush 200, 3) := by decide +kernel
theorem dX4_letter_5 : decode cX4_letter 5 = .ok (.invokestatic 57, 3) := by decide +kernel
theorem dX4_letter_8 : decode cX4_letter 8 = .ok (.ifCond .eq 12, 3) := by decide +kernel
theorem dX4_letter_11 : decode cX4_letter 11 = .ok (.iload_n 2, 1) := by decide +kernel
theorem dX4_letter_12 : decode cX4_letter 12 = .ok (.iconst 0, 1) := by decide +kernel
theorem dX4_letter_13 : decode cX4_letter 13 = .ok (.iconst 2, 1) := by decide +kernel
theorem dX4_letter_14 : decode cX4_letter 14 = .ok (.invokestatic 57, 3) := by decide +kernel
theorem dX4_letter_17 : decode cX4_letter 17 = .ok (.ifCond .ne 5, 3) := by decide +kernel
theorem dX4_letter_20 : decode cX4_letter 20 = .ok (.iconst (-1), 1) := by decide +kernel
theorem dX4_letter_21 : decode cX4_letter 21 = .ok (.ireturn, 1) := by decide +kernel
theorem dX4_letter_22 : decode cX4_letter 22 = .ok (.iload_n 1, 1) := by decide +kernel
theorem dX4_letter_23 : decode cX4_letter 23 = .ok (.aload_n 0, 1) := by decide +kernel
theorem dX4_letter_24 : decode cX4_letter 24 = .ok (.getfield 43, 3) := by decide +kernel
theorem dX4_letter_27 : decode cX4_letter 27 = .ok (.if_icmp .ge 19, 3) := by decide +kernel
theorem dX4_letter_30 : decode cX4_letter 30 = .ok (.aload_n 0, 1) := by decide +kernel
theorem dX4_letter_31 : decode cX4_letter 31 = .ok (.getfield 39, 3) := by decide +kernel
theorem dX4_letter_34 : decode cX4_letter 34 = .ok (.getfield 172, 3) := by decide +kernel
theorem dX4_letter_37 : decode cX4_letter 37 = .ok (.iload_n 1, 1) := by decide +kernel
theorem dX4_letter_38 : decode cX4_letter 38 = .ok (.iaload, 1) := by decide +kernel
theorem dX4_letter_39 : decode cX4_letter 39 = .ok (.aload_n 0, 1) := by decide +kernel
theorem dX4_letter_40 : decode cX4_letter 40 = .ok (.getfield 43, 3) := by decide +kernel
theorem dX4_letter_43 : decode cX4_letter 43 = .ok (.if_icmp .le 6, 3) := by decide +kernel
theorem dX4_letter_46 : decode cX4_letter 46 = .ok (.bipush (-9), 2) := by decide +kernel
theorem dX4_letter_48 : decode cX4_letter 48 = .ok (.ireturn, 1) := by decide +kernel
theorem dX4_letter_49 : decode cX4_letter 49 = .ok (.iload_n 2, 1) := by decide +kernel
theorem dX4_letter_50 : decode cX4_letter 50 = .ok (.lookupswitch 46 #[(0, 26), (1, 36)], 26) := by decide +kernel
theorem dX4_letter_76 : decode cX4_letter 76 = .ok (.aload_n 0, 1) := by decide +kernel
theorem dX4_letter_77 : decode cX4_letter 77 = .ok (.getfield 39, 3) := by decide +kernel
theorem dX4_letter_80 : decode cX4_letter 80 = .ok (.getfield 175, 3) := by decide +kernel
theorem dX4_letter_83 : decode cX4_letter 83 = .ok (.iload_n 1, 1) := by decide +kernel
theorem dX4_letter_84 : decode cX4_letter 84 = .ok (.iaload, 1) := by decide +kernel
theorem dX4_letter_85 : decode cX4_letter 85 = .ok (.ireturn, 1) := by decide +kernel
theorem dX4_letter_86 : decode cX4_letter 86 = .ok (.aload_n 0, 1) := by decide +kernel
theorem dX4_letter_87 : decode cX4_letter 87 = .ok (.getfield 39, 3) := by decide +kernel
theorem dX4_letter_90 : decode cX4_letter 90 = .ok (.getfield 178, 3) := by decide +kernel
theorem dX4_letter_93 : decode cX4_letter 93 = .ok (.iload_n 1, 1) := by decide +kernel
theorem dX4_letter_94 : decode cX4_letter 94 = .ok (.iaload, 1) := by decide +kernel
theorem dX4_letter_95 : decode cX4_letter 95 = .ok (.ireturn, 1) := by decide +kernel
theorem dX4_letter_96 : decode cX4_letter 96 = .ok (.aload_n 0, 1) := by decide +kernel
theorem dX4_letter_97 : decode cX4_letter 97 = .ok (.getfield 39, 3) := by decide +kernel
theorem dX4_letter_100 : decode cX4_letter 100 = .ok (.getfield 172, 3) := by decide +kernel
theorem dX4_letter_103 : decode cX4_letter 103 = .ok (.iload_n 1, 1) := by decide +kernel
theorem dX4_letter_104 : decode cX4_letter 104 = .ok (.iaload, 1) := by decide +kernel
theorem dX4_letter_105 : decode cX4_letter 105 = .ok (.ireturn, 1) := by decide +kernel
theorem dX4_foretold_0 : decode cX4_foretold 0 = .ok (.aload_n 0, 1) := by decide +kernel
theorem dX4_foretold_1 : decode cX4_foretold 1 = .ok (.getfield 39, 3) := by decide +kernel
theorem dX4_foretold_4 : decode cX4_foretold 4 = .ok (.aload_n 0, 1) := by decide +kernel
theorem dX4_foretold_5 : decode cX4_foretold 5 = .ok (.getfield 43, 3) := by decide +kernel
theorem dX4_foretold_8 : decode cX4_foretold 8 = .ok (.invokevirtual 181, 3) := by decide +kernel
theorem dX4_foretold_11 : decode cX4_foretold 11 = .ok (.ireturn, 1) := by decide +kernel
theorem dX4_count_0 : decode cX4_count 0 = .ok (.iload_n 1, 1) := by decide +kernel
theorem dX4_count_1 : decode cX4_count 1 = .ok (.tableswitch 94 0 6 #[43, 48, 53, 61, 66, 81, 89], 43) := by decide +kernel
theorem dX4_count_44 : decode cX4_count 44 = .ok (.aload_n 0, 1) := by decide +kernel
theorem dX4_count_45 : decode cX4_count 45 = .ok (.getfield 43, 3) := by decide +kernel
theorem dX4_count_48 : decode cX4_count 48 = .ok (.ireturn, 1) := by decide +kernel
theorem dX4_count_49 : decode cX4_count 49 = .ok (.aload_n 0, 1) := by decide +kernel
theorem dX4_count_50 : decode cX4_count 50 = .ok (.getfield 47, 3) := by decide +kernel
theorem dX4_count_53 : decode cX4_count 53 = .ok (.ireturn, 1) := by decide +kernel
theorem dX4_count_54 : decode cX4_count 54 = .ok (.aload_n 0, 1) := by decide +kernel
theorem dX4_count_55 : decode cX4_count 55 = .ok (.getfield 16, 3) := by decide +kernel
theorem dX4_count_58 : decode cX4_count 58 = .ok (.getfield 61, 3) := by decide +kernel
theorem dX4_count_61 : decode cX4_count 61 = .ok (.ireturn, 1) := by decide +kernel
theorem dX4_count_62 : decode cX4_count 62 = .ok (.aload_n 0, 1) := by decide +kernel
theorem dX4_count_63 : decode cX4_count 63 = .ok (.invokevirtual 184, 3) := by decide +kernel
theorem dX4_count_66 : decode cX4_count 66 = .ok (.ireturn, 1) := by decide +kernel
theorem dX4_count_67 : decode cX4_count 67 = .ok (.aload_n 0, 1) := by decide +kernel
theorem dX4_count_68 : decode cX4_count 68 = .ok (.getfield 39, 3) := by decide +kernel
theorem dX4_count_71 : decode cX4_count 71 = .ok (.iconst 0, 1) := by decide +kernel
theorem dX4_count_72 : decode cX4_count 72 = .ok (.aload_n 0, 1) := by decide +kernel
theorem dX4_count_73 : decode cX4_count 73 = .ok (.getfield 43, 3) := by decide +kernel
theorem dX4_count_76 : decode cX4_count 76 = .ok (.iconst 1, 1) := by decide +kernel
theorem dX4_count_77 : decode cX4_count 77 = .ok (.isub, 1) := by decide +kernel
theorem dX4_count_78 : decode cX4_count 78 = .ok (.invokevirtual 187, 3) := by decide +kernel
theorem dX4_count_81 : decode cX4_count 81 = .ok (.ireturn, 1) := by decide +kernel
theorem dX4_count_82 : decode cX4_count 82 = .ok (.aload_n 0, 1) := by decide +kernel
theorem dX4_count_83 : decode cX4_count 83 = .ok (.getfield 32, 3) := by decide +kernel
theorem dX4_count_86 : decode cX4_count 86 = .ok (.getfield 132, 3) := by decide +kernel
theorem dX4_count_89 : decode cX4_count 89 = .ok (.ireturn, 1) := by decide +kernel
theorem dX4_count_90 : decode cX4_count 90 = .ok (.aload_n 0, 1) := by decide +kernel
theorem dX4_count_91 : decode cX4_count 91 = .ok (.invokevirtual 190, 3) := by decide +kernel
theorem dX4_count_94 : decode cX4_count 94 = .ok (.ireturn, 1) := by decide +kernel
theorem dX4_count_95 : decode cX4_count 95 = .ok (.iconst (-1), 1) := by decide +kernel
theorem dX4_count_96 : decode cX4_count 96 = .ok (.ireturn, 1) := by decide +kernel
theorem dX4_trace_0 : decode cX4_trace 0 = .ok (.aload_n 0, 1) := by decide +kernel
theorem dX4_trace_1 : decode cX4_trace 1 = .ok (.getfield 53, 3) := by decide +kernel
theorem dX4_trace_4 : decode cX4_trace 4 = .ok (.lreturn, 1) := by decide +kernel
theorem dX4_within_0 : decode cX4_within 0 = .ok (.iload_n 0, 1) := by decide +kernel
theorem dX4_within_1 : decode cX4_within 1 = .ok (.iload_n 1, 1) := by decide +kernel
theorem dX4_within_2 : decode cX4_within 2 = .ok (.if_icmp .lt 12, 3) := by decide +kernel
theorem dX4_within_5 : decode cX4_within 5 = .ok (.iload_n 0, 1) := by decide +kernel
theorem dX4_within_6 : decode cX4_within 6 = .ok (.iload_n 2, 1) := by decide +kernel
theorem dX4_within_7 : decode cX4_within 7 = .ok (.if_icmp .gt 7, 3) := by decide +kernel
theorem dX4_within_10 : decode cX4_within 10 = .ok (.iconst 1, 1) := by decide +kernel
theorem dX4_within_11 : decode cX4_within 11 = .ok (.goto 4, 3) := by decide +kernel
theorem dX4_within_14 : decode cX4_within 14 = .ok (.iconst 0, 1) := by decide +kernel
theorem dX4_within_15 : decode cX4_within 15 = .ok (.ireturn, 1) := by decide +kernel
theorem dX4_shipNumbered_0 : decode cX4_shipNumbered 0 = .ok (.iload_n 1, 1) := by decide +kernel
theorem dX4_shipNumbered_1 : decode cX4_shipNumbered 1 = .ok (.ifCond .lt 20, 3) := by decide +kernel
theorem dX4_shipNumbered_4 : decode cX4_shipNumbered 4 = .ok (.iload_n 1, 1) := by decide +kernel
theorem dX4_shipNumbered_5 : decode cX4_shipNumbered 5 = .ok (.aload_n 0, 1) := by decide +kernel
theorem dX4_shipNumbered_6 : decode cX4_shipNumbered 6 = .ok (.getfield 47, 3) := by decide +kernel
theorem dX4_shipNumbered_9 : decode cX4_shipNumbered 9 = .ok (.if_icmp .ge 12, 3) := by decide +kernel
theorem dX4_shipNumbered_12 : decode cX4_shipNumbered 12 = .ok (.aload_n 0, 1) := by decide +kernel
theorem dX4_shipNumbered_13 : decode cX4_shipNumbered 13 = .ok (.getfield 22, 3) := by decide +kernel
theorem dX4_shipNumbered_16 : decode cX4_shipNumbered 16 = .ok (.iload_n 1, 1) := by decide +kernel
theorem dX4_shipNumbered_17 : decode cX4_shipNumbered 17 = .ok (.aaload, 1) := by decide +kernel
theorem dX4_shipNumbered_18 : decode cX4_shipNumbered 18 = .ok (.goto 4, 3) := by decide +kernel
theorem dX4_shipNumbered_21 : decode cX4_shipNumbered 21 = .ok (.aconst_null, 1) := by decide +kernel
theorem dX4_shipNumbered_22 : decode cX4_shipNumbered 22 = .ok (.areturn, 1) := by decide +kernel
theorem dX4_chutesShut_0 : decode cX4_chutesShut 0 = .ok (.aload_n 0, 1) := by decide +kernel
theorem dX4_chutesShut_1 : decode cX4_chutesShut 1 = .ok (.getfield 9, 3) := by decide +kernel
theorem dX4_chutesShut_4 : decode cX4_chutesShut 4 = .ok (.iload_n 1, 1) := by decide +kernel
theorem dX4_chutesShut_5 : decode cX4_chutesShut 5 = .ok (.iaload, 1) := by decide +kernel
theorem dX4_chutesShut_6 : decode cX4_chutesShut 6 = .ok (.iconst 4, 1) := by decide +kernel
theorem dX4_chutesShut_7 : decode cX4_chutesShut 7 = .ok (.if_icmp .le 7, 3) := by decide +kernel
theorem dX4_chutesShut_10 : decode cX4_chutesShut 10 = .ok (.iconst 1, 1) := by decide +kernel
theorem dX4_chutesShut_11 : decode cX4_chutesShut 11 = .ok (.goto 4, 3) := by decide +kernel
theorem dX4_chutesShut_14 : decode cX4_chutesShut 14 = .ok (.iconst 0, 1) := by decide +kernel
theorem dX4_chutesShut_15 : decode cX4_chutesShut 15 = .ok (.ireturn, 1) := by decide +kernel
theorem dX4_lightersShut_0 : decode cX4_lightersShut 0 = .ok (.aload_n 0, 1) := by decide +kernel
theorem dX4_lightersShut_1 : decode cX4_lightersShut 1 = .ok (.getfield 9, 3) := by decide +kernel
theorem dX4_lightersShut_4 : decode cX4_lightersShut 4 = .ok (.iload_n 1, 1) := by decide +kernel
theorem dX4_lightersShut_5 : decode cX4_lightersShut 5 = .ok (.iaload, 1) := by decide +kernel
theorem dX4_lightersShut_6 : decode cX4_lightersShut 6 = .ok (.bipush 7, 2) := by decide +kernel
theorem dX4_lightersShut_8 : decode cX4_lightersShut 8 = .ok (.if_icmp .le 7, 3) := by decide +kernel
theorem dX4_lightersShut_11 : decode cX4_lightersShut 11 = .ok (.iconst 1, 1) := by decide +kernel
theorem dX4_lightersShut_12 : decode cX4_lightersShut 12 = .ok (.goto 4, 3) := by decide +kernel
theorem dX4_lightersShut_15 : decode cX4_lightersShut 15 = .ok (.iconst 0, 1) := by decide +kernel
theorem dX4_lightersShut_16 : decode cX4_lightersShut 16 = .ok (.ireturn, 1) := by decide +kernel
theorem dX4_letOneDayGo_0 : decode cX4_letOneDayGo 0 = .ok (.iconst 0, 1) := by decide +kernel
theorem dX4_letOneDayGo_1 : decode cX4_letOneDayGo 1 = .ok (.istore_n 1, 1) := by decide +kernel
theorem dX4_letOneDayGo_2 : decode cX4_letOneDayGo 2 = .ok (.iload_n 1, 1) := by decide +kernel
theorem dX4_letOneDayGo_3 : decode cX4_letOneDayGo 3 = .ok (.aload_n 0, 1) := by decide +kernel
theorem dX4_letOneDayGo_4 : decode cX4_letOneDayGo 4 = .ok (.getfield 47, 3) := by decide +kernel
theorem dX4_letOneDayGo_7 : decode cX4_letOneDayGo 7 = .ok (.if_icmp .ge 22, 3) := by decide +kernel
theorem dX4_letOneDayGo_10 : decode cX4_letOneDayGo 10 = .ok (.aload_n 0, 1) := by decide +kernel
theorem dX4_letOneDayGo_11 : decode cX4_letOneDayGo 11 = .ok (.getfield 22, 3) := by decide +kernel
theorem dX4_letOneDayGo_14 : decode cX4_letOneDayGo 14 = .ok (.iload_n 1, 1) := by decide +kernel
theorem dX4_letOneDayGo_15 : decode cX4_letOneDayGo 15 = .ok (.aaload, 1) := by decide +kernel
theorem dX4_letOneDayGo_16 : decode cX4_letOneDayGo 16 = .ok (.aload_n 0, 1) := by decide +kernel
theorem dX4_letOneDayGo_17 : decode cX4_letOneDayGo 17 = .ok (.getfield 43, 3) := by decide +kernel
theorem dX4_letOneDayGo_20 : decode cX4_letOneDayGo 20 = .ok (.invokevirtual 193, 3) := by decide +kernel
theorem dX4_letOneDayGo_23 : decode cX4_letOneDayGo 23 = .ok (.iinc 1 1, 3) := by decide +kernel
theorem dX4_letOneDayGo_26 : decode cX4_letOneDayGo 26 = .ok (.goto (-24), 3) := by decide +kernel
theorem dX4_letOneDayGo_29 : decode cX4_letOneDayGo 29 = .ok (.aload_n 0, 1) := by decide +kernel
theorem dX4_letOneDayGo_30 : decode cX4_letOneDayGo 30 = .ok (.aload_n 0, 1) := by decide +kernel
theorem dX4_letOneDayGo_31 : decode cX4_letOneDayGo 31 = .ok (.invokevirtual 197, 3) := by decide +kernel
theorem dX4_letOneDayGo_34 : decode cX4_letOneDayGo 34 = .ok (.invokevirtual 200, 3) := by decide +kernel
theorem dX4_letOneDayGo_37 : decode cX4_letOneDayGo 37 = .ok (.istore_n 1, 1) := by decide +kernel
theorem dX4_letOneDayGo_38 : decode cX4_letOneDayGo 38 = .ok (.aload_n 0, 1) := by decide +kernel
theorem dX4_letOneDayGo_39 : decode cX4_letOneDayGo 39 = .ok (.getfield 39, 3) := by decide +kernel
theorem dX4_letOneDayGo_42 : decode cX4_letOneDayGo 42 = .ok (.aload_n 0, 1) := by decide +kernel
theorem dX4_letOneDayGo_43 : decode cX4_letOneDayGo 43 = .ok (.getfield 43, 3) := by decide +kernel
theorem dX4_letOneDayGo_46 : decode cX4_letOneDayGo 46 = .ok (.aload_n 0, 1) := by decide +kernel
theorem dX4_letOneDayGo_47 : decode cX4_letOneDayGo 47 = .ok (.invokevirtual 203, 3) := by decide +kernel
theorem dX4_letOneDayGo_50 : decode cX4_letOneDayGo 50 = .ok (.iload_n 1, 1) := by decide +kernel
theorem dX4_letOneDayGo_51 : decode cX4_letOneDayGo 51 = .ok (.aload_n 0, 1) := by decide +kernel
theorem dX4_letOneDayGo_52 : decode cX4_letOneDayGo 52 = .ok (.getfield 43, 3) := by decide +kernel
theorem dX4_letOneDayGo_55 : decode cX4_letOneDayGo 55 = .ok (.aload_n 0, 1) := by decide +kernel
theorem dX4_letOneDayGo_56 : decode cX4_letOneDayGo 56 = .ok (.getfield 50, 3) := by decide +kernel
theorem dX4_letOneDayGo_59 : decode cX4_letOneDayGo 59 = .ok (.iadd, 1) := by decide +kernel
theorem dX4_letOneDayGo_60 : decode cX4_letOneDayGo 60 = .ok (.invokevirtual 206, 3) := by decide +kernel
theorem dX4_letOneDayGo_63 : decode cX4_letOneDayGo 63 = .ok (.aload_n 0, 1) := by decide +kernel
theorem dX4_letOneDayGo_64 : decode cX4_letOneDayGo 64 = .ok (.dup, 1) := by decide +kernel
theorem dX4_letOneDayGo_65 : decode cX4_letOneDayGo 65 = .ok (.getfield 43, 3) := by decide +kernel
theorem dX4_letOneDayGo_68 : decode cX4_letOneDayGo 68 = .ok (.iconst 1, 1) := by decide +kernel
theorem dX4_letOneDayGo_69 : decode cX4_letOneDayGo 69 = .ok (.iadd, 1) := by decide +kernel
theorem dX4_letOneDayGo_70 : decode cX4_letOneDayGo 70 = .ok (.putfield 43, 3) := by decide +kernel
theorem dX4_letOneDayGo_73 : decode cX4_letOneDayGo 73 = .ok (.return_, 1) := by decide +kernel
theorem dX4_lineUp_0 : decode cX4_lineUp 0 = .ok (.iconst 0, 1) := by decide +kernel
theorem dX4_lineUp_1 : decode cX4_lineUp 1 = .ok (.istore_n 1, 1) := by decide +kernel
theorem dX4_lineUp_2 : decode cX4_lineUp 2 = .ok (.iconst 0, 1) := by decide +kernel
theorem dX4_lineUp_3 : decode cX4_lineUp 3 = .ok (.istore_n 2, 1) := by decide +kernel
theorem dX4_lineUp_4 : decode cX4_lineUp 4 = .ok (.iload_n 2, 1) := by decide +kernel
theorem dX4_lineUp_5 : decode cX4_lineUp 5 = .ok (.aload_n 0, 1) := by decide +kernel
theorem dX4_lineUp_6 : decode cX4_lineUp 6 = .ok (.getfield 47, 3) := by decide +kernel
theorem dX4_lineUp_9 : decode cX4_lineUp 9 = .ok (.if_icmp .ge 47, 3) := by decide +kernel
theorem dX4_lineUp_12 : decode cX4_lineUp 12 = .ok (.aload_n 0, 1) := by decide +kernel
theorem dX4_lineUp_13 : decode cX4_lineUp 13 = .ok (.getfield 22, 3) := by decide +kernel
theorem dX4_lineUp_16 : decode cX4_lineUp 16 = .ok (.iload_n 2, 1) := by decide +kernel
theorem dX4_lineUp_17 : decode cX4_lineUp 17 = .ok (.aaload, 1) := by decide +kernel
theorem dX4_lineUp_18 : decode cX4_lineUp 18 = .ok (.invokevirtual 119, 3) := by decide +kernel
theorem dX4_lineUp_21 : decode cX4_lineUp 21 = .ok (.ifCond .ne 29, 3) := by decide +kernel
theorem dX4_lineUp_24 : decode cX4_lineUp 24 = .ok (.aload_n 0, 1) := by decide +kernel
theorem dX4_lineUp_25 : decode cX4_lineUp 25 = .ok (.getfield 22, 3) := by decide +kernel
theorem dX4_lineUp_28 : decode cX4_lineUp 28 = .ok (.iload_n 2, 1) := by decide +kernel
theorem dX4_lineUp_29 : decode cX4_lineUp 29 = .ok (.aaload, 1) := by decide +kernel
theorem dX4_lineUp_30 : decode cX4_lineUp 30 = .ok (.invokevirtual 210, 3) := by decide +kernel
theorem dX4_lineUp_33 : decode cX4_lineUp 33 = .ok (.ifCond .ne 17, 3) := by decide +kernel
theorem dX4_lineUp_36 : decode cX4_lineUp 36 = .ok (.aload_n 0, 1) := by decide +kernel
theorem dX4_lineUp_37 : decode cX4_lineUp 37 = .ok (.aload_n 0, 1) := by decide +kernel
theorem dX4_lineUp_38 : decode cX4_lineUp 38 = .ok (.getfield 22, 3) := by decide +kernel
theorem dX4_lineUp_41 : decode cX4_lineUp 41 = .ok (.iload_n 2, 1) := by decide +kernel
theorem dX4_lineUp_42 : decode cX4_lineUp 42 = .ok (.aaload, 1) := by decide +kernel
theorem dX4_lineUp_43 : decode cX4_lineUp 43 = .ok (.iload_n 1, 1) := by decide +kernel
theorem dX4_lineUp_44 : decode cX4_lineUp 44 = .ok (.invokevirtual 213, 3) := by decide +kernel
theorem dX4_lineUp_47 : decode cX4_lineUp 47 = .ok (.iinc 1 1, 3) := by decide +kernel
theorem dX4_lineUp_50 : decode cX4_lineUp 50 = .ok (.iinc 2 1, 3) := by decide +kernel
theorem dX4_lineUp_53 : decode cX4_lineUp 53 = .ok (.goto (-49), 3) := by decide +kernel
theorem dX4_lineUp_56 : decode cX4_lineUp 56 = .ok (.iload_n 1, 1) := by decide +kernel
theorem dX4_lineUp_57 : decode cX4_lineUp 57 = .ok (.ireturn, 1) := by decide +kernel
theorem dX4_standInLine_0 : decode cX4_standInLine 0 = .ok (.iload_n 2, 1) := by decide +kernel
theorem dX4_standInLine_1 : decode cX4_standInLine 1 = .ok (.istore_n 3, 1) := by decide +kernel
theorem dX4_standInLine_2 : decode cX4_standInLine 2 = .ok (.iload_n 3, 1) := by decide +kernel
theorem dX4_standInLine_3 : decode cX4_standInLine 3 = .ok (.ifCond .le 49, 3) := by decide +kernel
theorem dX4_standInLine_6 : decode cX4_standInLine 6 = .ok (.aload_n 0, 1) := by decide +kernel
theorem dX4_standInLine_7 : decode cX4_standInLine 7 = .ok (.getfield 26, 3) := by decide +kernel
theorem dX4_standInLine_10 : decode cX4_standInLine 10 = .ok (.iload_n 3, 1) := by decide +kernel
theorem dX4_standInLine_11 : decode cX4_standInLine 11 = .ok (.iconst 1, 1) := by decide +kernel
theorem dX4_standInLine_12 : decode cX4_standInLine 12 = .ok (.isub, 1) := by decide +kernel
theorem dX4_standInLine_13 : decode cX4_standInLine 13 = .ok (.aaload, 1) := by decide +kernel
theorem dX4_standInLine_14 : decode cX4_standInLine 14 = .ok (.aload_n 0, 1) := by decide +kernel
theorem dX4_standInLine_15 : decode cX4_standInLine 15 = .ok (.getfield 43, 3) := by decide +kernel
theorem dX4_standInLine_18 : decode cX4_standInLine 18 = .ok (.invokevirtual 88, 3) := by decide +kernel
theorem dX4_standInLine_21 : decode cX4_standInLine 21 = .ok (.aload_n 1, 1) := by decide +kernel
theorem dX4_standInLine_22 : decode cX4_standInLine 22 = .ok (.aload_n 0, 1) := by decide +kernel
theorem dX4_standInLine_23 : decode cX4_standInLine 23 = .ok (.getfield 43, 3) := by decide +kernel
theorem dX4_standInLine_26 : decode cX4_standInLine 26 = .ok (.invokevirtual 88, 3) := by decide +kernel
theorem dX4_standInLine_29 : decode cX4_standInLine 29 = .ok (.if_icmp .le 23, 3) := by decide +kernel
theorem dX4_standInLine_32 : decode cX4_standInLine 32 = .ok (.aload_n 0, 1) := by decide +kernel
theorem dX4_standInLine_33 : decode cX4_standInLine 33 = .ok (.getfield 26, 3) := by decide +kernel
theorem dX4_standInLine_36 : decode cX4_standInLine 36 = .ok (.iload_n 3, 1) := by decide +kernel
theorem dX4_standInLine_37 : decode cX4_standInLine 37 = .ok (.aload_n 0, 1) := by decide +kernel
theorem dX4_standInLine_38 : decode cX4_standInLine 38 = .ok (.getfield 26, 3) := by decide +kernel
theorem dX4_standInLine_41 : decode cX4_standInLine 41 = .ok (.iload_n 3, 1) := by decide +kernel
theorem dX4_standInLine_42 : decode cX4_standInLine 42 = .ok (.iconst 1, 1) := by decide +kernel
theorem dX4_standInLine_43 : decode cX4_standInLine 43 = .ok (.isub, 1) := by decide +kernel
theorem dX4_standInLine_44 : decode cX4_standInLine 44 = .ok (.aaload, 1) := by decide +kernel
theorem dX4_standInLine_45 : decode cX4_standInLine 45 = .ok (.aastore, 1) := by decide +kernel
theorem dX4_standInLine_46 : decode cX4_standInLine 46 = .ok (.iinc 3 (-1), 3) := by decide +kernel
theorem dX4_standInLine_49 : decode cX4_standInLine 49 = .ok (.goto (-47), 3) := by decide +kernel
theorem dX4_standInLine_52 : decode cX4_standInLine 52 = .ok (.aload_n 0, 1) := by decide +kernel
theorem dX4_standInLine_53 : decode cX4_standInLine 53 = .ok (.getfield 26, 3) := by decide +kernel
theorem dX4_standInLine_56 : decode cX4_standInLine 56 = .ok (.iload_n 3, 1) := by decide +kernel
theorem dX4_standInLine_57 : decode cX4_standInLine 57 = .ok (.aload_n 1, 1) := by decide +kernel
theorem dX4_standInLine_58 : decode cX4_standInLine 58 = .ok (.aastore, 1) := by decide +kernel
theorem dX4_standInLine_59 : decode cX4_standInLine 59 = .ok (.return_, 1) := by decide +kernel
theorem dX4_loadLine_0 : decode cX4_loadLine 0 = .ok (.iconst 0, 1) := by decide +kernel
theorem dX4_loadLine_1 : decode cX4_loadLine 1 = .ok (.istore_n 2, 1) := by decide +kernel
theorem dX4_loadLine_2 : decode cX4_loadLine 2 = .ok (.iconst 0, 1) := by decide +kernel
theorem dX4_loadLine_3 : decode cX4_loadLine 3 = .ok (.istore_n 3, 1) := by decide +kernel
theorem dX4_loadLine_4 : decode cX4_loadLine 4 = .ok (.iload_n 3, 1) := by decide +kernel
theorem dX4_loadLine_5 : decode cX4_loadLine 5 = .ok (.iload_n 1, 1) := by decide +kernel
theorem dX4_loadLine_6 : decode cX4_loadLine 6 = .ok (.if_icmp .ge 60, 3) := by decide +kernel
theorem dX4_loadLine_9 : decode cX4_loadLine 9 = .ok (.aload_n 0, 1) := by decide +kernel
theorem dX4_loadLine_10 : decode cX4_loadLine 10 = .ok (.getfield 26, 3) := by decide +kernel
theorem dX4_loadLine_13 : decode cX4_loadLine 13 = .ok (.iload_n 3, 1) := by decide +kernel
theorem dX4_loadLine_14 : decode cX4_loadLine 14 = .ok (.aaload, 1) := by decide +kernel
theorem dX4_loadLine_15 : decode cX4_loadLine 15 = .ok (.astore 4, 2) := by decide +kernel
theorem dX4_loadLine_17 : decode cX4_loadLine 17 = .ok (.aload_n 0, 1) := by decide +kernel
theorem dX4_loadLine_18 : decode cX4_loadLine 18 = .ok (.getfield 16, 3) := by decide +kernel
theorem dX4_loadLine_21 : decode cX4_loadLine 21 = .ok (.aload_n 0, 1) := by decide +kernel
theorem dX4_loadLine_22 : decode cX4_loadLine 22 = .ok (.iload_n 3, 1) := by decide +kernel
theorem dX4_loadLine_23 : decode cX4_loadLine 23 = .ok (.invokevirtual 217, 3) := by decide +kernel
theorem dX4_loadLine_26 : decode cX4_loadLine 26 = .ok (.aload 4, 2) := by decide +kernel
theorem dX4_loadLine_28 : decode cX4_loadLine 28 = .ok (.getfield 98, 3) := by decide +kernel
theorem dX4_loadLine_31 : decode cX4_loadLine 31 = .ok (.invokestatic 123, 3) := by decide +kernel
theorem dX4_loadLine_34 : decode cX4_loadLine 34 = .ok (.aload 4, 2) := by decide +kernel
theorem dX4_loadLine_36 : decode cX4_loadLine 36 = .ok (.getfield 109, 3) := by decide +kernel
theorem dX4_loadLine_39 : decode cX4_loadLine 39 = .ok (.invokevirtual 220, 3) := by decide +kernel
theorem dX4_loadLine_42 : decode cX4_loadLine 42 = .ok (.istore 5, 2) := by decide +kernel
theorem dX4_loadLine_44 : decode cX4_loadLine 44 = .ok (.aload 4, 2) := by decide +kernel
theorem dX4_loadLine_46 : decode cX4_loadLine 46 = .ok (.iload 5, 2) := by decide +kernel
theorem dX4_loadLine_48 : decode cX4_loadLine 48 = .ok (.aload_n 0, 1) := by decide +kernel
theorem dX4_loadLine_49 : decode cX4_loadLine 49 = .ok (.getfield 43, 3) := by decide +kernel
theorem dX4_loadLine_52 : decode cX4_loadLine 52 = .ok (.invokevirtual 224, 3) := by decide +kernel
theorem dX4_loadLine_55 : decode cX4_loadLine 55 = .ok (.iload_n 2, 1) := by decide +kernel
theorem dX4_loadLine_56 : decode cX4_loadLine 56 = .ok (.iload 5, 2) := by decide +kernel
theorem dX4_loadLine_58 : decode cX4_loadLine 58 = .ok (.iadd, 1) := by decide +kernel
theorem dX4_loadLine_59 : decode cX4_loadLine 59 = .ok (.istore_n 2, 1) := by decide +kernel
theorem dX4_loadLine_60 : decode cX4_loadLine 60 = .ok (.iinc 3 1, 3) := by decide +kernel
theorem dX4_loadLine_63 : decode cX4_loadLine 63 = .ok (.goto (-59), 3) := by decide +kernel
theorem dX4_loadLine_66 : decode cX4_loadLine 66 = .ok (.iload_n 2, 1) := by decide +kernel
theorem dX4_loadLine_67 : decode cX4_loadLine 67 = .ok (.ireturn, 1) := by decide +kernel
theorem dX4_tonsAt_0 : decode cX4_tonsAt 0 = .ok (.iload_n 1, 1) := by decide +kernel
theorem dX4_tonsAt_1 : decode cX4_tonsAt 1 = .ok (.iconst 2, 1) := by decide +kernel
theorem dX4_tonsAt_2 : decode cX4_tonsAt 2 = .ok (.if_icmp .ge 17, 3) := by decide +kernel
theorem dX4_tonsAt_5 : decode cX4_tonsAt 5 = .ok (.aload_n 0, 1) := by decide +kernel
theorem dX4_tonsAt_6 : decode cX4_tonsAt 6 = .ok (.aload_n 0, 1) := by decide +kernel
theorem dX4_tonsAt_7 : decode cX4_tonsAt 7 = .ok (.getfield 43, 3) := by decide +kernel
theorem dX4_tonsAt_10 : decode cX4_tonsAt 10 = .ok (.invokevirtual 228, 3) := by decide +kernel
theorem dX4_tonsAt_13 : decode cX4_tonsAt 13 = .ok (.ifCond .ne 6, 3) := by decide +kernel
theorem dX4_tonsAt_16 : decode cX4_tonsAt 16 = .ok (.bipush 60, 2) := by decide +kernel
theorem dX4_tonsAt_18 : decode cX4_tonsAt 18 = .ok (.ireturn, 1) := by decide +kernel
theorem dX4_tonsAt_19 : decode cX4_tonsAt 19 = .ok (.aload_n 0, 1) := by decide +kernel
theorem dX4_tonsAt_20 : decode cX4_tonsAt 20 = .ok (.aload_n 0, 1) := by decide +kernel
theorem dX4_tonsAt_21 : decode cX4_tonsAt 21 = .ok (.getfield 43, 3) := by decide +kernel
theorem dX4_tonsAt_24 : decode cX4_tonsAt 24 = .ok (.invokevirtual 231, 3) := by decide +kernel
theorem dX4_tonsAt_27 : decode cX4_tonsAt 27 = .ok (.ifCond .eq 7, 3) := by decide +kernel
theorem dX4_tonsAt_30 : decode cX4_tonsAt 30 = .ok (.iconst 0, 1) := by decide +kernel
theorem dX4_tonsAt_31 : decode cX4_tonsAt 31 = .ok (.goto 5, 3) := by decide +kernel
theorem dX4_tonsAt_34 : decode cX4_tonsAt 34 = .ok (.bipush 15, 2) := by decide +kernel
theorem dX4_tonsAt_36 : decode cX4_tonsAt 36 = .ok (.ireturn, 1) := by decide +kernel
theorem dX4_tonsWanted_0 : decode cX4_tonsWanted 0 = .ok (.iconst 0, 1) := by decide +kernel
theorem dX4_tonsWanted_1 : decode cX4_tonsWanted 1 = .ok (.istore_n 1, 1) := by decide +kernel
theorem dX4_tonsWanted_2 : decode cX4_tonsWanted 2 = .ok (.iconst 0, 1) := by decide +kernel
theorem dX4_tonsWanted_3 : decode cX4_tonsWanted 3 = .ok (.istore_n 2, 1) := by decide +kernel
theorem dX4_tonsWanted_4 : decode cX4_tonsWanted 4 = .ok (.iload_n 2, 1) := by decide +kernel
theorem dX4_tonsWanted_5 : decode cX4_tonsWanted 5 = .ok (.aload_n 0, 1) := by decide +kernel
theorem dX4_tonsWanted_6 : decode cX4_tonsWanted 6 = .ok (.getfield 47, 3) := by decide +kernel
theorem dX4_tonsWanted_9 : decode cX4_tonsWanted 9 = .ok (.if_icmp .ge 21, 3) := by decide +kernel
theorem dX4_tonsWanted_12 : decode cX4_tonsWanted 12 = .ok (.iload_n 1, 1) := by decide +kernel
theorem dX4_tonsWanted_13 : decode cX4_tonsWanted 13 = .ok (.aload_n 0, 1) := by decide +kernel
theorem dX4_tonsWanted_14 : decode cX4_tonsWanted 14 = .ok (.getfield 22, 3) := by decide +kernel
theorem dX4_tonsWanted_17 : decode cX4_tonsWanted 17 = .ok (.iload_n 2, 1) := by decide +kernel
theorem dX4_tonsWanted_18 : decode cX4_tonsWanted 18 = .ok (.aaload, 1) := by decide +kernel
theorem dX4_tonsWanted_19 : decode cX4_tonsWanted 19 = .ok (.getfield 98, 3) := by decide +kernel
theorem dX4_tonsWanted_22 : decode cX4_tonsWanted 22 = .ok (.iadd, 1) := by decide +kernel
theorem dX4_tonsWanted_23 : decode cX4_tonsWanted 23 = .ok (.istore_n 1, 1) := by decide +kernel
theorem dX4_tonsWanted_24 : decode cX4_tonsWanted 24 = .ok (.iinc 2 1, 3) := by decide +kernel
theorem dX4_tonsWanted_27 : decode cX4_tonsWanted 27 = .ok (.goto (-23), 3) := by decide +kernel
theorem dX4_tonsWanted_30 : decode cX4_tonsWanted 30 = .ok (.iload_n 1, 1) := by decide +kernel
theorem dX4_tonsWanted_31 : decode cX4_tonsWanted 31 = .ok (.ireturn, 1) := by decide +kernel
theorem dX4_loadedShips_0 : decode cX4_loadedShips 0 = .ok (.iconst 0, 1) := by decide +kernel
theorem dX4_loadedShips_1 : decode cX4_loadedShips 1 = .ok (.istore_n 1, 1) := by decide +kernel
theorem dX4_loadedShips_2 : decode cX4_loadedShips 2 = .ok (.iconst 0, 1) := by decide +kernel
theorem dX4_loadedShips_3 : decode cX4_loadedShips 3 = .ok (.istore_n 2, 1) := by decide +kernel
theorem dX4_loadedShips_4 : decode cX4_loadedShips 4 = .ok (.iload_n 2, 1) := by decide +kernel
theorem dX4_loadedShips_5 : decode cX4_loadedShips 5 = .ok (.aload_n 0, 1) := by decide +kernel
theorem dX4_loadedShips_6 : decode cX4_loadedShips 6 = .ok (.getfield 47, 3) := by decide +kernel
theorem dX4_loadedShips_9 : decode cX4_loadedShips 9 = .ok (.if_icmp .ge 24, 3) := by decide +kernel
theorem dX4_loadedShips_12 : decode cX4_loadedShips 12 = .ok (.aload_n 0, 1) := by decide +kernel
theorem dX4_loadedShips_13 : decode cX4_loadedShips 13 = .ok (.getfield 22, 3) := by decide +kernel
theorem dX4_loadedShips_16 : decode cX4_loadedShips 16 = .ok (.iload_n 2, 1) := by decide +kernel
theorem dX4_loadedShips_17 : decode cX4_loadedShips 17 = .ok (.aaload, 1) := by decide +kernel
theorem dX4_loadedShips_18 : decode cX4_loadedShips 18 = .ok (.invokevirtual 119, 3) := by decide +kernel
theorem dX4_loadedShips_21 : decode cX4_loadedShips 21 = .ok (.ifCond .eq 6, 3) := by decide +kernel
theorem dX4_loadedShips_24 : decode cX4_loadedShips 24 = .ok (.iinc 1 1, 3) := by decide +kernel
theorem dX4_loadedShips_27 : decode cX4_loadedShips 27 = .ok (.iinc 2 1, 3) := by decide +kernel
theorem dX4_loadedShips_30 : decode cX4_loadedShips 30 = .ok (.goto (-26), 3) := by decide +kernel
theorem dX4_loadedShips_33 : decode cX4_loadedShips 33 = .ok (.iload_n 1, 1) := by decide +kernel
theorem dX4_loadedShips_34 : decode cX4_loadedShips 34 = .ok (.ireturn, 1) := by decide +kernel
theorem dX4_dryShips_0 : decode cX4_dryShips 0 = .ok (.iconst 0, 1) := by decide +kernel
theorem dX4_dryShips_1 : decode cX4_dryShips 1 = .ok (.istore_n 1, 1) := by decide +kernel
theorem dX4_dryShips_2 : decode cX4_dryShips 2 = .ok (.iconst 0, 1) := by decide +kernel
theorem dX4_dryShips_3 : decode cX4_dryShips 3 = .ok (.istore_n 2, 1) := by decide +kernel
theorem dX4_dryShips_4 : decode cX4_dryShips 4 = .ok (.iload_n 2, 1) := by decide +kernel
theorem dX4_dryShips_5 : decode cX4_dryShips 5 = .ok (.aload_n 0, 1) := by decide +kernel
theorem dX4_dryShips_6 : decode cX4_dryShips 6 = .ok (.getfield 47, 3) := by decide +kernel
theorem dX4_dryShips_9 : decode cX4_dryShips 9 = .ok (.if_icmp .ge 24, 3) := by decide +kernel
theorem dX4_dryShips_12 : decode cX4_dryShips 12 = .ok (.aload_n 0, 1) := by decide +kernel
theorem dX4_dryShips_13 : decode cX4_dryShips 13 = .ok (.getfield 22, 3) := by decide +kernel
theorem dX4_dryShips_16 : decode cX4_dryShips 16 = .ok (.iload_n 2, 1) := by decide +kernel
theorem dX4_dryShips_17 : decode cX4_dryShips 17 = .ok (.aaload, 1) := by decide +kernel
theorem dX4_dryShips_18 : decode cX4_dryShips 18 = .ok (.invokevirtual 210, 3) := by decide +kernel
theorem dX4_dryShips_21 : decode cX4_dryShips 21 = .ok (.ifCond .eq 6, 3) := by decide +kernel
theorem dX4_dryShips_24 : decode cX4_dryShips 24 = .ok (.iinc 1 1, 3) := by decide +kernel
theorem dX4_dryShips_27 : decode cX4_dryShips 27 = .ok (.iinc 2 1, 3) := by decide +kernel
theorem dX4_dryShips_30 : decode cX4_dryShips 30 = .ok (.goto (-26), 3) := by decide +kernel
theorem dX4_dryShips_33 : decode cX4_dryShips 33 = .ok (.iload_n 1, 1) := by decide +kernel
theorem dX4_dryShips_34 : decode cX4_dryShips 34 = .ok (.ireturn, 1) := by decide +kernel
theorem dX4_lastDayOf_0 : decode cX4_lastDayOf 0 = .ok (.aload_n 1, 1) := by decide +kernel
theorem dX4_lastDayOf_1 : decode cX4_lastDayOf 1 = .ok (.invokevirtual 119, 3) := by decide +kernel
theorem dX4_lastDayOf_4 : decode cX4_lastDayOf 4 = .ok (.ifCond .eq 10, 3) := by decide +kernel
theorem dX4_lastDayOf_7 : decode cX4_lastDayOf 7 = .ok (.aload_n 1, 1) := by decide +kernel
theorem dX4_lastDayOf_8 : decode cX4_lastDayOf 8 = .ok (.getfield 106, 3) := by decide +kernel
theorem dX4_lastDayOf_11 : decode cX4_lastDayOf 11 = .ok (.goto 9, 3) := by decide +kernel
theorem dX4_lastDayOf_14 : decode cX4_lastDayOf 14 = .ok (.aload_n 0, 1) := by decide +kernel
theorem dX4_lastDayOf_15 : decode cX4_lastDayOf 15 = .ok (.getfield 43, 3) := by decide +kernel
theorem dX4_lastDayOf_18 : decode cX4_lastDayOf 18 = .ok (.iconst 1, 1) := by decide +kernel
theorem dX4_lastDayOf_19 : decode cX4_lastDayOf 19 = .ok (.isub, 1) := by decide +kernel
theorem dX4_lastDayOf_20 : decode cX4_lastDayOf 20 = .ok (.ireturn, 1) := by decide +kernel
theorem dX4_counts_0 : decode cX4_counts 0 = .ok (.aload_n 1, 1) := by decide +kernel
theorem dX4_counts_1 : decode cX4_counts 1 = .ok (.iconst 3, 1) := by decide +kernel
theorem dX4_counts_2 : decode cX4_counts 2 = .ok (.invokevirtual 234, 3) := by decide +kernel
theorem dX4_counts_5 : decode cX4_counts 5 = .ok (.ifCond .eq 13, 3) := by decide +kernel
theorem dX4_counts_8 : decode cX4_counts 8 = .ok (.aload_n 0, 1) := by decide +kernel
theorem dX4_counts_9 : decode cX4_counts 9 = .ok (.iload_n 2, 1) := by decide +kernel
theorem dX4_counts_10 : decode cX4_counts 10 = .ok (.invokevirtual 228, 3) := by decide +kernel
theorem dX4_counts_13 : decode cX4_counts 13 = .ok (.ifCond .eq 5, 3) := by decide +kernel
theorem dX4_counts_16 : decode cX4_counts 16 = .ok (.iconst 0, 1) := by decide +kernel
theorem dX4_counts_17 : decode cX4_counts 17 = .ok (.ireturn, 1) := by decide +kernel
theorem dX4_counts_18 : decode cX4_counts 18 = .ok (.aload_n 1, 1) := by decide +kernel
theorem dX4_counts_19 : decode cX4_counts 19 = .ok (.iconst 4, 1) := by decide +kernel
theorem dX4_counts_20 : decode cX4_counts 20 = .ok (.invokevirtual 234, 3) := by decide +kernel
theorem dX4_counts_23 : decode cX4_counts 23 = .ok (.ifCond .eq 14, 3) := by decide +kernel
theorem dX4_counts_26 : decode cX4_counts 26 = .ok (.iload_n 2, 1) := by decide +kernel
theorem dX4_counts_27 : decode cX4_counts 27 = .ok (.bipush 7, 2) := by decide +kernel
theorem dX4_counts_29 : decode cX4_counts 29 = .ok (.irem, 1) := by decide +kernel
theorem dX4_counts_30 : decode cX4_counts 30 = .ok (.bipush 6, 2) := by decide +kernel
theorem dX4_counts_32 : decode cX4_counts 32 = .ok (.if_icmp .ne 5, 3) := by decide +kernel
theorem dX4_counts_35 : decode cX4_counts 35 = .ok (.iconst 0, 1) := by decide +kernel
theorem dX4_counts_36 : decode cX4_counts 36 = .ok (.ireturn, 1) := by decide +kernel
theorem dX4_counts_37 : decode cX4_counts 37 = .ok (.aload_n 1, 1) := by decide +kernel
theorem dX4_counts_38 : decode cX4_counts 38 = .ok (.iconst 5, 1) := by decide +kernel
theorem dX4_counts_39 : decode cX4_counts 39 = .ok (.invokevirtual 234, 3) := by decide +kernel
theorem dX4_counts_42 : decode cX4_counts 42 = .ok (.ifCond .eq 13, 3) := by decide +kernel
theorem dX4_counts_45 : decode cX4_counts 45 = .ok (.aload_n 1, 1) := by decide +kernel
theorem dX4_counts_46 : decode cX4_counts 46 = .ok (.getfield 116, 3) := by decide +kernel
theorem dX4_counts_49 : decode cX4_counts 49 = .ok (.iload_n 2, 1) := by decide +kernel
theorem dX4_counts_50 : decode cX4_counts 50 = .ok (.iaload, 1) := by decide +kernel
theorem dX4_counts_51 : decode cX4_counts 51 = .ok (.iconst (-1), 1) := by decide +kernel
theorem dX4_counts_52 : decode cX4_counts 52 = .ok (.if_icmp .eq 7, 3) := by decide +kernel
theorem dX4_counts_55 : decode cX4_counts 55 = .ok (.iconst 1, 1) := by decide +kernel
theorem dX4_counts_56 : decode cX4_counts 56 = .ok (.goto 4, 3) := by decide +kernel
theorem dX4_counts_59 : decode cX4_counts 59 = .ok (.iconst 0, 1) := by decide +kernel
theorem dX4_counts_60 : decode cX4_counts 60 = .ok (.ireturn, 1) := by decide +kernel
theorem dX4_usedBy_0 : decode cX4_usedBy 0 = .ok (.iconst 0, 1) := by decide +kernel
theorem dX4_usedBy_1 : decode cX4_usedBy 1 = .ok (.istore_n 2, 1) := by decide +kernel
theorem dX4_usedBy_2 : decode cX4_usedBy 2 = .ok (.aload_n 1, 1) := by decide +kernel
theorem dX4_usedBy_3 : decode cX4_usedBy 3 = .ok (.getfield 95, 3) := by decide +kernel
theorem dX4_usedBy_6 : decode cX4_usedBy 6 = .ok (.istore_n 3, 1) := by decide +kernel
theorem dX4_usedBy_7 : decode cX4_usedBy 7 = .ok (.iload_n 3, 1) := by decide +kernel
theorem dX4_usedBy_8 : decode cX4_usedBy 8 = .ok (.aload_n 0, 1) := by decide +kernel
theorem dX4_usedBy_9 : decode cX4_usedBy 9 = .ok (.aload_n 1, 1) := by decide +kernel
theorem dX4_usedBy_10 : decode cX4_usedBy 10 = .ok (.invokevirtual 161, 3) := by decide +kernel
theorem dX4_usedBy_13 : decode cX4_usedBy 13 = .ok (.if_icmp .gt 21, 3) := by decide +kernel
theorem dX4_usedBy_16 : decode cX4_usedBy 16 = .ok (.aload_n 0, 1) := by decide +kernel
theorem dX4_usedBy_17 : decode cX4_usedBy 17 = .ok (.aload_n 1, 1) := by decide +kernel
theorem dX4_usedBy_18 : decode cX4_usedBy 18 = .ok (.iload_n 3, 1) := by decide +kernel
theorem dX4_usedBy_19 : decode cX4_usedBy 19 = .ok (.invokevirtual 164, 3) := by decide +kernel
theorem dX4_usedBy_22 : decode cX4_usedBy 22 = .ok (.ifCond .eq 6, 3) := by decide +kernel
theorem dX4_usedBy_25 : decode cX4_usedBy 25 = .ok (.iinc 2 1, 3) := by decide +kernel
theorem dX4_usedBy_28 : decode cX4_usedBy 28 = .ok (.iinc 3 1, 3) := by decide +kernel
theorem dX4_usedBy_31 : decode cX4_usedBy 31 = .ok (.goto (-24), 3) := by decide +kernel
theorem dX4_usedBy_34 : decode cX4_usedBy 34 = .ok (.iload_n 2, 1) := by decide +kernel
theorem dX4_usedBy_35 : decode cX4_usedBy 35 = .ok (.ireturn, 1) := by decide +kernel
theorem dX4_owedBy_0 : decode cX4_owedBy 0 = .ok (.aload_n 0, 1) := by decide +kernel
theorem dX4_owedBy_1 : decode cX4_owedBy 1 = .ok (.aload_n 1, 1) := by decide +kernel
theorem dX4_owedBy_2 : decode cX4_owedBy 2 = .ok (.invokevirtual 154, 3) := by decide +kernel
theorem dX4_owedBy_5 : decode cX4_owedBy 5 = .ok (.aload_n 1, 1) := by decide +kernel
theorem dX4_owedBy_6 : decode cX4_owedBy 6 = .ok (.getfield 146, 3) := by decide +kernel
theorem dX4_owedBy_9 : decode cX4_owedBy 9 = .ok (.iconst 0, 1) := by decide +kernel
theorem dX4_owedBy_10 : decode cX4_owedBy 10 = .ok (.iaload, 1) := by decide +kernel
theorem dX4_owedBy_11 : decode cX4_owedBy 11 = .ok (.isub, 1) := by decide +kernel
theorem dX4_owedBy_12 : decode cX4_owedBy 12 = .ok (.istore_n 2, 1) := by decide +kernel
theorem dX4_owedBy_13 : decode cX4_owedBy 13 = .ok (.iload_n 2, 1) := by decide +kernel
theorem dX4_owedBy_14 : decode cX4_owedBy 14 = .ok (.ifCond .le 12, 3) := by decide +kernel
theorem dX4_owedBy_17 : decode cX4_owedBy 17 = .ok (.iload_n 2, 1) := by decide +kernel
theorem dX4_owedBy_18 : decode cX4_owedBy 18 = .ok (.aload_n 1, 1) := by decide +kernel
theorem dX4_owedBy_19 : decode cX4_owedBy 19 = .ok (.getfield 146, 3) := by decide +kernel
theorem dX4_owedBy_22 : decode cX4_owedBy 22 = .ok (.iconst 1, 1) := by decide +kernel
theorem dX4_owedBy_23 : decode cX4_owedBy 23 = .ok (.iaload, 1) := by decide +kernel
theorem dX4_owedBy_24 : decode cX4_owedBy 24 = .ok (.imul, 1) := by decide +kernel
theorem dX4_owedBy_25 : decode cX4_owedBy 25 = .ok (.ireturn, 1) := by decide +kernel
theorem dX4_owedBy_26 : decode cX4_owedBy 26 = .ok (.aload_n 1, 1) := by decide +kernel
theorem dX4_owedBy_27 : decode cX4_owedBy 27 = .ok (.invokevirtual 119, 3) := by decide +kernel
theorem dX4_owedBy_30 : decode cX4_owedBy 30 = .ok (.ifCond .eq 14, 3) := by decide +kernel
theorem dX4_owedBy_33 : decode cX4_owedBy 33 = .ok (.iload_n 2, 1) := by decide +kernel
theorem dX4_owedBy_34 : decode cX4_owedBy 34 = .ok (.aload_n 1, 1) := by decide +kernel
theorem dX4_owedBy_35 : decode cX4_owedBy 35 = .ok (.getfield 146, 3) := by decide +kernel
theorem dX4_owedBy_38 : decode cX4_owedBy 38 = .ok (.iconst 2, 1) := by decide +kernel
theorem dX4_owedBy_39 : decode cX4_owedBy 39 = .ok (.iaload, 1) := by decide +kernel
theorem dX4_owedBy_40 : decode cX4_owedBy 40 = .ok (.imul, 1) := by decide +kernel
theorem dX4_owedBy_41 : decode cX4_owedBy 41 = .ok (.goto 4, 3) := by decide +kernel
theorem dX4_owedBy_44 : decode cX4_owedBy 44 = .ok (.iconst 0, 1) := by decide +kernel
theorem dX4_owedBy_45 : decode cX4_owedBy 45 = .ok (.ireturn, 1) := by decide +kernel
theorem dX4_shareOf_0 : decode cX4_shareOf 0 = .ok (.aload_n 0, 1) := by decide +kernel
theorem dX4_shareOf_1 : decode cX4_shareOf 1 = .ok (.iload_n 2, 1) := by decide +kernel
theorem dX4_shareOf_2 : decode cX4_shareOf 2 = .ok (.invokevirtual 231, 3) := by decide +kernel
theorem dX4_shareOf_5 : decode cX4_shareOf 5 = .ok (.ifCond .eq 5, 3) := by decide +kernel
theorem dX4_shareOf_8 : decode cX4_shareOf 8 = .ok (.iconst 0, 1) := by decide +kernel
theorem dX4_shareOf_9 : decode cX4_shareOf 9 = .ok (.ireturn, 1) := by decide +kernel
theorem dX4_shareOf_10 : decode cX4_shareOf 10 = .ok (.aload_n 1, 1) := by decide +kernel
theorem dX4_shareOf_11 : decode cX4_shareOf 11 = .ok (.getfield 116, 3) := by decide +kernel
theorem dX4_shareOf_14 : decode cX4_shareOf 14 = .ok (.iload_n 2, 1) := by decide +kernel
theorem dX4_shareOf_15 : decode cX4_shareOf 15 = .ok (.iaload, 1) := by decide +kernel
theorem dX4_shareOf_16 : decode cX4_shareOf 16 = .ok (.ifCond .ne 7, 3) := by decide +kernel
theorem dX4_shareOf_19 : decode cX4_shareOf 19 = .ok (.iconst 1, 1) := by decide +kernel
theorem dX4_shareOf_20 : decode cX4_shareOf 20 = .ok (.goto 4, 3) := by decide +kernel
theorem dX4_shareOf_23 : decode cX4_shareOf 23 = .ok (.iconst 2, 1) := by decide +kernel
theorem dX4_shareOf_24 : decode cX4_shareOf 24 = .ok (.ireturn, 1) := by decide +kernel
