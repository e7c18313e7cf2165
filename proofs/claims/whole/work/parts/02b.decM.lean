theorem dX5_init_0 : decode cX5_init 0 = .ok (.aload_n 0, 1) := by decide +kernel
theorem dX5_init_1 : decode cX5_init 1 = .ok (.invokespecial 1, 3) := by decide +kernel
theorem dX5_init_4 : decode cX5_init 4 = .ok (.aload_n 0, 1) := by decide +kernel
theorem dX5_init_5 : decode cX5_init 5 = .ok (.sipush 201, 3) := by decide +kernel
theorem dX5_init_8 : decode cX5_init 8 = .ok (.newarray .int, 2) := by decide +kernel
theorem dX5_init_10 : decode cX5_init 10 = .ok (.putfield 7, 3) := by decide +kernel
theorem dX5_init_13 : decode cX5_init 13 = .ok (.aload_n 0, 1) := by decide +kernel
theorem dX5_init_14 : decode cX5_init 14 = .ok (.bipush 6, 2) := by decide +kernel
theorem dX5_init_16 : decode cX5_init 16 = .ok (.newarray .int, 2) := by decide +kernel
theorem dX5_init_18 : decode cX5_init 18 = .ok (.putfield 13, 3) := by decide +kernel
theorem dX5_init_21 : decode cX5_init 21 = .ok (.aload_n 0, 1) := by decide +kernel
theorem dX5_init_22 : decode cX5_init 22 = .ok (.bipush 6, 2) := by decide +kernel
theorem dX5_init_24 : decode cX5_init 24 = .ok (.newarray .int, 2) := by decide +kernel
theorem dX5_init_26 : decode cX5_init 26 = .ok (.putfield 16, 3) := by decide +kernel
theorem dX5_init_29 : decode cX5_init 29 = .ok (.aload_n 0, 1) := by decide +kernel
theorem dX5_init_30 : decode cX5_init 30 = .ok (.bipush 10, 2) := by decide +kernel
theorem dX5_init_32 : decode cX5_init 32 = .ok (.newarray .int, 2) := by decide +kernel
theorem dX5_init_34 : decode cX5_init 34 = .ok (.putfield 19, 3) := by decide +kernel
theorem dX5_init_37 : decode cX5_init 37 = .ok (.aload_n 0, 1) := by decide +kernel
theorem dX5_init_38 : decode cX5_init 38 = .ok (.bipush 10, 2) := by decide +kernel
theorem dX5_init_40 : decode cX5_init 40 = .ok (.newarray .int, 2) := by decide +kernel
theorem dX5_init_42 : decode cX5_init 42 = .ok (.putfield 22, 3) := by decide +kernel
theorem dX5_init_45 : decode cX5_init 45 = .ok (.aload_n 0, 1) := by decide +kernel
theorem dX5_init_46 : decode cX5_init 46 = .ok (.bipush 10, 2) := by decide +kernel
theorem dX5_init_48 : decode cX5_init 48 = .ok (.newarray .int, 2) := by decide +kernel
theorem dX5_init_50 : decode cX5_init 50 = .ok (.putfield 25, 3) := by decide +kernel
theorem dX5_init_53 : decode cX5_init 53 = .ok (.aload_n 0, 1) := by decide +kernel
theorem dX5_init_54 : decode cX5_init 54 = .ok (.bipush 10, 2) := by decide +kernel
theorem dX5_init_56 : decode cX5_init 56 = .ok (.newarray .int, 2) := by decide +kernel
theorem dX5_init_58 : decode cX5_init 58 = .ok (.putfield 28, 3) := by decide +kernel
theorem dX5_init_61 : decode cX5_init 61 = .ok (.aload_n 0, 1) := by decide +kernel
theorem dX5_init_62 : decode cX5_init 62 = .ok (.bipush 10, 2) := by decide +kernel
theorem dX5_init_64 : decode cX5_init 64 = .ok (.newarray .int, 2) := by decide +kernel
theorem dX5_init_66 : decode cX5_init 66 = .ok (.putfield 31, 3) := by decide +kernel
theorem dX5_init_69 : decode cX5_init 69 = .ok (.aload_n 0, 1) := by decide +kernel
theorem dX5_init_70 : decode cX5_init 70 = .ok (.bipush 60, 2) := by decide +kernel
theorem dX5_init_72 : decode cX5_init 72 = .ok (.newarray .int, 2) := by decide +kernel
theorem dX5_init_74 : decode cX5_init 74 = .ok (.putfield 34, 3) := by decide +kernel
theorem dX5_init_77 : decode cX5_init 77 = .ok (.aload_n 0, 1) := by decide +kernel
theorem dX5_init_78 : decode cX5_init 78 = .ok (.sipush 2010, 3) := by decide +kernel
theorem dX5_init_81 : decode cX5_init 81 = .ok (.newarray .int, 2) := by decide +kernel
theorem dX5_init_83 : decode cX5_init 83 = .ok (.putfield 37, 3) := by decide +kernel
theorem dX5_init_86 : decode cX5_init 86 = .ok (.aload_n 0, 1) := by decide +kernel
theorem dX5_init_87 : decode cX5_init 87 = .ok (.sipush 201, 3) := by decide +kernel
theorem dX5_init_90 : decode cX5_init 90 = .ok (.newarray .int, 2) := by decide +kernel
theorem dX5_init_92 : decode cX5_init 92 = .ok (.putfield 40, 3) := by decide +kernel
theorem dX5_init_95 : decode cX5_init 95 = .ok (.aload_n 0, 1) := by decide +kernel
theorem dX5_init_96 : decode cX5_init 96 = .ok (.sipush 201, 3) := by decide +kernel
theorem dX5_init_99 : decode cX5_init 99 = .ok (.newarray .int, 2) := by decide +kernel
theorem dX5_init_101 : decode cX5_init 101 = .ok (.putfield 43, 3) := by decide +kernel
theorem dX5_init_104 : decode cX5_init 104 = .ok (.aload_n 0, 1) := by decide +kernel
theorem dX5_init_105 : decode cX5_init 105 = .ok (.sipush 201, 3) := by decide +kernel
theorem dX5_init_108 : decode cX5_init 108 = .ok (.newarray .int, 2) := by decide +kernel
theorem dX5_init_110 : decode cX5_init 110 = .ok (.putfield 46, 3) := by decide +kernel
theorem dX5_init_113 : decode cX5_init 113 = .ok (.aload_n 0, 1) := by decide +kernel
theorem dX5_init_114 : decode cX5_init 114 = .ok (.bipush 20, 2) := by decide +kernel
theorem dX5_init_116 : decode cX5_init 116 = .ok (.putfield 49, 3) := by decide +kernel
theorem dX5_init_119 : decode cX5_init 119 = .ok (.aload_n 0, 1) := by decide +kernel
theorem dX5_init_120 : decode cX5_init 120 = .ok (.bipush 30, 2) := by decide +kernel
theorem dX5_init_122 : decode cX5_init 122 = .ok (.newarray .int, 2) := by decide +kernel
theorem dX5_init_124 : decode cX5_init 124 = .ok (.putfield 53, 3) := by decide +kernel
theorem dX5_init_127 : decode cX5_init 127 = .ok (.aload_n 0, 1) := by decide +kernel
theorem dX5_init_128 : decode cX5_init 128 = .ok (.bipush 60, 2) := by decide +kernel
theorem dX5_init_130 : decode cX5_init 130 = .ok (.newarray .int, 2) := by decide +kernel
theorem dX5_init_132 : decode cX5_init 132 = .ok (.putfield 56, 3) := by decide +kernel
theorem dX5_init_135 : decode cX5_init 135 = .ok (.aload_n 0, 1) := by decide +kernel
theorem dX5_init_136 : decode cX5_init 136 = .ok (.bipush 6, 2) := by decide +kernel
theorem dX5_init_138 : decode cX5_init 138 = .ok (.newarray .int, 2) := by decide +kernel
theorem dX5_init_140 : decode cX5_init 140 = .ok (.putfield 59, 3) := by decide +kernel
theorem dX5_init_143 : decode cX5_init 143 = .ok (.aload_n 0, 1) := by decide +kernel
theorem dX5_init_144 : decode cX5_init 144 = .ok (.bipush 10, 2) := by decide +kernel
theorem dX5_init_146 : decode cX5_init 146 = .ok (.newarray .boolean, 2) := by decide +kernel
theorem dX5_init_148 : decode cX5_init 148 = .ok (.putfield 62, 3) := by decide +kernel
theorem dX5_init_151 : decode cX5_init 151 = .ok (.aload_n 0, 1) := by decide +kernel
theorem dX5_init_152 : decode cX5_init 152 = .ok (.iconst 0, 1) := by decide +kernel
theorem dX5_init_153 : decode cX5_init 153 = .ok (.putfield 66, 3) := by decide +kernel
theorem dX5_init_156 : decode cX5_init 156 = .ok (.return_, 1) := by decide +kernel
theorem dX5_in_0 : decode cX5_in 0 = .ok (.iload_n 0, 1) := by decide +kernel
theorem dX5_in_1 : decode cX5_in 1 = .ok (.iload_n 1, 1) := by decide +kernel
theorem dX5_in_2 : decode cX5_in 2 = .ok (.if_icmp .lt 12, 3) := by decide +kernel
theorem dX5_in_5 : decode cX5_in 5 = .ok (.iload_n 0, 1) := by decide +kernel
theorem dX5_in_6 : decode cX5_in 6 = .ok (.iload_n 2, 1) := by decide +kernel
theorem dX5_in_7 : decode cX5_in 7 = .ok (.if_icmp .gt 7, 3) := by decide +kernel
theorem dX5_in_10 : decode cX5_in 10 = .ok (.iconst 1, 1) := by decide +kernel
theorem dX5_in_11 : decode cX5_in 11 = .ok (.goto 4, 3) := by decide +kernel
theorem dX5_in_14 : decode cX5_in 14 = .ok (.iconst 0, 1) := by decide +kernel
theorem dX5_in_15 : decode cX5_in 15 = .ok (.ireturn, 1) := by decide +kernel
theorem dX5_layer_0 : decode cX5_layer 0 = .ok (.aload_n 0, 1) := by decide +kernel
theorem dX5_layer_1 : decode cX5_layer 1 = .ok (.iconst 0, 1) := by decide +kernel
theorem dX5_layer_2 : decode cX5_layer 2 = .ok (.putfield 66, 3) := by decide +kernel
theorem dX5_layer_5 : decode cX5_layer 5 = .ok (.iload_n 1, 1) := by decide +kernel
theorem dX5_layer_6 : decode cX5_layer 6 = .ok (.iconst 1, 1) := by decide +kernel
theorem dX5_layer_7 : decode cX5_layer 7 = .ok (.sipush 5000, 3) := by decide +kernel
theorem dX5_layer_10 : decode cX5_layer 10 = .ok (.invokestatic 69, 3) := by decide +kernel
theorem dX5_layer_13 : decode cX5_layer 13 = .ok (.ifCond .eq 13, 3) := by decide +kernel
theorem dX5_layer_16 : decode cX5_layer 16 = .ok (.iload_n 2, 1) := by decide +kernel
theorem dX5_layer_17 : decode cX5_layer 17 = .ok (.iconst 1, 1) := by decide +kernel
theorem dX5_layer_18 : decode cX5_layer 18 = .ok (.bipush 100, 2) := by decide +kernel
theorem dX5_layer_20 : decode cX5_layer 20 = .ok (.invokestatic 69, 3) := by decide +kernel
theorem dX5_layer_23 : decode cX5_layer 23 = .ok (.ifCond .ne 5, 3) := by decide +kernel
theorem dX5_layer_26 : decode cX5_layer 26 = .ok (.iconst (-1), 1) := by decide +kernel
theorem dX5_layer_27 : decode cX5_layer 27 = .ok (.ireturn, 1) := by decide +kernel
theorem dX5_layer_28 : decode cX5_layer 28 = .ok (.aload_n 0, 1) := by decide +kernel
theorem dX5_layer_29 : decode cX5_layer 29 = .ok (.getfield 73, 3) := by decide +kernel
theorem dX5_layer_32 : decode cX5_layer 32 = .ok (.bipush 6, 2) := by decide +kernel
theorem dX5_layer_34 : decode cX5_layer 34 = .ok (.if_icmp .ne 6, 3) := by decide +kernel
theorem dX5_layer_37 : decode cX5_layer 37 = .ok (.bipush (-3), 2) := by decide +kernel
theorem dX5_layer_39 : decode cX5_layer 39 = .ok (.ireturn, 1) := by decide +kernel
theorem dX5_layer_40 : decode cX5_layer 40 = .ok (.aload_n 0, 1) := by decide +kernel
theorem dX5_layer_41 : decode cX5_layer 41 = .ok (.getfield 13, 3) := by decide +kernel
theorem dX5_layer_44 : decode cX5_layer 44 = .ok (.aload_n 0, 1) := by decide +kernel
theorem dX5_layer_45 : decode cX5_layer 45 = .ok (.getfield 73, 3) := by decide +kernel
theorem dX5_layer_48 : decode cX5_layer 48 = .ok (.iload_n 1, 1) := by decide +kernel
theorem dX5_layer_49 : decode cX5_layer 49 = .ok (.iastore, 1) := by decide +kernel
theorem dX5_layer_50 : decode cX5_layer 50 = .ok (.aload_n 0, 1) := by decide +kernel
theorem dX5_layer_51 : decode cX5_layer 51 = .ok (.getfield 16, 3) := by decide +kernel
theorem dX5_layer_54 : decode cX5_layer 54 = .ok (.aload_n 0, 1) := by decide +kernel
theorem dX5_layer_55 : decode cX5_layer 55 = .ok (.getfield 73, 3) := by decide +kernel
theorem dX5_layer_58 : decode cX5_layer 58 = .ok (.iload_n 2, 1) := by decide +kernel
theorem dX5_layer_59 : decode cX5_layer 59 = .ok (.iastore, 1) := by decide +kernel
theorem dX5_layer_60 : decode cX5_layer 60 = .ok (.aload_n 0, 1) := by decide +kernel
theorem dX5_layer_61 : decode cX5_layer 61 = .ok (.dup, 1) := by decide +kernel
theorem dX5_layer_62 : decode cX5_layer 62 = .ok (.getfield 73, 3) := by decide +kernel
theorem dX5_layer_65 : decode cX5_layer 65 = .ok (.iconst 1, 1) := by decide +kernel
theorem dX5_layer_66 : decode cX5_layer 66 = .ok (.iadd, 1) := by decide +kernel
theorem dX5_layer_67 : decode cX5_layer 67 = .ok (.putfield 73, 3) := by decide +kernel
theorem dX5_layer_70 : decode cX5_layer 70 = .ok (.aload_n 0, 1) := by decide +kernel
theorem dX5_layer_71 : decode cX5_layer 71 = .ok (.getfield 73, 3) := by decide +kernel
theorem dX5_layer_74 : decode cX5_layer 74 = .ok (.iconst 1, 1) := by decide +kernel
theorem dX5_layer_75 : decode cX5_layer 75 = .ok (.isub, 1) := by decide +kernel
theorem dX5_layer_76 : decode cX5_layer 76 = .ok (.ireturn, 1) := by decide +kernel
theorem dX5_left_0 : decode cX5_left 0 = .ok (.aload_n 0, 1) := by decide +kernel
theorem dX5_left_1 : decode cX5_left 1 = .ok (.iconst 0, 1) := by decide +kernel
theorem dX5_left_2 : decode cX5_left 2 = .ok (.putfield 66, 3) := by decide +kernel
theorem dX5_left_5 : decode cX5_left 5 = .ok (.iload_n 1, 1) := by decide +kernel
theorem dX5_left_6 : decode cX5_left 6 = .ok (.iconst 0, 1) := by decide +kernel
theorem dX5_left_7 : decode cX5_left 7 = .ok (.aload_n 0, 1) := by decide +kernel
theorem dX5_left_8 : decode cX5_left 8 = .ok (.getfield 73, 3) := by decide +kernel
theorem dX5_left_11 : decode cX5_left 11 = .ok (.iconst 1, 1) := by decide +kernel
theorem dX5_left_12 : decode cX5_left 12 = .ok (.isub, 1) := by decide +kernel
theorem dX5_left_13 : decode cX5_left 13 = .ok (.invokestatic 69, 3) := by decide +kernel
theorem dX5_left_16 : decode cX5_left 16 = .ok (.ifCond .eq 12, 3) := by decide +kernel
theorem dX5_left_19 : decode cX5_left 19 = .ok (.aload_n 0, 1) := by decide +kernel
theorem dX5_left_20 : decode cX5_left 20 = .ok (.getfield 13, 3) := by decide +kernel
theorem dX5_left_23 : decode cX5_left 23 = .ok (.iload_n 1, 1) := by decide +kernel
theorem dX5_left_24 : decode cX5_left 24 = .ok (.iaload, 1) := by decide +kernel
theorem dX5_left_25 : decode cX5_left 25 = .ok (.goto 4, 3) := by decide +kernel
theorem dX5_left_28 : decode cX5_left 28 = .ok (.iconst (-1), 1) := by decide +kernel
theorem dX5_left_29 : decode cX5_left 29 = .ok (.ireturn, 1) := by decide +kernel
theorem dX5_swell_0 : decode cX5_swell 0 = .ok (.aload_n 0, 1) := by decide +kernel
theorem dX5_swell_1 : decode cX5_swell 1 = .ok (.iconst 0, 1) := by decide +kernel
theorem dX5_swell_2 : decode cX5_swell 2 = .ok (.putfield 66, 3) := by decide +kernel
theorem dX5_swell_5 : decode cX5_swell 5 = .ok (.iload_n 1, 1) := by decide +kernel
theorem dX5_swell_6 : decode cX5_swell 6 = .ok (.aload_n 0, 1) := by decide +kernel
theorem dX5_swell_7 : decode cX5_swell 7 = .ok (.getfield 76, 3) := by decide +kernel
theorem dX5_swell_10 : decode cX5_swell 10 = .ok (.sipush 200, 3) := by decide +kernel
theorem dX5_swell_13 : decode cX5_swell 13 = .ok (.invokestatic 69, 3) := by decide +kernel
theorem dX5_swell_16 : decode cX5_swell 16 = .ok (.ifCond .eq 13, 3) := by decide +kernel
theorem dX5_swell_19 : decode cX5_swell 19 = .ok (.iload_n 2, 1) := by decide +kernel
theorem dX5_swell_20 : decode cX5_swell 20 = .ok (.iconst 0, 1) := by decide +kernel
theorem dX5_swell_21 : decode cX5_swell 21 = .ok (.bipush 9, 2) := by decide +kernel
theorem dX5_swell_23 : decode cX5_swell 23 = .ok (.invokestatic 69, 3) := by decide +kernel
theorem dX5_swell_26 : decode cX5_swell 26 = .ok (.ifCond .ne 5, 3) := by decide +kernel
theorem dX5_swell_29 : decode cX5_swell 29 = .ok (.iconst (-1), 1) := by decide +kernel
theorem dX5_swell_30 : decode cX5_swell 30 = .ok (.ireturn, 1) := by decide +kernel
theorem dX5_swell_31 : decode cX5_swell 31 = .ok (.aload_n 0, 1) := by decide +kernel
theorem dX5_swell_32 : decode cX5_swell 32 = .ok (.getfield 7, 3) := by decide +kernel
theorem dX5_swell_35 : decode cX5_swell 35 = .ok (.iload_n 1, 1) := by decide +kernel
theorem dX5_swell_36 : decode cX5_swell 36 = .ok (.iaload, 1) := by decide +kernel
theorem dX5_swell_37 : decode cX5_swell 37 = .ok (.istore_n 3, 1) := by decide +kernel
theorem dX5_swell_38 : decode cX5_swell 38 = .ok (.aload_n 0, 1) := by decide +kernel
theorem dX5_swell_39 : decode cX5_swell 39 = .ok (.getfield 7, 3) := by decide +kernel
theorem dX5_swell_42 : decode cX5_swell 42 = .ok (.iload_n 1, 1) := by decide +kernel
theorem dX5_swell_43 : decode cX5_swell 43 = .ok (.iload_n 2, 1) := by decide +kernel
theorem dX5_swell_44 : decode cX5_swell 44 = .ok (.iastore, 1) := by decide +kernel
theorem dX5_swell_45 : decode cX5_swell 45 = .ok (.iload_n 3, 1) := by decide +kernel
theorem dX5_swell_46 : decode cX5_swell 46 = .ok (.ireturn, 1) := by decide +kernel
theorem dX5_isShip_0 : decode cX5_isShip 0 = .ok (.iload_n 1, 1) := by decide +kernel
theorem dX5_isShip_1 : decode cX5_isShip 1 = .ok (.iconst 0, 1) := by decide +kernel
theorem dX5_isShip_2 : decode cX5_isShip 2 = .ok (.aload_n 0, 1) := by decide +kernel
theorem dX5_isShip_3 : decode cX5_isShip 3 = .ok (.getfield 79, 3) := by decide +kernel
theorem dX5_isShip_6 : decode cX5_isShip 6 = .ok (.iconst 1, 1) := by decide +kernel
theorem dX5_isShip_7 : decode cX5_isShip 7 = .ok (.isub, 1) := by decide +kernel
theorem dX5_isShip_8 : decode cX5_isShip 8 = .ok (.invokestatic 69, 3) := by decide +kernel
theorem dX5_isShip_11 : decode cX5_isShip 11 = .ok (.ireturn, 1) := by decide +kernel
theorem dX5_ship_0 : decode cX5_ship 0 = .ok (.aload_n 0, 1) := by decide +kernel
theorem dX5_ship_1 : decode cX5_ship 1 = .ok (.iconst 0, 1) := by decide +kernel
theorem dX5_ship_2 : decode cX5_ship 2 = .ok (.putfield 66, 3) := by decide +kernel
theorem dX5_ship_5 : decode cX5_ship 5 = .ok (.iload_n 1, 1) := by decide +kernel
theorem dX5_ship_6 : decode cX5_ship 6 = .ok (.iconst 0, 1) := by decide +kernel
theorem dX5_ship_7 : decode cX5_ship 7 = .ok (.iconst 2, 1) := by decide +kernel
theorem dX5_ship_8 : decode cX5_ship 8 = .ok (.invokestatic 69, 3) := by decide +kernel
theorem dX5_ship_11 : decode cX5_ship 11 = .ok (.ifCond .eq 24, 3) := by decide +kernel
theorem dX5_ship_14 : decode cX5_ship 14 = .ok (.iload_n 2, 1) := by decide +kernel
theorem dX5_ship_15 : decode cX5_ship 15 = .ok (.iconst 1, 1) := by decide +kernel
theorem dX5_ship_16 : decode cX5_ship 16 = .ok (.sipush 900, 3) := by decide +kernel
theorem dX5_ship_19 : decode cX5_ship 19 = .ok (.invokestatic 69, 3) := by decide +kernel
theorem dX5_ship_22 : decode cX5_ship 22 = .ok (.ifCond .eq 13, 3) := by decide +kernel
theorem dX5_ship_25 : decode cX5_ship 25 = .ok (.iload_n 3, 1) := by decide +kernel
theorem dX5_ship_26 : decode cX5_ship 26 = .ok (.iconst 1, 1) := by decide +kernel
theorem dX5_ship_27 : decode cX5_ship 27 = .ok (.bipush 90, 2) := by decide +kernel
theorem dX5_ship_29 : decode cX5_ship 29 = .ok (.invokestatic 69, 3) := by decide +kernel
theorem dX5_ship_32 : decode cX5_ship 32 = .ok (.ifCond .ne 5, 3) := by decide +kernel
theorem dX5_ship_35 : decode cX5_ship 35 = .ok (.iconst (-1), 1) := by decide +kernel
theorem dX5_ship_36 : decode cX5_ship 36 = .ok (.ireturn, 1) := by decide +kernel
theorem dX5_ship_37 : decode cX5_ship 37 = .ok (.aload_n 0, 1) := by decide +kernel
theorem dX5_ship_38 : decode cX5_ship 38 = .ok (.getfield 79, 3) := by decide +kernel
theorem dX5_ship_41 : decode cX5_ship 41 = .ok (.bipush 10, 2) := by decide +kernel
theorem dX5_ship_43 : decode cX5_ship 43 = .ok (.if_icmp .ne 6, 3) := by decide +kernel
theorem dX5_ship_46 : decode cX5_ship 46 = .ok (.bipush (-3), 2) := by decide +kernel
theorem dX5_ship_48 : decode cX5_ship 48 = .ok (.ireturn, 1) := by decide +kernel
theorem dX5_ship_49 : decode cX5_ship 49 = .ok (.aload_n 0, 1) := by decide +kernel
theorem dX5_ship_50 : decode cX5_ship 50 = .ok (.getfield 19, 3) := by decide +kernel
theorem dX5_ship_53 : decode cX5_ship 53 = .ok (.aload_n 0, 1) := by decide +kernel
theorem dX5_ship_54 : decode cX5_ship 54 = .ok (.getfield 79, 3) := by decide +kernel
theorem dX5_ship_57 : decode cX5_ship 57 = .ok (.iload_n 1, 1) := by decide +kernel
theorem dX5_ship_58 : decode cX5_ship 58 = .ok (.iastore, 1) := by decide +kernel
theorem dX5_ship_59 : decode cX5_ship 59 = .ok (.aload_n 0, 1) := by decide +kernel
theorem dX5_ship_60 : decode cX5_ship 60 = .ok (.getfield 22, 3) := by decide +kernel
theorem dX5_ship_63 : decode cX5_ship 63 = .ok (.aload_n 0, 1) := by decide +kernel
theorem dX5_ship_64 : decode cX5_ship 64 = .ok (.getfield 79, 3) := by decide +kernel
theorem dX5_ship_67 : decode cX5_ship 67 = .ok (.aload_n 0, 1) := by decide +kernel
theorem dX5_ship_68 : decode cX5_ship 68 = .ok (.getfield 76, 3) := by decide +kernel
theorem dX5_ship_71 : decode cX5_ship 71 = .ok (.iastore, 1) := by decide +kernel
theorem dX5_ship_72 : decode cX5_ship 72 = .ok (.aload_n 0, 1) := by decide +kernel
theorem dX5_ship_73 : decode cX5_ship 73 = .ok (.getfield 25, 3) := by decide +kernel
theorem dX5_ship_76 : decode cX5_ship 76 = .ok (.aload_n 0, 1) := by decide +kernel
theorem dX5_ship_77 : decode cX5_ship 77 = .ok (.getfield 79, 3) := by decide +kernel
theorem dX5_ship_80 : decode cX5_ship 80 = .ok (.iload_n 2, 1) := by decide +kernel
theorem dX5_ship_81 : decode cX5_ship 81 = .ok (.iastore, 1) := by decide +kernel
theorem dX5_ship_82 : decode cX5_ship 82 = .ok (.aload_n 0, 1) := by decide +kernel
theorem dX5_ship_83 : decode cX5_ship 83 = .ok (.getfield 28, 3) := by decide +kernel
theorem dX5_ship_86 : decode cX5_ship 86 = .ok (.aload_n 0, 1) := by decide +kernel
theorem dX5_ship_87 : decode cX5_ship 87 = .ok (.getfield 79, 3) := by decide +kernel
theorem dX5_ship_90 : decode cX5_ship 90 = .ok (.iload_n 3, 1) := by decide +kernel
theorem dX5_ship_91 : decode cX5_ship 91 = .ok (.iastore, 1) := by decide +kernel
theorem dX5_ship_92 : decode cX5_ship 92 = .ok (.aload_n 0, 1) := by decide +kernel
theorem dX5_ship_93 : decode cX5_ship 93 = .ok (.getfield 31, 3) := by decide +kernel
theorem dX5_ship_96 : decode cX5_ship 96 = .ok (.aload_n 0, 1) := by decide +kernel
theorem dX5_ship_97 : decode cX5_ship 97 = .ok (.getfield 79, 3) := by decide +kernel
theorem dX5_ship_100 : decode cX5_ship 100 = .ok (.bipush (-9), 2) := by decide +kernel
theorem dX5_ship_102 : decode cX5_ship 102 = .ok (.iastore, 1) := by decide +kernel
theorem dX5_ship_103 : decode cX5_ship 103 = .ok (.aload_n 0, 1) := by decide +kernel
theorem dX5_ship_104 : decode cX5_ship 104 = .ok (.dup, 1) := by decide +kernel
theorem dX5_ship_105 : decode cX5_ship 105 = .ok (.getfield 79, 3) := by decide +kernel
theorem dX5_ship_108 : decode cX5_ship 108 = .ok (.iconst 1, 1) := by decide +kernel
theorem dX5_ship_109 : decode cX5_ship 109 = .ok (.iadd, 1) := by decide +kernel
theorem dX5_ship_110 : decode cX5_ship 110 = .ok (.putfield 79, 3) := by decide +kernel
theorem dX5_ship_113 : decode cX5_ship 113 = .ok (.aload_n 0, 1) := by decide +kernel
theorem dX5_ship_114 : decode cX5_ship 114 = .ok (.getfield 79, 3) := by decide +kernel
theorem dX5_ship_117 : decode cX5_ship 117 = .ok (.iconst 1, 1) := by decide +kernel
theorem dX5_ship_118 : decode cX5_ship 118 = .ok (.isub, 1) := by decide +kernel
theorem dX5_ship_119 : decode cX5_ship 119 = .ok (.ireturn, 1) := by decide +kernel
theorem dX5_turnOf_0 : decode cX5_turnOf 0 = .ok (.bipush 10, 2) := by decide +kernel
theorem dX5_turnOf_2 : decode cX5_turnOf 2 = .ok (.aload_n 0, 1) := by decide +kernel
theorem dX5_turnOf_3 : decode cX5_turnOf 3 = .ok (.getfield 22, 3) := by decide +kernel
theorem dX5_turnOf_6 : decode cX5_turnOf 6 = .ok (.iload_n 1, 1) := by decide +kernel
theorem dX5_turnOf_7 : decode cX5_turnOf 7 = .ok (.iaload, 1) := by decide +kernel
theorem dX5_turnOf_8 : decode cX5_turnOf 8 = .ok (.imul, 1) := by decide +kernel
theorem dX5_turnOf_9 : decode cX5_turnOf 9 = .ok (.iload_n 1, 1) := by decide +kernel
theorem dX5_turnOf_10 : decode cX5_turnOf 10 = .ok (.iadd, 1) := by decide +kernel
theorem dX5_turnOf_11 : decode cX5_turnOf 11 = .ok (.istore_n 2, 1) := by decide +kernel
theorem dX5_turnOf_12 : decode cX5_turnOf 12 = .ok (.aload_n 0, 1) := by decide +kernel
theorem dX5_turnOf_13 : decode cX5_turnOf 13 = .ok (.getfield 19, 3) := by decide +kernel
theorem dX5_turnOf_16 : decode cX5_turnOf 16 = .ok (.iload_n 1, 1) := by decide +kernel
theorem dX5_turnOf_17 : decode cX5_turnOf 17 = .ok (.iaload, 1) := by decide +kernel
theorem dX5_turnOf_18 : decode cX5_turnOf 18 = .ok (.ifCond .le 9, 3) := by decide +kernel
theorem dX5_turnOf_21 : decode cX5_turnOf 21 = .ok (.iinc 2 (-500), 6) := by decide +kernel
theorem dX5_turnOf_27 : decode cX5_turnOf 27 = .ok (.aload_n 0, 1) := by decide +kernel
theorem dX5_turnOf_28 : decode cX5_turnOf 28 = .ok (.getfield 19, 3) := by decide +kernel
theorem dX5_turnOf_31 : decode cX5_turnOf 31 = .ok (.iload_n 1, 1) := by decide +kernel
theorem dX5_turnOf_32 : decode cX5_turnOf 32 = .ok (.iaload, 1) := by decide +kernel
theorem dX5_turnOf_33 : decode cX5_turnOf 33 = .ok (.iconst 2, 1) := by decide +kernel
theorem dX5_turnOf_34 : decode cX5_turnOf 34 = .ok (.if_icmp .ne 27, 3) := by decide +kernel
theorem dX5_turnOf_37 : decode cX5_turnOf 37 = .ok (.aload_n 0, 1) := by decide +kernel
theorem dX5_turnOf_38 : decode cX5_turnOf 38 = .ok (.getfield 76, 3) := by decide +kernel
theorem dX5_turnOf_41 : decode cX5_turnOf 41 = .ok (.aload_n 0, 1) := by decide +kernel
theorem dX5_turnOf_42 : decode cX5_turnOf 42 = .ok (.getfield 22, 3) := by decide +kernel
theorem dX5_turnOf_45 : decode cX5_turnOf 45 = .ok (.iload_n 1, 1) := by decide +kernel
theorem dX5_turnOf_46 : decode cX5_turnOf 46 = .ok (.iaload, 1) := by decide +kernel
theorem dX5_turnOf_47 : decode cX5_turnOf 47 = .ok (.isub, 1) := by decide +kernel
theorem dX5_turnOf_48 : decode cX5_turnOf 48 = .ok (.bipush 9, 2) := by decide +kernel
theorem dX5_turnOf_50 : decode cX5_turnOf 50 = .ok (.if_icmp .ge 11, 3) := by decide +kernel
theorem dX5_turnOf_53 : decode cX5_turnOf 53 = .ok (.iload_n 2, 1) := by decide +kernel
theorem dX5_turnOf_54 : decode cX5_turnOf 54 = .ok (.sipush 5000, 3) := by decide +kernel
theorem dX5_turnOf_57 : decode cX5_turnOf 57 = .ok (.iadd, 1) := by decide +kernel
theorem dX5_turnOf_58 : decode cX5_turnOf 58 = .ok (.goto 4, 3) := by decide +kernel
theorem dX5_turnOf_61 : decode cX5_turnOf 61 = .ok (.iload_n 2, 1) := by decide +kernel
theorem dX5_turnOf_62 : decode cX5_turnOf 62 = .ok (.ireturn, 1) := by decide +kernel
theorem dX5_turn_0 : decode cX5_turn 0 = .ok (.aload_n 0, 1) := by decide +kernel
theorem dX5_turn_1 : decode cX5_turn 1 = .ok (.iconst 0, 1) := by decide +kernel
theorem dX5_turn_2 : decode cX5_turn 2 = .ok (.putfield 66, 3) := by decide +kernel
theorem dX5_turn_5 : decode cX5_turn 5 = .ok (.aload_n 0, 1) := by decide +kernel
theorem dX5_turn_6 : decode cX5_turn 6 = .ok (.iload_n 1, 1) := by decide +kernel
theorem dX5_turn_7 : decode cX5_turn 7 = .ok (.invokevirtual 82, 3) := by decide +kernel
theorem dX5_turn_10 : decode cX5_turn 10 = .ok (.ifCond .ne 5, 3) := by decide +kernel
theorem dX5_turn_13 : decode cX5_turn 13 = .ok (.iconst (-1), 1) := by decide +kernel
theorem dX5_turn_14 : decode cX5_turn 14 = .ok (.ireturn, 1) := by decide +kernel
theorem dX5_turn_15 : decode cX5_turn 15 = .ok (.aload_n 0, 1) := by decide +kernel
theorem dX5_turn_16 : decode cX5_turn 16 = .ok (.dup, 1) := by decide +kernel
theorem dX5_turn_17 : decode cX5_turn 17 = .ok (.getfield 86, 3) := by decide +kernel
theorem dX5_turn_20 : decode cX5_turn 20 = .ok (.aload_n 0, 1) := by decide +kernel
theorem dX5_turn_21 : decode cX5_turn 21 = .ok (.getfield 19, 3) := by decide +kernel
theorem dX5_turn_24 : decode cX5_turn 24 = .ok (.iload_n 1, 1) := by decide +kernel
theorem dX5_turn_25 : decode cX5_turn 25 = .ok (.iaload, 1) := by decide +kernel
theorem dX5_turn_26 : decode cX5_turn 26 = .ok (.ifCond .ne 7, 3) := by decide +kernel
theorem dX5_turn_29 : decode cX5_turn 29 = .ok (.lconst 1, 1) := by decide +kernel
theorem dX5_turn_30 : decode cX5_turn 30 = .ok (.goto 22, 3) := by decide +kernel
theorem dX5_turn_33 : decode cX5_turn 33 = .ok (.aload_n 0, 1) := by decide +kernel
theorem dX5_turn_34 : decode cX5_turn 34 = .ok (.getfield 19, 3) := by decide +kernel
theorem dX5_turn_37 : decode cX5_turn 37 = .ok (.iload_n 1, 1) := by decide +kernel
theorem dX5_turn_38 : decode cX5_turn 38 = .ok (.iaload, 1) := by decide +kernel
theorem dX5_turn_39 : decode cX5_turn 39 = .ok (.iconst 1, 1) := by decide +kernel
theorem dX5_turn_40 : decode cX5_turn 40 = .ok (.if_icmp .ne 9, 3) := by decide +kernel
theorem dX5_turn_43 : decode cX5_turn 43 = .ok (.ldc2_w 90, 3) := by decide +kernel
theorem dX5_turn_46 : decode cX5_turn 46 = .ok (.goto 6, 3) := by decide +kernel
theorem dX5_turn_49 : decode cX5_turn 49 = .ok (.ldc2_w 92, 3) := by decide +kernel
theorem dX5_turn_52 : decode cX5_turn 52 = .ok (.ladd, 1) := by decide +kernel
theorem dX5_turn_53 : decode cX5_turn 53 = .ok (.putfield 86, 3) := by decide +kernel
theorem dX5_turn_56 : decode cX5_turn 56 = .ok (.aload_n 0, 1) := by decide +kernel
theorem dX5_turn_57 : decode cX5_turn 57 = .ok (.iload_n 1, 1) := by decide +kernel
theorem dX5_turn_58 : decode cX5_turn 58 = .ok (.invokevirtual 94, 3) := by decide +kernel
theorem dX5_turn_61 : decode cX5_turn 61 = .ok (.ireturn, 1) := by decide +kernel
theorem dX5_isLoaded_0 : decode cX5_isLoaded 0 = .ok (.aload_n 0, 1) := by decide +kernel
theorem dX5_isLoaded_1 : decode cX5_isLoaded 1 = .ok (.getfield 31, 3) := by decide +kernel
theorem dX5_isLoaded_4 : decode cX5_isLoaded 4 = .ok (.iload_n 1, 1) := by decide +kernel
theorem dX5_isLoaded_5 : decode cX5_isLoaded 5 = .ok (.iaload, 1) := by decide +kernel
theorem dX5_isLoaded_6 : decode cX5_isLoaded 6 = .ok (.bipush (-9), 2) := by decide +kernel
theorem dX5_isLoaded_8 : decode cX5_isLoaded 8 = .ok (.if_icmp .eq 7, 3) := by decide +kernel
theorem dX5_isLoaded_11 : decode cX5_isLoaded 11 = .ok (.iconst 1, 1) := by decide +kernel
theorem dX5_isLoaded_12 : decode cX5_isLoaded 12 = .ok (.goto 4, 3) := by decide +kernel
theorem dX5_isLoaded_15 : decode cX5_isLoaded 15 = .ok (.iconst 0, 1) := by decide +kernel
theorem dX5_isLoaded_16 : decode cX5_isLoaded 16 = .ok (.ireturn, 1) := by decide +kernel
theorem dX5_loads_0 : decode cX5_loads 0 = .ok (.iconst 0, 1) := by decide +kernel
theorem dX5_loads_1 : decode cX5_loads 1 = .ok (.istore_n 3, 1) := by decide +kernel
theorem dX5_loads_2 : decode cX5_loads 2 = .ok (.iconst 0, 1) := by decide +kernel
theorem dX5_loads_3 : decode cX5_loads 3 = .ok (.istore 4, 2) := by decide +kernel
theorem dX5_loads_5 : decode cX5_loads 5 = .ok (.iload 4, 2) := by decide +kernel
theorem dX5_loads_7 : decode cX5_loads 7 = .ok (.aload_n 0, 1) := by decide +kernel
theorem dX5_loads_8 : decode cX5_loads 8 = .ok (.getfield 73, 3) := by decide +kernel
theorem dX5_loads_11 : decode cX5_loads 11 = .ok (.if_icmp .ge 109, 3) := by decide +kernel
theorem dX5_loads_14 : decode cX5_loads 14 = .ok (.iload_n 2, 1) := by decide +kernel
theorem dX5_loads_15 : decode cX5_loads 15 = .ok (.iload_n 3, 1) := by decide +kernel
theorem dX5_loads_16 : decode cX5_loads 16 = .ok (.isub, 1) := by decide +kernel
theorem dX5_loads_17 : decode cX5_loads 17 = .ok (.istore 5, 2) := by decide +kernel
theorem dX5_loads_19 : decode cX5_loads 19 = .ok (.aload_n 0, 1) := by decide +kernel
theorem dX5_loads_20 : decode cX5_loads 20 = .ok (.getfield 25, 3) := by decide +kernel
theorem dX5_loads_23 : decode cX5_loads 23 = .ok (.iload_n 1, 1) := by decide +kernel
theorem dX5_loads_24 : decode cX5_loads 24 = .ok (.iaload, 1) := by decide +kernel
theorem dX5_loads_25 : decode cX5_loads 25 = .ok (.iload 5, 2) := by decide +kernel
theorem dX5_loads_27 : decode cX5_loads 27 = .ok (.if_icmp .ge 12, 3) := by decide +kernel
theorem dX5_loads_30 : decode cX5_loads 30 = .ok (.aload_n 0, 1) := by decide +kernel
theorem dX5_loads_31 : decode cX5_loads 31 = .ok (.getfield 25, 3) := by decide +kernel
theorem dX5_loads_34 : decode cX5_loads 34 = .ok (.iload_n 1, 1) := by decide +kernel
theorem dX5_loads_35 : decode cX5_loads 35 = .ok (.iaload, 1) := by decide +kernel
theorem dX5_loads_36 : decode cX5_loads 36 = .ok (.goto 5, 3) := by decide +kernel
theorem dX5_loads_39 : decode cX5_loads 39 = .ok (.iload 5, 2) := by decide +kernel
theorem dX5_loads_41 : decode cX5_loads 41 = .ok (.istore 5, 2) := by decide +kernel
theorem dX5_loads_43 : decode cX5_loads 43 = .ok (.aload_n 0, 1) := by decide +kernel
theorem dX5_loads_44 : decode cX5_loads 44 = .ok (.getfield 13, 3) := by decide +kernel
theorem dX5_loads_47 : decode cX5_loads 47 = .ok (.iload 4, 2) := by decide +kernel
theorem dX5_loads_49 : decode cX5_loads 49 = .ok (.iaload, 1) := by decide +kernel
theorem dX5_loads_50 : decode cX5_loads 50 = .ok (.iload 5, 2) := by decide +kernel
theorem dX5_loads_52 : decode cX5_loads 52 = .ok (.if_icmp .ge 13, 3) := by decide +kernel
theorem dX5_loads_55 : decode cX5_loads 55 = .ok (.aload_n 0, 1) := by decide +kernel
theorem dX5_loads_56 : decode cX5_loads 56 = .ok (.getfield 13, 3) := by decide +kernel
theorem dX5_loads_59 : decode cX5_loads 59 = .ok (.iload 4, 2) := by decide +kernel
theorem dX5_loads_61 : decode cX5_loads 61 = .ok (.iaload, 1) := by decide +kernel
theorem dX5_loads_62 : decode cX5_loads 62 = .ok (.goto 5, 3) := by decide +kernel
theorem dX5_loads_65 : decode cX5_loads 65 = .ok (.iload 5, 2) := by decide +kernel
theorem dX5_loads_67 : decode cX5_loads 67 = .ok (.istore 5, 2) := by decide +kernel
theorem dX5_loads_69 : decode cX5_loads 69 = .ok (.aload_n 0, 1) := by decide +kernel
theorem dX5_loads_70 : decode cX5_loads 70 = .ok (.getfield 13, 3) := by decide +kernel
theorem dX5_loads_73 : decode cX5_loads 73 = .ok (.iload 4, 2) := by decide +kernel
theorem dX5_loads_75 : decode cX5_loads 75 = .ok (.dup2, 1) := by decide +kernel
theorem dX5_loads_76 : decode cX5_loads 76 = .ok (.iaload, 1) := by decide +kernel
theorem dX5_loads_77 : decode cX5_loads 77 = .ok (.iload 5, 2) := by decide +kernel
theorem dX5_loads_79 : decode cX5_loads 79 = .ok (.isub, 1) := by decide +kernel
theorem dX5_loads_80 : decode cX5_loads 80 = .ok (.iastore, 1) := by decide +kernel
theorem dX5_loads_81 : decode cX5_loads 81 = .ok (.aload_n 0, 1) := by decide +kernel
theorem dX5_loads_82 : decode cX5_loads 82 = .ok (.getfield 34, 3) := by decide +kernel
theorem dX5_loads_85 : decode cX5_loads 85 = .ok (.bipush 6, 2) := by decide +kernel
theorem dX5_loads_87 : decode cX5_loads 87 = .ok (.iload_n 1, 1) := by decide +kernel
theorem dX5_loads_88 : decode cX5_loads 88 = .ok (.imul, 1) := by decide +kernel
theorem dX5_loads_89 : decode cX5_loads 89 = .ok (.iload 4, 2) := by decide +kernel
theorem dX5_loads_91 : decode cX5_loads 91 = .ok (.iadd, 1) := by decide +kernel
theorem dX5_loads_92 : decode cX5_loads 92 = .ok (.dup2, 1) := by decide +kernel
theorem dX5_loads_93 : decode cX5_loads 93 = .ok (.iaload, 1) := by decide +kernel
theorem dX5_loads_94 : decode cX5_loads 94 = .ok (.iload 5, 2) := by decide +kernel
theorem dX5_loads_96 : decode cX5_loads 96 = .ok (.iadd, 1) := by decide +kernel
theorem dX5_loads_97 : decode cX5_loads 97 = .ok (.iastore, 1) := by decide +kernel
theorem dX5_loads_98 : decode cX5_loads 98 = .ok (.aload_n 0, 1) := by decide +kernel
theorem dX5_loads_99 : decode cX5_loads 99 = .ok (.getfield 25, 3) := by decide +kernel
theorem dX5_loads_102 : decode cX5_loads 102 = .ok (.iload_n 1, 1) := by decide +kernel
theorem dX5_loads_103 : decode cX5_loads 103 = .ok (.dup2, 1) := by decide +kernel
theorem dX5_loads_104 : decode cX5_loads 104 = .ok (.iaload, 1) := by decide +kernel
theorem dX5_loads_105 : decode cX5_loads 105 = .ok (.iload 5, 2) := by decide +kernel
theorem dX5_loads_107 : decode cX5_loads 107 = .ok (.isub, 1) := by decide +kernel
theorem dX5_loads_108 : decode cX5_loads 108 = .ok (.iastore, 1) := by decide +kernel
theorem dX5_loads_109 : decode cX5_loads 109 = .ok (.iload_n 3, 1) := by decide +kernel
theorem dX5_loads_110 : decode cX5_loads 110 = .ok (.iload 5, 2) := by decide +kernel
theorem dX5_loads_112 : decode cX5_loads 112 = .ok (.iadd, 1) := by decide +kernel
theorem dX5_loads_113 : decode cX5_loads 113 = .ok (.istore_n 3, 1) := by decide +kernel
theorem dX5_loads_114 : decode cX5_loads 114 = .ok (.iinc 4 1, 3) := by decide +kernel
theorem dX5_loads_117 : decode cX5_loads 117 = .ok (.goto (-112), 3) := by decide +kernel
theorem dX5_loads_120 : decode cX5_loads 120 = .ok (.iload_n 3, 1) := by decide +kernel
theorem dX5_loads_121 : decode cX5_loads 121 = .ok (.ireturn, 1) := by decide +kernel
theorem dX5_goes_0 : decode cX5_goes 0 = .ok (.iconst 0, 1) := by decide +kernel
theorem dX5_goes_1 : decode cX5_goes 1 = .ok (.istore_n 1, 1) := by decide +kernel
theorem dX5_goes_2 : decode cX5_goes 2 = .ok (.iload_n 1, 1) := by decide +kernel
theorem dX5_goes_3 : decode cX5_goes 3 = .ok (.aload_n 0, 1) := by decide +kernel
theorem dX5_goes_4 : decode cX5_goes 4 = .ok (.getfield 79, 3) := by decide +kernel
theorem dX5_goes_7 : decode cX5_goes 7 = .ok (.if_icmp .ge 113, 3) := by decide +kernel
theorem dX5_goes_10 : decode cX5_goes 10 = .ok (.aload_n 0, 1) := by decide +kernel
theorem dX5_goes_11 : decode cX5_goes 11 = .ok (.getfield 37, 3) := by decide +kernel
theorem dX5_goes_14 : decode cX5_goes 14 = .ok (.sipush 201, 3) := by decide +kernel
theorem dX5_goes_17 : decode cX5_goes 17 = .ok (.iload_n 1, 1) := by decide +kernel
theorem dX5_goes_18 : decode cX5_goes 18 = .ok (.imul, 1) := by decide +kernel
theorem dX5_goes_19 : decode cX5_goes 19 = .ok (.aload_n 0, 1) := by decide +kernel
theorem dX5_goes_20 : decode cX5_goes 20 = .ok (.getfield 76, 3) := by decide +kernel
theorem dX5_goes_23 : decode cX5_goes 23 = .ok (.iadd, 1) := by decide +kernel
theorem dX5_goes_24 : decode cX5_goes 24 = .ok (.iconst 0, 1) := by decide +kernel
theorem dX5_goes_25 : decode cX5_goes 25 = .ok (.iastore, 1) := by decide +kernel
theorem dX5_goes_26 : decode cX5_goes 26 = .ok (.aload_n 0, 1) := by decide +kernel
theorem dX5_goes_27 : decode cX5_goes 27 = .ok (.iload_n 1, 1) := by decide +kernel
theorem dX5_goes_28 : decode cX5_goes 28 = .ok (.invokevirtual 98, 3) := by decide +kernel
theorem dX5_goes_31 : decode cX5_goes 31 = .ok (.ifCond .ne 55, 3) := by decide +kernel
theorem dX5_goes_34 : decode cX5_goes 34 = .ok (.aload_n 0, 1) := by decide +kernel
theorem dX5_goes_35 : decode cX5_goes 35 = .ok (.getfield 28, 3) := by decide +kernel
theorem dX5_goes_38 : decode cX5_goes 38 = .ok (.iload_n 1, 1) := by decide +kernel
theorem dX5_goes_39 : decode cX5_goes 39 = .ok (.dup2, 1) := by decide +kernel
theorem dX5_goes_40 : decode cX5_goes 40 = .ok (.iaload, 1) := by decide +kernel
theorem dX5_goes_41 : decode cX5_goes 41 = .ok (.aload_n 0, 1) := by decide +kernel
theorem dX5_goes_42 : decode cX5_goes 42 = .ok (.getfield 28, 3) := by decide +kernel
theorem dX5_goes_45 : decode cX5_goes 45 = .ok (.iload_n 1, 1) := by decide +kernel
theorem dX5_goes_46 : decode cX5_goes 46 = .ok (.iaload, 1) := by decide +kernel
theorem dX5_goes_47 : decode cX5_goes 47 = .ok (.ifCond .le 7, 3) := by decide +kernel
theorem dX5_goes_50 : decode cX5_goes 50 = .ok (.iconst 1, 1) := by decide +kernel
theorem dX5_goes_51 : decode cX5_goes 51 = .ok (.goto 4, 3) := by decide +kernel
theorem dX5_goes_54 : decode cX5_goes 54 = .ok (.iconst 0, 1) := by decide +kernel
theorem dX5_goes_55 : decode cX5_goes 55 = .ok (.isub, 1) := by decide +kernel
theorem dX5_goes_56 : decode cX5_goes 56 = .ok (.iastore, 1) := by decide +kernel
theorem dX5_goes_57 : decode cX5_goes 57 = .ok (.aload_n 0, 1) := by decide +kernel
theorem dX5_goes_58 : decode cX5_goes 58 = .ok (.getfield 37, 3) := by decide +kernel
theorem dX5_goes_61 : decode cX5_goes 61 = .ok (.sipush 201, 3) := by decide +kernel
theorem dX5_goes_64 : decode cX5_goes 64 = .ok (.iload_n 1, 1) := by decide +kernel
theorem dX5_goes_65 : decode cX5_goes 65 = .ok (.imul, 1) := by decide +kernel
theorem dX5_goes_66 : decode cX5_goes 66 = .ok (.aload_n 0, 1) := by decide +kernel
theorem dX5_goes_67 : decode cX5_goes 67 = .ok (.getfield 76, 3) := by decide +kernel
theorem dX5_goes_70 : decode cX5_goes 70 = .ok (.iadd, 1) := by decide +kernel
theorem dX5_goes_71 : decode cX5_goes 71 = .ok (.aload_n 0, 1) := by decide +kernel
theorem dX5_goes_72 : decode cX5_goes 72 = .ok (.getfield 28, 3) := by decide +kernel
theorem dX5_goes_75 : decode cX5_goes 75 = .ok (.iload_n 1, 1) := by decide +kernel
theorem dX5_goes_76 : decode cX5_goes 76 = .ok (.iaload, 1) := by decide +kernel
theorem dX5_goes_77 : decode cX5_goes 77 = .ok (.ifCond .ne 7, 3) := by decide +kernel
theorem dX5_goes_80 : decode cX5_goes 80 = .ok (.iconst (-1), 1) := by decide +kernel
theorem dX5_goes_81 : decode cX5_goes 81 = .ok (.goto 4, 3) := by decide +kernel
theorem dX5_goes_84 : decode cX5_goes 84 = .ok (.iconst 0, 1) := by decide +kernel
theorem dX5_goes_85 : decode cX5_goes 85 = .ok (.iastore, 1) := by decide +kernel
theorem dX5_goes_86 : decode cX5_goes 86 = .ok (.aload_n 0, 1) := by decide +kernel
theorem dX5_goes_87 : decode cX5_goes 87 = .ok (.getfield 62, 3) := by decide +kernel
theorem dX5_goes_90 : decode cX5_goes 90 = .ok (.iload_n 1, 1) := by decide +kernel
theorem dX5_goes_91 : decode cX5_goes 91 = .ok (.aload_n 0, 1) := by decide +kernel
theorem dX5_goes_92 : decode cX5_goes 92 = .ok (.iload_n 1, 1) := by decide +kernel
theorem dX5_goes_93 : decode cX5_goes 93 = .ok (.invokevirtual 98, 3) := by decide +kernel
theorem dX5_goes_96 : decode cX5_goes 96 = .ok (.ifCond .ne 12, 3) := by decide +kernel
theorem dX5_goes_99 : decode cX5_goes 99 = .ok (.aload_n 0, 1) := by decide +kernel
theorem dX5_goes_100 : decode cX5_goes 100 = .ok (.getfield 28, 3) := by decide +kernel
theorem dX5_goes_103 : decode cX5_goes 103 = .ok (.iload_n 1, 1) := by decide +kernel
theorem dX5_goes_104 : decode cX5_goes 104 = .ok (.iaload, 1) := by decide +kernel
theorem dX5_goes_105 : decode cX5_goes 105 = .ok (.ifCond .ne 7, 3) := by decide +kernel
theorem dX5_goes_108 : decode cX5_goes 108 = .ok (.iconst 1, 1) := by decide +kernel
theorem dX5_goes_109 : decode cX5_goes 109 = .ok (.goto 4, 3) := by decide +kernel
theorem dX5_goes_112 : decode cX5_goes 112 = .ok (.iconst 0, 1) := by decide +kernel
theorem dX5_goes_113 : decode cX5_goes 113 = .ok (.bastore, 1) := by decide +kernel
theorem dX5_goes_114 : decode cX5_goes 114 = .ok (.iinc 1 1, 3) := by decide +kernel
theorem dX5_goes_117 : decode cX5_goes 117 = .ok (.goto (-115), 3) := by decide +kernel
theorem dX5_goes_120 : decode cX5_goes 120 = .ok (.aload_n 0, 1) := by decide +kernel
theorem dX5_goes_121 : decode cX5_goes 121 = .ok (.getfield 7, 3) := by decide +kernel
theorem dX5_goes_124 : decode cX5_goes 124 = .ok (.aload_n 0, 1) := by decide +kernel
theorem dX5_goes_125 : decode cX5_goes 125 = .ok (.getfield 76, 3) := by decide +kernel
theorem dX5_goes_128 : decode cX5_goes 128 = .ok (.iaload, 1) := by decide +kernel
theorem dX5_goes_129 : decode cX5_goes 129 = .ok (.iconst 4, 1) := by decide +kernel
theorem dX5_goes_130 : decode cX5_goes 130 = .ok (.if_icmp .gt 7, 3) := by decide +kernel
theorem dX5_goes_133 : decode cX5_goes 133 = .ok (.iconst 1, 1) := by decide +kernel
theorem dX5_goes_134 : decode cX5_goes 134 = .ok (.goto 4, 3) := by decide +kernel
theorem dX5_goes_137 : decode cX5_goes 137 = .ok (.iconst 0, 1) := by decide +kernel
theorem dX5_goes_138 : decode cX5_goes 138 = .ok (.istore_n 1, 1) := by decide +kernel
theorem dX5_goes_139 : decode cX5_goes 139 = .ok (.aload_n 0, 1) := by decide +kernel
theorem dX5_goes_140 : decode cX5_goes 140 = .ok (.getfield 7, 3) := by decide +kernel
theorem dX5_goes_143 : decode cX5_goes 143 = .ok (.aload_n 0, 1) := by decide +kernel
theorem dX5_goes_144 : decode cX5_goes 144 = .ok (.getfield 76, 3) := by decide +kernel
theorem dX5_goes_147 : decode cX5_goes 147 = .ok (.iaload, 1) := by decide +kernel
theorem dX5_goes_148 : decode cX5_goes 148 = .ok (.bipush 7, 2) := by decide +kernel
theorem dX5_goes_150 : decode cX5_goes 150 = .ok (.if_icmp .gt 7, 3) := by decide +kernel
theorem dX5_goes_153 : decode cX5_goes 153 = .ok (.iconst 1, 1) := by decide +kernel
theorem dX5_goes_154 : decode cX5_goes 154 = .ok (.goto 4, 3) := by decide +kernel
theorem dX5_goes_157 : decode cX5_goes 157 = .ok (.iconst 0, 1) := by decide +kernel
theorem dX5_goes_158 : decode cX5_goes 158 = .ok (.istore_n 2, 1) := by decide +kernel
theorem dX5_goes_159 : decode cX5_goes 159 = .ok (.iconst 0, 1) := by decide +kernel
theorem dX5_goes_160 : decode cX5_goes 160 = .ok (.istore_n 3, 1) := by decide +kernel
theorem dX5_goes_161 : decode cX5_goes 161 = .ok (.iconst 0, 1) := by decide +kernel
theorem dX5_goes_162 : decode cX5_goes 162 = .ok (.istore 4, 2) := by decide +kernel
theorem dX5_goes_164 : decode cX5_goes 164 = .ok (.iconst 0, 1) := by decide +kernel
theorem dX5_goes_165 : decode cX5_goes 165 = .ok (.istore 5, 2) := by decide +kernel
theorem dX5_goes_167 : decode cX5_goes 167 = .ok (.iload 5, 2) := by decide +kernel
theorem dX5_goes_169 : decode cX5_goes 169 = .ok (.bipush (-9), 2) := by decide +kernel
theorem dX5_goes_171 : decode cX5_goes 171 = .ok (.if_icmp .eq 169, 3) := by decide +kernel
theorem dX5_goes_174 : decode cX5_goes 174 = .ok (.bipush (-9), 2) := by decide +kernel
theorem dX5_goes_176 : decode cX5_goes 176 = .ok (.istore 5, 2) := by decide +kernel
theorem dX5_goes_178 : decode cX5_goes 178 = .ok (.iconst 0, 1) := by decide +kernel
theorem dX5_goes_179 : decode cX5_goes 179 = .ok (.istore 6, 2) := by decide +kernel
theorem dX5_goes_181 : decode cX5_goes 181 = .ok (.iload 6, 2) := by decide +kernel
theorem dX5_goes_183 : decode cX5_goes 183 = .ok (.aload_n 0, 1) := by decide +kernel
theorem dX5_goes_184 : decode cX5_goes 184 = .ok (.getfield 79, 3) := by decide +kernel
theorem dX5_goes_187 : decode cX5_goes 187 = .ok (.if_icmp .ge 50, 3) := by decide +kernel
theorem dX5_goes_190 : decode cX5_goes 190 = .ok (.aload_n 0, 1) := by decide +kernel
theorem dX5_goes_191 : decode cX5_goes 191 = .ok (.getfield 62, 3) := by decide +kernel
theorem dX5_goes_194 : decode cX5_goes 194 = .ok (.iload 6, 2) := by decide +kernel
theorem dX5_goes_196 : decode cX5_goes 196 = .ok (.baload, 1) := by decide +kernel
theorem dX5_goes_197 : decode cX5_goes 197 = .ok (.ifCond .ne 30, 3) := by decide +kernel
theorem dX5_goes_200 : decode cX5_goes 200 = .ok (.iload 5, 2) := by decide +kernel
theorem dX5_goes_202 : decode cX5_goes 202 = .ok (.bipush (-9), 2) := by decide +kernel
theorem dX5_goes_204 : decode cX5_goes 204 = .ok (.if_icmp .eq 18, 3) := by decide +kernel
theorem dX5_goes_207 : decode cX5_goes 207 = .ok (.aload_n 0, 1) := by decide +kernel
theorem dX5_goes_208 : decode cX5_goes 208 = .ok (.iload 6, 2) := by decide +kernel
theorem dX5_goes_210 : decode cX5_goes 210 = .ok (.invokevirtual 94, 3) := by decide +kernel
theorem dX5_goes_213 : decode cX5_goes 213 = .ok (.aload_n 0, 1) := by decide +kernel
theorem dX5_goes_214 : decode cX5_goes 214 = .ok (.iload 5, 2) := by decide +kernel
theorem dX5_goes_216 : decode cX5_goes 216 = .ok (.invokevirtual 94, 3) := by decide +kernel
theorem dX5_goes_219 : decode cX5_goes 219 = .ok (.if_icmp .ge 8, 3) := by decide +kernel
theorem dX5_goes_222 : decode cX5_goes 222 = .ok (.iload 6, 2) := by decide +kernel
theorem dX5_goes_224 : decode cX5_goes 224 = .ok (.goto 5, 3) := by decide +kernel
theorem dX5_goes_227 : decode cX5_goes 227 = .ok (.iload 5, 2) := by decide +kernel
theorem dX5_goes_229 : decode cX5_goes 229 = .ok (.istore 5, 2) := by decide +kernel
theorem dX5_goes_231 : decode cX5_goes 231 = .ok (.iinc 6 1, 3) := by decide +kernel
theorem dX5_goes_234 : decode cX5_goes 234 = .ok (.goto (-53), 3) := by decide +kernel
theorem dX5_goes_237 : decode cX5_goes 237 = .ok (.iload 5, 2) := by decide +kernel
theorem dX5_goes_239 : decode cX5_goes 239 = .ok (.bipush (-9), 2) := by decide +kernel
theorem dX5_goes_241 : decode cX5_goes 241 = .ok (.if_icmp .eq (-74), 3) := by decide +kernel
theorem dX5_goes_244 : decode cX5_goes 244 = .ok (.aload_n 0, 1) := by decide +kernel
theorem dX5_goes_245 : decode cX5_goes 245 = .ok (.getfield 62, 3) := by decide +kernel
theorem dX5_goes_248 : decode cX5_goes 248 = .ok (.iload 5, 2) := by decide +kernel
theorem dX5_goes_250 : decode cX5_goes 250 = .ok (.iconst 1, 1) := by decide +kernel
theorem dX5_goes_251 : decode cX5_goes 251 = .ok (.bastore, 1) := by decide +kernel
theorem dX5_goes_252 : decode cX5_goes 252 = .ok (.aload_n 0, 1) := by decide +kernel
theorem dX5_goes_253 : decode cX5_goes 253 = .ok (.iload 5, 2) := by decide +kernel
theorem dX5_goes_255 : decode cX5_goes 255 = .ok (.iload 4, 2) := by decide +kernel
theorem dX5_goes_257 : decode cX5_goes 257 = .ok (.iconst 2, 1) := by decide +kernel
theorem dX5_goes_258 : decode cX5_goes 258 = .ok (.if_icmp .ge 12, 3) := by decide +kernel
theorem dX5_goes_261 : decode cX5_goes 261 = .ok (.iload_n 1, 1) := by decide +kernel
theorem dX5_goes_262 : decode cX5_goes 262 = .ok (.ifCond .eq 8, 3) := by decide +kernel
theorem dX5_goes_265 : decode cX5_goes 265 = .ok (.bipush 60, 2) := by decide +kernel
theorem dX5_goes_267 : decode cX5_goes 267 = .ok (.goto 13, 3) := by decide +kernel
theorem dX5_goes_270 : decode cX5_goes 270 = .ok (.iload_n 2, 1) := by decide +kernel
theorem dX5_goes_271 : decode cX5_goes 271 = .ok (.ifCond .eq 8, 3) := by decide +kernel
theorem dX5_goes_274 : decode cX5_goes 274 = .ok (.bipush 15, 2) := by decide +kernel
theorem dX5_goes_276 : decode cX5_goes 276 = .ok (.goto 4, 3) := by decide +kernel
theorem dX5_goes_279 : decode cX5_goes 279 = .ok (.iconst 0, 1) := by decide +kernel
theorem dX5_goes_280 : decode cX5_goes 280 = .ok (.invokevirtual 101, 3) := by decide +kernel
theorem dX5_goes_283 : decode cX5_goes 283 = .ok (.istore 6, 2) := by decide +kernel
theorem dX5_goes_285 : decode cX5_goes 285 = .ok (.aload_n 0, 1) := by decide +kernel
theorem dX5_goes_286 : decode cX5_goes 286 = .ok (.getfield 37, 3) := by decide +kernel
theorem dX5_goes_289 : decode cX5_goes 289 = .ok (.sipush 201, 3) := by decide +kernel
theorem dX5_goes_292 : decode cX5_goes 292 = .ok (.iload 5, 2) := by decide +kernel
theorem dX5_goes_294 : decode cX5_goes 294 = .ok (.imul, 1) := by decide +kernel
theorem dX5_goes_295 : decode cX5_goes 295 = .ok (.aload_n 0, 1) := by decide +kernel
theorem dX5_goes_296 : decode cX5_goes 296 = .ok (.getfield 76, 3) := by decide +kernel
theorem dX5_goes_299 : decode cX5_goes 299 = .ok (.iadd, 1) := by decide +kernel
theorem dX5_goes_300 : decode cX5_goes 300 = .ok (.iload 6, 2) := by decide +kernel
theorem dX5_goes_302 : decode cX5_goes 302 = .ok (.iastore, 1) := by decide +kernel
theorem dX5_goes_303 : decode cX5_goes 303 = .ok (.aload_n 0, 1) := by decide +kernel
theorem dX5_goes_304 : decode cX5_goes 304 = .ok (.getfield 31, 3) := by decide +kernel
theorem dX5_goes_307 : decode cX5_goes 307 = .ok (.iload 5, 2) := by decide +kernel
theorem dX5_goes_309 : decode cX5_goes 309 = .ok (.aload_n 0, 1) := by decide +kernel
theorem dX5_goes_310 : decode cX5_goes 310 = .ok (.getfield 25, 3) := by decide +kernel
theorem dX5_goes_313 : decode cX5_goes 313 = .ok (.iload 5, 2) := by decide +kernel
theorem dX5_goes_315 : decode cX5_goes 315 = .ok (.iaload, 1) := by decide +kernel
theorem dX5_goes_316 : decode cX5_goes 316 = .ok (.ifCond .ne 10, 3) := by decide +kernel
theorem dX5_goes_319 : decode cX5_goes 319 = .ok (.aload_n 0, 1) := by decide +kernel
theorem dX5_goes_320 : decode cX5_goes 320 = .ok (.getfield 76, 3) := by decide +kernel
theorem dX5_goes_323 : decode cX5_goes 323 = .ok (.goto 5, 3) := by decide +kernel
theorem dX5_goes_326 : decode cX5_goes 326 = .ok (.bipush (-9), 2) := by decide +kernel
theorem dX5_goes_328 : decode cX5_goes 328 = .ok (.iastore, 1) := by decide +kernel
theorem dX5_goes_329 : decode cX5_goes 329 = .ok (.iload_n 3, 1) := by decide +kernel
theorem dX5_goes_330 : decode cX5_goes 330 = .ok (.iload 6, 2) := by decide +kernel
theorem dX5_goes_332 : decode cX5_goes 332 = .ok (.iadd, 1) := by decide +kernel
theorem dX5_goes_333 : decode cX5_goes 333 = .ok (.istore_n 3, 1) := by decide +kernel
theorem dX5_goes_334 : decode cX5_goes 334 = .ok (.iinc 4 1, 3) := by decide +kernel
theorem dX5_goes_337 : decode cX5_goes 337 = .ok (.goto (-170), 3) := by decide +kernel
theorem dX5_goes_340 : decode cX5_goes 340 = .ok (.iconst 0, 1) := by decide +kernel
theorem dX5_goes_341 : decode cX5_goes 341 = .ok (.istore 6, 2) := by decide +kernel
theorem dX5_goes_343 : decode cX5_goes 343 = .ok (.iconst 0, 1) := by decide +kernel
theorem dX5_goes_344 : decode cX5_goes 344 = .ok (.istore 7, 2) := by decide +kernel
theorem dX5_goes_346 : decode cX5_goes 346 = .ok (.iload 7, 2) := by decide +kernel
theorem dX5_goes_348 : decode cX5_goes 348 = .ok (.aload_n 0, 1) := by decide +kernel
theorem dX5_goes_349 : decode cX5_goes 349 = .ok (.getfield 79, 3) := by decide +kernel
theorem dX5_goes_352 : decode cX5_goes 352 = .ok (.if_icmp .ge 34, 3) := by decide +kernel
theorem dX5_goes_355 : decode cX5_goes 355 = .ok (.iload 6, 2) := by decide +kernel
theorem dX5_goes_357 : decode cX5_goes 357 = .ok (.aload_n 0, 1) := by decide +kernel
theorem dX5_goes_358 : decode cX5_goes 358 = .ok (.iload 7, 2) := by decide +kernel
theorem dX5_goes_360 : decode cX5_goes 360 = .ok (.invokevirtual 98, 3) := by decide +kernel
theorem dX5_goes_363 : decode cX5_goes 363 = .ok (.ifCond .eq 7, 3) := by decide +kernel
theorem dX5_goes_366 : decode cX5_goes 366 = .ok (.iconst 0, 1) := by decide +kernel
theorem dX5_goes_367 : decode cX5_goes 367 = .ok (.goto 10, 3) := by decide +kernel
theorem dX5_goes_370 : decode cX5_goes 370 = .ok (.aload_n 0, 1) := by decide +kernel
theorem dX5_goes_371 : decode cX5_goes 371 = .ok (.getfield 25, 3) := by decide +kernel
theorem dX5_goes_374 : decode cX5_goes 374 = .ok (.iload 7, 2) := by decide +kernel
theorem dX5_goes_376 : decode cX5_goes 376 = .ok (.iaload, 1) := by decide +kernel
theorem dX5_goes_377 : decode cX5_goes 377 = .ok (.iadd, 1) := by decide +kernel
theorem dX5_goes_378 : decode cX5_goes 378 = .ok (.istore 6, 2) := by decide +kernel
theorem dX5_goes_380 : decode cX5_goes 380 = .ok (.iinc 7 1, 3) := by decide +kernel
theorem dX5_goes_383 : decode cX5_goes 383 = .ok (.goto (-37), 3) := by decide +kernel
theorem dX5_goes_386 : decode cX5_goes 386 = .ok (.aload_n 0, 1) := by decide +kernel
theorem dX5_goes_387 : decode cX5_goes 387 = .ok (.getfield 40, 3) := by decide +kernel
theorem dX5_goes_390 : decode cX5_goes 390 = .ok (.aload_n 0, 1) := by decide +kernel
theorem dX5_goes_391 : decode cX5_goes 391 = .ok (.getfield 76, 3) := by decide +kernel
theorem dX5_goes_394 : decode cX5_goes 394 = .ok (.iload 6, 2) := by decide +kernel
theorem dX5_goes_396 : decode cX5_goes 396 = .ok (.iastore, 1) := by decide +kernel
theorem dX5_goes_397 : decode cX5_goes 397 = .ok (.aload_n 0, 1) := by decide +kernel
theorem dX5_goes_398 : decode cX5_goes 398 = .ok (.getfield 43, 3) := by decide +kernel
theorem dX5_goes_401 : decode cX5_goes 401 = .ok (.aload_n 0, 1) := by decide +kernel
theorem dX5_goes_402 : decode cX5_goes 402 = .ok (.getfield 76, 3) := by decide +kernel
theorem dX5_goes_405 : decode cX5_goes 405 = .ok (.iload_n 3, 1) := by decide +kernel
theorem dX5_goes_406 : decode cX5_goes 406 = .ok (.iastore, 1) := by decide +kernel
theorem dX5_goes_407 : decode cX5_goes 407 = .ok (.aload_n 0, 1) := by decide +kernel
theorem dX5_goes_408 : decode cX5_goes 408 = .ok (.getfield 46, 3) := by decide +kernel
theorem dX5_goes_411 : decode cX5_goes 411 = .ok (.aload_n 0, 1) := by decide +kernel
theorem dX5_goes_412 : decode cX5_goes 412 = .ok (.getfield 76, 3) := by decide +kernel
theorem dX5_goes_415 : decode cX5_goes 415 = .ok (.aload_n 0, 1) := by decide +kernel
theorem dX5_goes_416 : decode cX5_goes 416 = .ok (.getfield 76, 3) := by decide +kernel
theorem dX5_goes_419 : decode cX5_goes 419 = .ok (.aload_n 0, 1) := by decide +kernel
theorem dX5_goes_420 : decode cX5_goes 420 = .ok (.getfield 49, 3) := by decide +kernel
theorem dX5_goes_423 : decode cX5_goes 423 = .ok (.iadd, 1) := by decide +kernel
theorem dX5_goes_424 : decode cX5_goes 424 = .ok (.iastore, 1) := by decide +kernel
theorem dX5_goes_425 : decode cX5_goes 425 = .ok (.aload_n 0, 1) := by decide +kernel
theorem dX5_goes_426 : decode cX5_goes 426 = .ok (.dup, 1) := by decide +kernel
theorem dX5_goes_427 : decode cX5_goes 427 = .ok (.getfield 105, 3) := by decide +kernel
theorem dX5_goes_430 : decode cX5_goes 430 = .ok (.iload_n 3, 1) := by decide +kernel
theorem dX5_goes_431 : decode cX5_goes 431 = .ok (.iadd, 1) := by decide +kernel
theorem dX5_goes_432 : decode cX5_goes 432 = .ok (.putfield 105, 3) := by decide +kernel
theorem dX5_goes_435 : decode cX5_goes 435 = .ok (.aload_n 0, 1) := by decide +kernel
theorem dX5_goes_436 : decode cX5_goes 436 = .ok (.dup, 1) := by decide +kernel
theorem dX5_goes_437 : decode cX5_goes 437 = .ok (.getfield 76, 3) := by decide +kernel
theorem dX5_goes_440 : decode cX5_goes 440 = .ok (.iconst 1, 1) := by decide +kernel
theorem dX5_goes_441 : decode cX5_goes 441 = .ok (.iadd, 1) := by decide +kernel
theorem dX5_goes_442 : decode cX5_goes 442 = .ok (.putfield 76, 3) := by decide +kernel
theorem dX5_goes_445 : decode cX5_goes 445 = .ok (.return_, 1) := by decide +kernel
theorem dX5_days_0 : decode cX5_days 0 = .ok (.aload_n 0, 1) := by decide +kernel
theorem dX5_days_1 : decode cX5_days 1 = .ok (.iconst 0, 1) := by decide +kernel
theorem dX5_days_2 : decode cX5_days 2 = .ok (.putfield 66, 3) := by decide +kernel
theorem dX5_days_5 : decode cX5_days 5 = .ok (.iload_n 1, 1) := by decide +kernel
theorem dX5_days_6 : decode cX5_days 6 = .ok (.iconst 1, 1) := by decide +kernel
theorem dX5_days_7 : decode cX5_days 7 = .ok (.bipush 20, 2) := by decide +kernel
theorem dX5_days_9 : decode cX5_days 9 = .ok (.invokestatic 69, 3) := by decide +kernel
theorem dX5_days_12 : decode cX5_days 12 = .ok (.ifCond .ne 5, 3) := by decide +kernel
theorem dX5_days_15 : decode cX5_days 15 = .ok (.iconst (-1), 1) := by decide +kernel
theorem dX5_days_16 : decode cX5_days 16 = .ok (.ireturn, 1) := by decide +kernel
theorem dX5_days_17 : decode cX5_days 17 = .ok (.aload_n 0, 1) := by decide +kernel
theorem dX5_days_18 : decode cX5_days 18 = .ok (.getfield 76, 3) := by decide +kernel
theorem dX5_days_21 : decode cX5_days 21 = .ok (.iload_n 1, 1) := by decide +kernel
theorem dX5_days_22 : decode cX5_days 22 = .ok (.iadd, 1) := by decide +kernel
theorem dX5_days_23 : decode cX5_days 23 = .ok (.sipush 200, 3) := by decide +kernel
theorem dX5_days_26 : decode cX5_days 26 = .ok (.if_icmp .le 6, 3) := by decide +kernel
theorem dX5_days_29 : decode cX5_days 29 = .ok (.bipush (-2), 2) := by decide +kernel
theorem dX5_days_31 : decode cX5_days 31 = .ok (.ireturn, 1) := by decide +kernel
theorem dX5_days_32 : decode cX5_days 32 = .ok (.iconst 0, 1) := by decide +kernel
theorem dX5_days_33 : decode cX5_days 33 = .ok (.istore_n 2, 1) := by decide +kernel
theorem dX5_days_34 : decode cX5_days 34 = .ok (.iload_n 2, 1) := by decide +kernel
theorem dX5_days_35 : decode cX5_days 35 = .ok (.iload_n 1, 1) := by decide +kernel
theorem dX5_days_36 : decode cX5_days 36 = .ok (.if_icmp .ge 13, 3) := by decide +kernel
theorem dX5_days_39 : decode cX5_days 39 = .ok (.aload_n 0, 1) := by decide +kernel
theorem dX5_days_40 : decode cX5_days 40 = .ok (.invokevirtual 108, 3) := by decide +kernel
theorem dX5_days_43 : decode cX5_days 43 = .ok (.iinc 2 1, 3) := by decide +kernel
theorem dX5_days_46 : decode cX5_days 46 = .ok (.goto (-12), 3) := by decide +kernel
theorem dX5_days_49 : decode cX5_days 49 = .ok (.aload_n 0, 1) := by decide +kernel
theorem dX5_days_50 : decode cX5_days 50 = .ok (.getfield 76, 3) := by decide +kernel
theorem dX5_days_53 : decode cX5_days 53 = .ok (.ireturn, 1) := by decide +kernel
theorem dX5_tonsOf_0 : decode cX5_tonsOf 0 = .ok (.iconst 0, 1) := by decide +kernel
theorem dX5_tonsOf_1 : decode cX5_tonsOf 1 = .ok (.istore_n 2, 1) := by decide +kernel
theorem dX5_tonsOf_2 : decode cX5_tonsOf 2 = .ok (.iconst 0, 1) := by decide +kernel
theorem dX5_tonsOf_3 : decode cX5_tonsOf 3 = .ok (.istore_n 3, 1) := by decide +kernel
theorem dX5_tonsOf_4 : decode cX5_tonsOf 4 = .ok (.iload_n 3, 1) := by decide +kernel
theorem dX5_tonsOf_5 : decode cX5_tonsOf 5 = .ok (.aload_n 0, 1) := by decide +kernel
theorem dX5_tonsOf_6 : decode cX5_tonsOf 6 = .ok (.getfield 73, 3) := by decide +kernel
theorem dX5_tonsOf_9 : decode cX5_tonsOf 9 = .ok (.if_icmp .ge 23, 3) := by decide +kernel
theorem dX5_tonsOf_12 : decode cX5_tonsOf 12 = .ok (.iload_n 2, 1) := by decide +kernel
theorem dX5_tonsOf_13 : decode cX5_tonsOf 13 = .ok (.aload_n 0, 1) := by decide +kernel
theorem dX5_tonsOf_14 : decode cX5_tonsOf 14 = .ok (.getfield 34, 3) := by decide +kernel
theorem dX5_tonsOf_17 : decode cX5_tonsOf 17 = .ok (.bipush 6, 2) := by decide +kernel
theorem dX5_tonsOf_19 : decode cX5_tonsOf 19 = .ok (.iload_n 1, 1) := by decide +kernel
theorem dX5_tonsOf_20 : decode cX5_tonsOf 20 = .ok (.imul, 1) := by decide +kernel
theorem dX5_tonsOf_21 : decode cX5_tonsOf 21 = .ok (.iload_n 3, 1) := by decide +kernel
theorem dX5_tonsOf_22 : decode cX5_tonsOf 22 = .ok (.iadd, 1) := by decide +kernel
theorem dX5_tonsOf_23 : decode cX5_tonsOf 23 = .ok (.iaload, 1) := by decide +kernel
theorem dX5_tonsOf_24 : decode cX5_tonsOf 24 = .ok (.iadd, 1) := by decide +kernel
theorem dX5_tonsOf_25 : decode cX5_tonsOf 25 = .ok (.istore_n 2, 1) := by decide +kernel
theorem dX5_tonsOf_26 : decode cX5_tonsOf 26 = .ok (.iinc 3 1, 3) := by decide +kernel
theorem dX5_tonsOf_29 : decode cX5_tonsOf 29 = .ok (.goto (-25), 3) := by decide +kernel
theorem dX5_tonsOf_32 : decode cX5_tonsOf 32 = .ok (.iload_n 2, 1) := by decide +kernel
theorem dX5_tonsOf_33 : decode cX5_tonsOf 33 = .ok (.ireturn, 1) := by decide +kernel
theorem dX5_worthOf_0 : decode cX5_worthOf 0 = .ok (.iconst 0, 1) := by decide +kernel
theorem dX5_worthOf_1 : decode cX5_worthOf 1 = .ok (.istore_n 2, 1) := by decide +kernel
theorem dX5_worthOf_2 : decode cX5_worthOf 2 = .ok (.iconst 0, 1) := by decide +kernel
theorem dX5_worthOf_3 : decode cX5_worthOf 3 = .ok (.istore_n 3, 1) := by decide +kernel
theorem dX5_worthOf_4 : decode cX5_worthOf 4 = .ok (.iload_n 3, 1) := by decide +kernel
theorem dX5_worthOf_5 : decode cX5_worthOf 5 = .ok (.aload_n 0, 1) := by decide +kernel
theorem dX5_worthOf_6 : decode cX5_worthOf 6 = .ok (.getfield 73, 3) := by decide +kernel
theorem dX5_worthOf_9 : decode cX5_worthOf 9 = .ok (.if_icmp .ge 30, 3) := by decide +kernel
theorem dX5_worthOf_12 : decode cX5_worthOf 12 = .ok (.iload_n 2, 1) := by decide +kernel
theorem dX5_worthOf_13 : decode cX5_worthOf 13 = .ok (.aload_n 0, 1) := by decide +kernel
theorem dX5_worthOf_14 : decode cX5_worthOf 14 = .ok (.getfield 34, 3) := by decide +kernel
theorem dX5_worthOf_17 : decode cX5_worthOf 17 = .ok (.bipush 6, 2) := by decide +kernel
theorem dX5_worthOf_19 : decode cX5_worthOf 19 = .ok (.iload_n 1, 1) := by decide +kernel
theorem dX5_worthOf_20 : decode cX5_worthOf 20 = .ok (.imul, 1) := by decide +kernel
theorem dX5_worthOf_21 : decode cX5_worthOf 21 = .ok (.iload_n 3, 1) := by decide +kernel
theorem dX5_worthOf_22 : decode cX5_worthOf 22 = .ok (.iadd, 1) := by decide +kernel
theorem dX5_worthOf_23 : decode cX5_worthOf 23 = .ok (.iaload, 1) := by decide +kernel
theorem dX5_worthOf_24 : decode cX5_worthOf 24 = .ok (.aload_n 0, 1) := by decide +kernel
theorem dX5_worthOf_25 : decode cX5_worthOf 25 = .ok (.getfield 16, 3) := by decide +kernel
theorem dX5_worthOf_28 : decode cX5_worthOf 28 = .ok (.iload_n 3, 1) := by decide +kernel
theorem dX5_worthOf_29 : decode cX5_worthOf 29 = .ok (.iaload, 1) := by decide +kernel
theorem dX5_worthOf_30 : decode cX5_worthOf 30 = .ok (.imul, 1) := by decide +kernel
theorem dX5_worthOf_31 : decode cX5_worthOf 31 = .ok (.iadd, 1) := by decide +kernel
theorem dX5_worthOf_32 : decode cX5_worthOf 32 = .ok (.istore_n 2, 1) := by decide +kernel
theorem dX5_worthOf_33 : decode cX5_worthOf 33 = .ok (.iinc 3 1, 3) := by decide +kernel
theorem dX5_worthOf_36 : decode cX5_worthOf 36 = .ok (.goto (-32), 3) := by decide +kernel
theorem dX5_worthOf_39 : decode cX5_worthOf 39 = .ok (.iload_n 2, 1) := by decide +kernel
theorem dX5_worthOf_40 : decode cX5_worthOf 40 = .ok (.ireturn, 1) := by decide +kernel
theorem dX5_about_0 : decode cX5_about 0 = .ok (.aload_n 0, 1) := by decide +kernel
theorem dX5_about_1 : decode cX5_about 1 = .ok (.iconst 0, 1) := by decide +kernel
theorem dX5_about_2 : decode cX5_about 2 = .ok (.putfield 66, 3) := by decide +kernel
theorem dX5_about_5 : decode cX5_about 5 = .ok (.aload_n 0, 1) := by decide +kernel
theorem dX5_about_6 : decode cX5_about 6 = .ok (.iload_n 1, 1) := by decide +kernel
theorem dX5_about_7 : decode cX5_about 7 = .ok (.invokevirtual 82, 3) := by decide +kernel
theorem dX5_about_10 : decode cX5_about 10 = .ok (.ifCond .ne 5, 3) := by decide +kernel
theorem dX5_about_13 : decode cX5_about 13 = .ok (.iconst (-1), 1) := by decide +kernel
theorem dX5_about_14 : decode cX5_about 14 = .ok (.ireturn, 1) := by decide +kernel
theorem dX5_about_15 : decode cX5_about 15 = .ok (.iload_n 2, 1) := by decide +kernel
theorem dX5_about_16 : decode cX5_about 16 = .ok (.tableswitch 91 0 6 #[44, 51, 58, 65, 71, 78, 85], 44) := by decide +kernel
theorem dX5_about_60 : decode cX5_about 60 = .ok (.aload_n 0, 1) := by decide +kernel
theorem dX5_about_61 : decode cX5_about 61 = .ok (.getfield 19, 3) := by decide +kernel
theorem dX5_about_64 : decode cX5_about 64 = .ok (.iload_n 1, 1) := by decide +kernel
theorem dX5_about_65 : decode cX5_about 65 = .ok (.iaload, 1) := by decide +kernel
theorem dX5_about_66 : decode cX5_about 66 = .ok (.ireturn, 1) := by decide +kernel
theorem dX5_about_67 : decode cX5_about 67 = .ok (.aload_n 0, 1) := by decide +kernel
theorem dX5_about_68 : decode cX5_about 68 = .ok (.getfield 22, 3) := by decide +kernel
theorem dX5_about_71 : decode cX5_about 71 = .ok (.iload_n 1, 1) := by decide +kernel
theorem dX5_about_72 : decode cX5_about 72 = .ok (.iaload, 1) := by decide +kernel
theorem dX5_about_73 : decode cX5_about 73 = .ok (.ireturn, 1) := by decide +kernel
theorem dX5_about_74 : decode cX5_about 74 = .ok (.aload_n 0, 1) := by decide +kernel
theorem dX5_about_75 : decode cX5_about 75 = .ok (.getfield 25, 3) := by decide +kernel
theorem dX5_about_78 : decode cX5_about 78 = .ok (.iload_n 1, 1) := by decide +kernel
theorem dX5_about_79 : decode cX5_about 79 = .ok (.iaload, 1) := by decide +kernel
theorem dX5_about_80 : decode cX5_about 80 = .ok (.ireturn, 1) := by decide +kernel
theorem dX5_about_81 : decode cX5_about 81 = .ok (.aload_n 0, 1) := by decide +kernel
theorem dX5_about_82 : decode cX5_about 82 = .ok (.iload_n 1, 1) := by decide +kernel
theorem dX5_about_83 : decode cX5_about 83 = .ok (.invokevirtual 111, 3) := by decide +kernel
theorem dX5_about_86 : decode cX5_about 86 = .ok (.ireturn, 1) := by decide +kernel
theorem dX5_about_87 : decode cX5_about 87 = .ok (.aload_n 0, 1) := by decide +kernel
theorem dX5_about_88 : decode cX5_about 88 = .ok (.getfield 28, 3) := by decide +kernel
theorem dX5_about_91 : decode cX5_about 91 = .ok (.iload_n 1, 1) := by decide +kernel
theorem dX5_about_92 : decode cX5_about 92 = .ok (.iaload, 1) := by decide +kernel
theorem dX5_about_93 : decode cX5_about 93 = .ok (.ireturn, 1) := by decide +kernel
theorem dX5_about_94 : decode cX5_about 94 = .ok (.aload_n 0, 1) := by decide +kernel
theorem dX5_about_95 : decode cX5_about 95 = .ok (.getfield 31, 3) := by decide +kernel
theorem dX5_about_98 : decode cX5_about 98 = .ok (.iload_n 1, 1) := by decide +kernel
theorem dX5_about_99 : decode cX5_about 99 = .ok (.iaload, 1) := by decide +kernel
theorem dX5_about_100 : decode cX5_about 100 = .ok (.ireturn, 1) := by decide +kernel
theorem dX5_about_101 : decode cX5_about 101 = .ok (.aload_n 0, 1) := by decide +kernel
theorem dX5_about_102 : decode cX5_about 102 = .ok (.iload_n 1, 1) := by decide +kernel
theorem dX5_about_103 : decode cX5_about 103 = .ok (.invokevirtual 114, 3) := by decide +kernel
theorem dX5_about_106 : decode cX5_about 106 = .ok (.ireturn, 1) := by decide +kernel
theorem dX5_about_107 : decode cX5_about 107 = .ok (.iconst (-1), 1) := by decide +kernel
theorem dX5_about_108 : decode cX5_about 108 = .ok (.ireturn, 1) := by decide +kernel
theorem dX5_cargo_0 : decode cX5_cargo 0 = .ok (.aload_n 0, 1) := by decide +kernel
theorem dX5_cargo_1 : decode cX5_cargo 1 = .ok (.iconst 0, 1) := by decide +kernel
theorem dX5_cargo_2 : decode cX5_cargo 2 = .ok (.putfield 66, 3) := by decide +kernel
theorem dX5_cargo_5 : decode cX5_cargo 5 = .ok (.aload_n 0, 1) := by decide +kernel
theorem dX5_cargo_6 : decode cX5_cargo 6 = .ok (.iload_n 1, 1) := by decide +kernel
theorem dX5_cargo_7 : decode cX5_cargo 7 = .ok (.invokevirtual 82, 3) := by decide +kernel
theorem dX5_cargo_10 : decode cX5_cargo 10 = .ok (.ifCond .eq 31, 3) := by decide +kernel
theorem dX5_cargo_13 : decode cX5_cargo 13 = .ok (.iload_n 2, 1) := by decide +kernel
theorem dX5_cargo_14 : decode cX5_cargo 14 = .ok (.iconst 0, 1) := by decide +kernel
theorem dX5_cargo_15 : decode cX5_cargo 15 = .ok (.aload_n 0, 1) := by decide +kernel
theorem dX5_cargo_16 : decode cX5_cargo 16 = .ok (.getfield 73, 3) := by decide +kernel
theorem dX5_cargo_19 : decode cX5_cargo 19 = .ok (.iconst 1, 1) := by decide +kernel
theorem dX5_cargo_20 : decode cX5_cargo 20 = .ok (.isub, 1) := by decide +kernel
theorem dX5_cargo_21 : decode cX5_cargo 21 = .ok (.invokestatic 69, 3) := by decide +kernel
theorem dX5_cargo_24 : decode cX5_cargo 24 = .ok (.ifCond .eq 17, 3) := by decide +kernel
theorem dX5_cargo_27 : decode cX5_cargo 27 = .ok (.aload_n 0, 1) := by decide +kernel
theorem dX5_cargo_28 : decode cX5_cargo 28 = .ok (.getfield 34, 3) := by decide +kernel
theorem dX5_cargo_31 : decode cX5_cargo 31 = .ok (.bipush 6, 2) := by decide +kernel
theorem dX5_cargo_33 : decode cX5_cargo 33 = .ok (.iload_n 1, 1) := by decide +kernel
theorem dX5_cargo_34 : decode cX5_cargo 34 = .ok (.imul, 1) := by decide +kernel
theorem dX5_cargo_35 : decode cX5_cargo 35 = .ok (.iload_n 2, 1) := by decide +kernel
theorem dX5_cargo_36 : decode cX5_cargo 36 = .ok (.iadd, 1) := by decide +kernel
theorem dX5_cargo_37 : decode cX5_cargo 37 = .ok (.iaload, 1) := by decide +kernel
theorem dX5_cargo_38 : decode cX5_cargo 38 = .ok (.goto 4, 3) := by decide +kernel
theorem dX5_cargo_41 : decode cX5_cargo 41 = .ok (.iconst (-1), 1) := by decide +kernel
theorem dX5_cargo_42 : decode cX5_cargo 42 = .ok (.ireturn, 1) := by decide +kernel
theorem dX5_loaded_0 : decode cX5_loaded 0 = .ok (.aload_n 0, 1) := by decide +kernel
theorem dX5_loaded_1 : decode cX5_loaded 1 = .ok (.iconst 0, 1) := by decide +kernel
theorem dX5_loaded_2 : decode cX5_loaded 2 = .ok (.putfield 66, 3) := by decide +kernel
theorem dX5_loaded_5 : decode cX5_loaded 5 = .ok (.aload_n 0, 1) := by decide +kernel
theorem dX5_loaded_6 : decode cX5_loaded 6 = .ok (.iload_n 1, 1) := by decide +kernel
theorem dX5_loaded_7 : decode cX5_loaded 7 = .ok (.invokevirtual 82, 3) := by decide +kernel
theorem dX5_loaded_10 : decode cX5_loaded 10 = .ok (.ifCond .eq 32, 3) := by decide +kernel
theorem dX5_loaded_13 : decode cX5_loaded 13 = .ok (.iload_n 2, 1) := by decide +kernel
theorem dX5_loaded_14 : decode cX5_loaded 14 = .ok (.iconst 0, 1) := by decide +kernel
theorem dX5_loaded_15 : decode cX5_loaded 15 = .ok (.aload_n 0, 1) := by decide +kernel
theorem dX5_loaded_16 : decode cX5_loaded 16 = .ok (.getfield 76, 3) := by decide +kernel
theorem dX5_loaded_19 : decode cX5_loaded 19 = .ok (.iconst 1, 1) := by decide +kernel
theorem dX5_loaded_20 : decode cX5_loaded 20 = .ok (.isub, 1) := by decide +kernel
theorem dX5_loaded_21 : decode cX5_loaded 21 = .ok (.invokestatic 69, 3) := by decide +kernel
theorem dX5_loaded_24 : decode cX5_loaded 24 = .ok (.ifCond .eq 18, 3) := by decide +kernel
theorem dX5_loaded_27 : decode cX5_loaded 27 = .ok (.aload_n 0, 1) := by decide +kernel
theorem dX5_loaded_28 : decode cX5_loaded 28 = .ok (.getfield 37, 3) := by decide +kernel
theorem dX5_loaded_31 : decode cX5_loaded 31 = .ok (.sipush 201, 3) := by decide +kernel
theorem dX5_loaded_34 : decode cX5_loaded 34 = .ok (.iload_n 1, 1) := by decide +kernel
theorem dX5_loaded_35 : decode cX5_loaded 35 = .ok (.imul, 1) := by decide +kernel
theorem dX5_loaded_36 : decode cX5_loaded 36 = .ok (.iload_n 2, 1) := by decide +kernel
theorem dX5_loaded_37 : decode cX5_loaded 37 = .ok (.iadd, 1) := by decide +kernel
theorem dX5_loaded_38 : decode cX5_loaded 38 = .ok (.iaload, 1) := by decide +kernel
theorem dX5_loaded_39 : decode cX5_loaded 39 = .ok (.goto 5, 3) := by decide +kernel
theorem dX5_loaded_42 : decode cX5_loaded 42 = .ok (.bipush (-2), 2) := by decide +kernel
theorem dX5_loaded_44 : decode cX5_loaded 44 = .ok (.ireturn, 1) := by decide +kernel
theorem dX5_boat_0 : decode cX5_boat 0 = .ok (.aload_n 0, 1) := by decide +kernel
theorem dX5_boat_1 : decode cX5_boat 1 = .ok (.iconst 0, 1) := by decide +kernel
theorem dX5_boat_2 : decode cX5_boat 2 = .ok (.putfield 66, 3) := by decide +kernel
theorem dX5_boat_5 : decode cX5_boat 5 = .ok (.aload_n 0, 1) := by decide +kernel
theorem dX5_boat_6 : decode cX5_boat 6 = .ok (.iload_n 1, 1) := by decide +kernel
theorem dX5_boat_7 : decode cX5_boat 7 = .ok (.invokevirtual 82, 3) := by decide +kernel
theorem dX5_boat_10 : decode cX5_boat 10 = .ok (.ifCond .eq 13, 3) := by decide +kernel
theorem dX5_boat_13 : decode cX5_boat 13 = .ok (.iload_n 2, 1) := by decide +kernel
theorem dX5_boat_14 : decode cX5_boat 14 = .ok (.iconst 1, 1) := by decide +kernel
theorem dX5_boat_15 : decode cX5_boat 15 = .ok (.bipush 90, 2) := by decide +kernel
theorem dX5_boat_17 : decode cX5_boat 17 = .ok (.invokestatic 69, 3) := by decide +kernel
theorem dX5_boat_20 : decode cX5_boat 20 = .ok (.ifCond .ne 5, 3) := by decide +kernel
theorem dX5_boat_23 : decode cX5_boat 23 = .ok (.iconst (-1), 1) := by decide +kernel
theorem dX5_boat_24 : decode cX5_boat 24 = .ok (.ireturn, 1) := by decide +kernel
theorem dX5_boat_25 : decode cX5_boat 25 = .ok (.aload_n 0, 1) := by decide +kernel
theorem dX5_boat_26 : decode cX5_boat 26 = .ok (.iload_n 1, 1) := by decide +kernel
theorem dX5_boat_27 : decode cX5_boat 27 = .ok (.invokevirtual 98, 3) := by decide +kernel
theorem dX5_boat_30 : decode cX5_boat 30 = .ok (.ifCond .eq 6, 3) := by decide +kernel
theorem dX5_boat_33 : decode cX5_boat 33 = .ok (.bipush (-2), 2) := by decide +kernel
theorem dX5_boat_35 : decode cX5_boat 35 = .ok (.ireturn, 1) := by decide +kernel
theorem dX5_boat_36 : decode cX5_boat 36 = .ok (.aload_n 0, 1) := by decide +kernel
theorem dX5_boat_37 : decode cX5_boat 37 = .ok (.getfield 28, 3) := by decide +kernel
theorem dX5_boat_40 : decode cX5_boat 40 = .ok (.iload_n 1, 1) := by decide +kernel
theorem dX5_boat_41 : decode cX5_boat 41 = .ok (.aload_n 0, 1) := by decide +kernel
theorem dX5_boat_42 : decode cX5_boat 42 = .ok (.getfield 28, 3) := by decide +kernel
theorem dX5_boat_45 : decode cX5_boat 45 = .ok (.iload_n 1, 1) := by decide +kernel
theorem dX5_boat_46 : decode cX5_boat 46 = .ok (.iaload, 1) := by decide +kernel
theorem dX5_boat_47 : decode cX5_boat 47 = .ok (.iload_n 2, 1) := by decide +kernel
theorem dX5_boat_48 : decode cX5_boat 48 = .ok (.iadd, 1) := by decide +kernel
theorem dX5_boat_49 : decode cX5_boat 49 = .ok (.bipush 90, 2) := by decide +kernel
theorem dX5_boat_51 : decode cX5_boat 51 = .ok (.if_icmp .le 8, 3) := by decide +kernel
theorem dX5_boat_54 : decode cX5_boat 54 = .ok (.bipush 90, 2) := by decide +kernel
theorem dX5_boat_56 : decode cX5_boat 56 = .ok (.goto 11, 3) := by decide +kernel
theorem dX5_boat_59 : decode cX5_boat 59 = .ok (.aload_n 0, 1) := by decide +kernel
theorem dX5_boat_60 : decode cX5_boat 60 = .ok (.getfield 28, 3) := by decide +kernel
theorem dX5_boat_63 : decode cX5_boat 63 = .ok (.iload_n 1, 1) := by decide +kernel
theorem dX5_boat_64 : decode cX5_boat 64 = .ok (.iaload, 1) := by decide +kernel
theorem dX5_boat_65 : decode cX5_boat 65 = .ok (.iload_n 2, 1) := by decide +kernel
theorem dX5_boat_66 : decode cX5_boat 66 = .ok (.iadd, 1) := by decide +kernel
theorem dX5_boat_67 : decode cX5_boat 67 = .ok (.iastore, 1) := by decide +kernel
theorem dX5_boat_68 : decode cX5_boat 68 = .ok (.aload_n 0, 1) := by decide +kernel
theorem dX5_boat_69 : decode cX5_boat 69 = .ok (.getfield 28, 3) := by decide +kernel
theorem dX5_boat_72 : decode cX5_boat 72 = .ok (.iload_n 1, 1) := by decide +kernel
theorem dX5_boat_73 : decode cX5_boat 73 = .ok (.iaload, 1) := by decide +kernel
theorem dX5_boat_74 : decode cX5_boat 74 = .ok (.ireturn, 1) := by decide +kernel
theorem dX5_sample_0 : decode cX5_sample 0 = .ok (.aload_n 0, 1) := by decide +kernel
theorem dX5_sample_1 : decode cX5_sample 1 = .ok (.iconst 0, 1) := by decide +kernel
theorem dX5_sample_2 : decode cX5_sample 2 = .ok (.putfield 66, 3) := by decide +kernel
theorem dX5_sample_5 : decode cX5_sample 5 = .ok (.aload_n 0, 1) := by decide +kernel
theorem dX5_sample_6 : decode cX5_sample 6 = .ok (.iload_n 1, 1) := by decide +kernel
theorem dX5_sample_7 : decode cX5_sample 7 = .ok (.invokevirtual 82, 3) := by decide +kernel
theorem dX5_sample_10 : decode cX5_sample 10 = .ok (.ifCond .eq 13, 3) := by decide +kernel
theorem dX5_sample_13 : decode cX5_sample 13 = .ok (.iload_n 2, 1) := by decide +kernel
theorem dX5_sample_14 : decode cX5_sample 14 = .ok (.iconst 1, 1) := by decide +kernel
theorem dX5_sample_15 : decode cX5_sample 15 = .ok (.bipush 9, 2) := by decide +kernel
theorem dX5_sample_17 : decode cX5_sample 17 = .ok (.invokestatic 69, 3) := by decide +kernel
theorem dX5_sample_20 : decode cX5_sample 20 = .ok (.ifCond .ne 5, 3) := by decide +kernel
theorem dX5_sample_23 : decode cX5_sample 23 = .ok (.iconst (-1), 1) := by decide +kernel
theorem dX5_sample_24 : decode cX5_sample 24 = .ok (.ireturn, 1) := by decide +kernel
theorem dX5_sample_25 : decode cX5_sample 25 = .ok (.iconst 0, 1) := by decide +kernel
theorem dX5_sample_26 : decode cX5_sample 26 = .ok (.istore_n 3, 1) := by decide +kernel
theorem dX5_sample_27 : decode cX5_sample 27 = .ok (.iconst 0, 1) := by decide +kernel
theorem dX5_sample_28 : decode cX5_sample 28 = .ok (.istore 4, 2) := by decide +kernel
theorem dX5_sample_30 : decode cX5_sample 30 = .ok (.iconst 0, 1) := by decide +kernel
theorem dX5_sample_31 : decode cX5_sample 31 = .ok (.istore 5, 2) := by decide +kernel
theorem dX5_sample_33 : decode cX5_sample 33 = .ok (.iconst 0, 1) := by decide +kernel
theorem dX5_sample_34 : decode cX5_sample 34 = .ok (.istore 6, 2) := by decide +kernel
theorem dX5_sample_36 : decode cX5_sample 36 = .ok (.iload 6, 2) := by decide +kernel
theorem dX5_sample_38 : decode cX5_sample 38 = .ok (.aload_n 0, 1) := by decide +kernel
theorem dX5_sample_39 : decode cX5_sample 39 = .ok (.getfield 73, 3) := by decide +kernel
theorem dX5_sample_42 : decode cX5_sample 42 = .ok (.if_icmp .ge 68, 3) := by decide +kernel
theorem dX5_sample_45 : decode cX5_sample 45 = .ok (.iload_n 3, 1) := by decide +kernel
theorem dX5_sample_46 : decode cX5_sample 46 = .ok (.aload_n 0, 1) := by decide +kernel
theorem dX5_sample_47 : decode cX5_sample 47 = .ok (.getfield 34, 3) := by decide +kernel
theorem dX5_sample_50 : decode cX5_sample 50 = .ok (.bipush 6, 2) := by decide +kernel
theorem dX5_sample_52 : decode cX5_sample 52 = .ok (.iload_n 1, 1) := by decide +kernel
theorem dX5_sample_53 : decode cX5_sample 53 = .ok (.imul, 1) := by decide +kernel
theorem dX5_sample_54 : decode cX5_sample 54 = .ok (.iload 6, 2) := by decide +kernel
theorem dX5_sample_56 : decode cX5_sample 56 = .ok (.iadd, 1) := by decide +kernel
theorem dX5_sample_57 : decode cX5_sample 57 = .ok (.iaload, 1) := by decide +kernel
theorem dX5_sample_58 : decode cX5_sample 58 = .ok (.iadd, 1) := by decide +kernel
theorem dX5_sample_59 : decode cX5_sample 59 = .ok (.iload_n 2, 1) := by decide +kernel
theorem dX5_sample_60 : decode cX5_sample 60 = .ok (.idiv, 1) := by decide +kernel
theorem dX5_sample_61 : decode cX5_sample 61 = .ok (.iload_n 3, 1) := by decide +kernel
theorem dX5_sample_62 : decode cX5_sample 62 = .ok (.iload_n 2, 1) := by decide +kernel
theorem dX5_sample_63 : decode cX5_sample 63 = .ok (.idiv, 1) := by decide +kernel
theorem dX5_sample_64 : decode cX5_sample 64 = .ok (.isub, 1) := by decide +kernel
theorem dX5_sample_65 : decode cX5_sample 65 = .ok (.istore 7, 2) := by decide +kernel
theorem dX5_sample_67 : decode cX5_sample 67 = .ok (.iload_n 3, 1) := by decide +kernel
theorem dX5_sample_68 : decode cX5_sample 68 = .ok (.aload_n 0, 1) := by decide +kernel
theorem dX5_sample_69 : decode cX5_sample 69 = .ok (.getfield 34, 3) := by decide +kernel
theorem dX5_sample_72 : decode cX5_sample 72 = .ok (.bipush 6, 2) := by decide +kernel
theorem dX5_sample_74 : decode cX5_sample 74 = .ok (.iload_n 1, 1) := by decide +kernel
theorem dX5_sample_75 : decode cX5_sample 75 = .ok (.imul, 1) := by decide +kernel
theorem dX5_sample_76 : decode cX5_sample 76 = .ok (.iload 6, 2) := by decide +kernel
theorem dX5_sample_78 : decode cX5_sample 78 = .ok (.iadd, 1) := by decide +kernel
theorem dX5_sample_79 : decode cX5_sample 79 = .ok (.iaload, 1) := by decide +kernel
theorem dX5_sample_80 : decode cX5_sample 80 = .ok (.iadd, 1) := by decide +kernel
theorem dX5_sample_81 : decode cX5_sample 81 = .ok (.istore_n 3, 1) := by decide +kernel
theorem dX5_sample_82 : decode cX5_sample 82 = .ok (.iload 4, 2) := by decide +kernel
theorem dX5_sample_84 : decode cX5_sample 84 = .ok (.iload 7, 2) := by decide +kernel
theorem dX5_sample_86 : decode cX5_sample 86 = .ok (.aload_n 0, 1) := by decide +kernel
theorem dX5_sample_87 : decode cX5_sample 87 = .ok (.getfield 16, 3) := by decide +kernel
theorem dX5_sample_90 : decode cX5_sample 90 = .ok (.iload 6, 2) := by decide +kernel
theorem dX5_sample_92 : decode cX5_sample 92 = .ok (.iaload, 1) := by decide +kernel
theorem dX5_sample_93 : decode cX5_sample 93 = .ok (.imul, 1) := by decide +kernel
theorem dX5_sample_94 : decode cX5_sample 94 = .ok (.iadd, 1) := by decide +kernel
theorem dX5_sample_95 : decode cX5_sample 95 = .ok (.istore 4, 2) := by decide +kernel
theorem dX5_sample_97 : decode cX5_sample 97 = .ok (.iload 5, 2) := by decide +kernel
theorem dX5_sample_99 : decode cX5_sample 99 = .ok (.iload 7, 2) := by decide +kernel
theorem dX5_sample_101 : decode cX5_sample 101 = .ok (.iadd, 1) := by decide +kernel
theorem dX5_sample_102 : decode cX5_sample 102 = .ok (.istore 5, 2) := by decide +kernel
theorem dX5_sample_104 : decode cX5_sample 104 = .ok (.iinc 6 1, 3) := by decide +kernel
theorem dX5_sample_107 : decode cX5_sample 107 = .ok (.goto (-71), 3) := by decide +kernel
theorem dX5_sample_110 : decode cX5_sample 110 = .ok (.iload 5, 2) := by decide +kernel
theorem dX5_sample_112 : decode cX5_sample 112 = .ok (.ifCond .ne 8, 3) := by decide +kernel
theorem dX5_sample_115 : decode cX5_sample 115 = .ok (.bipush (-9), 2) := by decide +kernel
theorem dX5_sample_117 : decode cX5_sample 117 = .ok (.goto 8, 3) := by decide +kernel
theorem dX5_sample_120 : decode cX5_sample 120 = .ok (.iload 4, 2) := by decide +kernel
theorem dX5_sample_122 : decode cX5_sample 122 = .ok (.iload 5, 2) := by decide +kernel
theorem dX5_sample_124 : decode cX5_sample 124 = .ok (.idiv, 1) := by decide +kernel
theorem dX5_sample_125 : decode cX5_sample 125 = .ok (.ireturn, 1) := by decide +kernel
theorem dX5_type_0 : decode cX5_type 0 = .ok (.aload_n 0, 1) := by decide +kernel
theorem dX5_type_1 : decode cX5_type 1 = .ok (.iconst 0, 1) := by decide +kernel
theorem dX5_type_2 : decode cX5_type 2 = .ok (.putfield 66, 3) := by decide +kernel
theorem dX5_type_5 : decode cX5_type 5 = .ok (.iload_n 3, 1) := by decide +kernel
theorem dX5_type_6 : decode cX5_type 6 = .ok (.iconst 1, 1) := by decide +kernel
theorem dX5_type_7 : decode cX5_type 7 = .ok (.bipush 8, 2) := by decide +kernel
theorem dX5_type_9 : decode cX5_type 9 = .ok (.invokestatic 69, 3) := by decide +kernel
theorem dX5_type_12 : decode cX5_type 12 = .ok (.ifCond .ne 5, 3) := by decide +kernel
theorem dX5_type_15 : decode cX5_type 15 = .ok (.iconst (-1), 1) := by decide +kernel
theorem dX5_type_16 : decode cX5_type 16 = .ok (.ireturn, 1) := by decide +kernel
theorem dX5_type_17 : decode cX5_type 17 = .ok (.aload_n 0, 1) := by decide +kernel
theorem dX5_type_18 : decode cX5_type 18 = .ok (.getfield 117, 3) := by decide +kernel
theorem dX5_type_21 : decode cX5_type 21 = .ok (.iload_n 3, 1) := by decide +kernel
theorem dX5_type_22 : decode cX5_type 22 = .ok (.iadd, 1) := by decide +kernel
theorem dX5_type_23 : decode cX5_type 23 = .ok (.bipush 30, 2) := by decide +kernel
theorem dX5_type_25 : decode cX5_type 25 = .ok (.if_icmp .le 6, 3) := by decide +kernel
theorem dX5_type_28 : decode cX5_type 28 = .ok (.bipush (-3), 2) := by decide +kernel
theorem dX5_type_30 : decode cX5_type 30 = .ok (.ireturn, 1) := by decide +kernel
theorem dX5_type_31 : decode cX5_type 31 = .ok (.iload_n 3, 1) := by decide +kernel
theorem dX5_type_32 : decode cX5_type 32 = .ok (.iconst 1, 1) := by decide +kernel
theorem dX5_type_33 : decode cX5_type 33 = .ok (.isub, 1) := by decide +kernel
theorem dX5_type_34 : decode cX5_type 34 = .ok (.istore 4, 2) := by decide +kernel
theorem dX5_type_36 : decode cX5_type 36 = .ok (.iload 4, 2) := by decide +kernel
theorem dX5_type_38 : decode cX5_type 38 = .ok (.ifCond .lt 40, 3) := by decide +kernel
theorem dX5_type_41 : decode cX5_type 41 = .ok (.aload_n 0, 1) := by decide +kernel
theorem dX5_type_42 : decode cX5_type 42 = .ok (.getfield 53, 3) := by decide +kernel
theorem dX5_type_45 : decode cX5_type 45 = .ok (.aload_n 0, 1) := by decide +kernel
theorem dX5_type_46 : decode cX5_type 46 = .ok (.getfield 117, 3) := by decide +kernel
theorem dX5_type_49 : decode cX5_type 49 = .ok (.lload_n 1, 1) := by decide +kernel
theorem dX5_type_50 : decode cX5_type 50 = .ok (.bipush 8, 2) := by decide +kernel
theorem dX5_type_52 : decode cX5_type 52 = .ok (.iload 4, 2) := by decide +kernel
theorem dX5_type_54 : decode cX5_type 54 = .ok (.imul, 1) := by decide +kernel
theorem dX5_type_55 : decode cX5_type 55 = .ok (.lshr, 1) := by decide +kernel
theorem dX5_type_56 : decode cX5_type 56 = .ok (.ldc2_w 120, 3) := by decide +kernel
theorem dX5_type_59 : decode cX5_type 59 = .ok (.land, 1) := by decide +kernel
theorem dX5_type_60 : decode cX5_type 60 = .ok (.l2i, 1) := by decide +kernel
theorem dX5_type_61 : decode cX5_type 61 = .ok (.iastore, 1) := by decide +kernel
theorem dX5_type_62 : decode cX5_type 62 = .ok (.aload_n 0, 1) := by decide +kernel
theorem dX5_type_63 : decode cX5_type 63 = .ok (.dup, 1) := by decide +kernel
theorem dX5_type_64 : decode cX5_type 64 = .ok (.getfield 117, 3) := by decide +kernel
theorem dX5_type_67 : decode cX5_type 67 = .ok (.iconst 1, 1) := by decide +kernel
theorem dX5_type_68 : decode cX5_type 68 = .ok (.iadd, 1) := by decide +kernel
theorem dX5_type_69 : decode cX5_type 69 = .ok (.putfield 117, 3) := by decide +kernel
theorem dX5_type_72 : decode cX5_type 72 = .ok (.iinc 4 (-1), 3) := by decide +kernel
theorem dX5_type_75 : decode cX5_type 75 = .ok (.goto (-39), 3) := by decide +kernel
theorem dX5_type_78 : decode cX5_type 78 = .ok (.aload_n 0, 1) := by decide +kernel
theorem dX5_type_79 : decode cX5_type 79 = .ok (.getfield 117, 3) := by decide +kernel
theorem dX5_type_82 : decode cX5_type 82 = .ok (.ireturn, 1) := by decide +kernel
theorem dX5_clear_0 : decode cX5_clear 0 = .ok (.aload_n 0, 1) := by decide +kernel
theorem dX5_clear_1 : decode cX5_clear 1 = .ok (.iconst 0, 1) := by decide +kernel
theorem dX5_clear_2 : decode cX5_clear 2 = .ok (.putfield 66, 3) := by decide +kernel
theorem dX5_clear_5 : decode cX5_clear 5 = .ok (.aload_n 0, 1) := by decide +kernel
theorem dX5_clear_6 : decode cX5_clear 6 = .ok (.getfield 117, 3) := by decide +kernel
theorem dX5_clear_9 : decode cX5_clear 9 = .ok (.istore_n 1, 1) := by decide +kernel
theorem dX5_clear_10 : decode cX5_clear 10 = .ok (.aload_n 0, 1) := by decide +kernel
theorem dX5_clear_11 : decode cX5_clear 11 = .ok (.iconst 0, 1) := by decide +kernel
theorem dX5_clear_12 : decode cX5_clear 12 = .ok (.putfield 117, 3) := by decide +kernel
theorem dX5_clear_15 : decode cX5_clear 15 = .ok (.iload_n 1, 1) := by decide +kernel
theorem dX5_clear_16 : decode cX5_clear 16 = .ok (.ireturn, 1) := by decide +kernel
theorem dX5_isDigit_0 : decode cX5_isDigit 0 = .ok (.iload_n 1, 1) := by decide +kernel
theorem dX5_isDigit_1 : decode cX5_isDigit 1 = .ok (.aload_n 0, 1) := by decide +kernel
theorem dX5_isDigit_2 : decode cX5_isDigit 2 = .ok (.getfield 117, 3) := by decide +kernel
theorem dX5_isDigit_5 : decode cX5_isDigit 5 = .ok (.if_icmp .ge 23, 3) := by decide +kernel
theorem dX5_isDigit_8 : decode cX5_isDigit 8 = .ok (.aload_n 0, 1) := by decide +kernel
theorem dX5_isDigit_9 : decode cX5_isDigit 9 = .ok (.getfield 53, 3) := by decide +kernel
theorem dX5_isDigit_12 : decode cX5_isDigit 12 = .ok (.iload_n 1, 1) := by decide +kernel
theorem dX5_isDigit_13 : decode cX5_isDigit 13 = .ok (.iaload, 1) := by decide +kernel
theorem dX5_isDigit_14 : decode cX5_isDigit 14 = .ok (.bipush 48, 2) := by decide +kernel
theorem dX5_isDigit_16 : decode cX5_isDigit 16 = .ok (.bipush 57, 2) := by decide +kernel
theorem dX5_isDigit_18 : decode cX5_isDigit 18 = .ok (.invokestatic 69, 3) := by decide +kernel
theorem dX5_isDigit_21 : decode cX5_isDigit 21 = .ok (.ifCond .eq 7, 3) := by decide +kernel
theorem dX5_isDigit_24 : decode cX5_isDigit 24 = .ok (.iconst 1, 1) := by decide +kernel
theorem dX5_isDigit_25 : decode cX5_isDigit 25 = .ok (.goto 4, 3) := by decide +kernel
theorem dX5_isDigit_28 : decode cX5_isDigit 28 = .ok (.iconst 0, 1) := by decide +kernel
theorem dX5_isDigit_29 : decode cX5_isDigit 29 = .ok (.ireturn, 1) := by decide +kernel
theorem dX5_faultOf_0 : decode cX5_faultOf 0 = .ok (.iconst 0, 1) := by decide +kernel
theorem dX5_faultOf_1 : decode cX5_faultOf 1 = .ok (.istore_n 1, 1) := by decide +kernel
theorem dX5_faultOf_2 : decode cX5_faultOf 2 = .ok (.iload_n 1, 1) := by decide +kernel
theorem dX5_faultOf_3 : decode cX5_faultOf 3 = .ok (.bipush 6, 2) := by decide +kernel
theorem dX5_faultOf_5 : decode cX5_faultOf 5 = .ok (.if_icmp .ge 16, 3) := by decide +kernel
theorem dX5_faultOf_8 : decode cX5_faultOf 8 = .ok (.aload_n 0, 1) := by decide +kernel
theorem dX5_faultOf_9 : decode cX5_faultOf 9 = .ok (.getfield 59, 3) := by decide +kernel
theorem dX5_faultOf_12 : decode cX5_faultOf 12 = .ok (.iload_n 1, 1) := by decide +kernel
theorem dX5_faultOf_13 : decode cX5_faultOf 13 = .ok (.iconst 0, 1) := by decide +kernel
theorem dX5_faultOf_14 : decode cX5_faultOf 14 = .ok (.iastore, 1) := by decide +kernel
theorem dX5_faultOf_15 : decode cX5_faultOf 15 = .ok (.iinc 1 1, 3) := by decide +kernel
theorem dX5_faultOf_18 : decode cX5_faultOf 18 = .ok (.goto (-16), 3) := by decide +kernel
theorem dX5_faultOf_21 : decode cX5_faultOf 21 = .ok (.iconst 0, 1) := by decide +kernel
theorem dX5_faultOf_22 : decode cX5_faultOf 22 = .ok (.istore_n 1, 1) := by decide +kernel
theorem dX5_faultOf_23 : decode cX5_faultOf 23 = .ok (.iload_n 1, 1) := by decide +kernel
theorem dX5_faultOf_24 : decode cX5_faultOf 24 = .ok (.aload_n 0, 1) := by decide +kernel
theorem dX5_faultOf_25 : decode cX5_faultOf 25 = .ok (.getfield 117, 3) := by decide +kernel
theorem dX5_faultOf_28 : decode cX5_faultOf 28 = .ok (.if_icmp .ge 164, 3) := by decide +kernel
theorem dX5_faultOf_31 : decode cX5_faultOf 31 = .ok (.aload_n 0, 1) := by decide +kernel
theorem dX5_faultOf_32 : decode cX5_faultOf 32 = .ok (.getfield 53, 3) := by decide +kernel
theorem dX5_faultOf_35 : decode cX5_faultOf 35 = .ok (.iload_n 1, 1) := by decide +kernel
theorem dX5_faultOf_36 : decode cX5_faultOf 36 = .ok (.iaload, 1) := by decide +kernel
theorem dX5_faultOf_37 : decode cX5_faultOf 37 = .ok (.istore_n 2, 1) := by decide +kernel
theorem dX5_faultOf_38 : decode cX5_faultOf 38 = .ok (.iload_n 2, 1) := by decide +kernel
theorem dX5_faultOf_39 : decode cX5_faultOf 39 = .ok (.bipush 108, 2) := by decide +kernel
theorem dX5_faultOf_41 : decode cX5_faultOf 41 = .ok (.if_icmp .ne 7, 3) := by decide +kernel
theorem dX5_faultOf_44 : decode cX5_faultOf 44 = .ok (.iconst 0, 1) := by decide +kernel
theorem dX5_faultOf_45 : decode cX5_faultOf 45 = .ok (.goto 55, 3) := by decide +kernel
theorem dX5_faultOf_48 : decode cX5_faultOf 48 = .ok (.iload_n 2, 1) := by decide +kernel
theorem dX5_faultOf_49 : decode cX5_faultOf 49 = .ok (.bipush 100, 2) := by decide +kernel
theorem dX5_faultOf_51 : decode cX5_faultOf 51 = .ok (.if_icmp .ne 7, 3) := by decide +kernel
theorem dX5_faultOf_54 : decode cX5_faultOf 54 = .ok (.iconst 1, 1) := by decide +kernel
theorem dX5_faultOf_55 : decode cX5_faultOf 55 = .ok (.goto 45, 3) := by decide +kernel
theorem dX5_faultOf_58 : decode cX5_faultOf 58 = .ok (.iload_n 2, 1) := by decide +kernel
theorem dX5_faultOf_59 : decode cX5_faultOf 59 = .ok (.bipush 98, 2) := by decide +kernel
theorem dX5_faultOf_61 : decode cX5_faultOf 61 = .ok (.if_icmp .ne 7, 3) := by decide +kernel
theorem dX5_faultOf_64 : decode cX5_faultOf 64 = .ok (.iconst 2, 1) := by decide +kernel
theorem dX5_faultOf_65 : decode cX5_faultOf 65 = .ok (.goto 35, 3) := by decide +kernel
theorem dX5_faultOf_68 : decode cX5_faultOf 68 = .ok (.iload_n 2, 1) := by decide +kernel
theorem dX5_faultOf_69 : decode cX5_faultOf 69 = .ok (.bipush 120, 2) := by decide +kernel
theorem dX5_faultOf_71 : decode cX5_faultOf 71 = .ok (.if_icmp .ne 7, 3) := by decide +kernel
theorem dX5_faultOf_74 : decode cX5_faultOf 74 = .ok (.iconst 3, 1) := by decide +kernel
theorem dX5_faultOf_75 : decode cX5_faultOf 75 = .ok (.goto 25, 3) := by decide +kernel
theorem dX5_faultOf_78 : decode cX5_faultOf 78 = .ok (.iload_n 2, 1) := by decide +kernel
theorem dX5_faultOf_79 : decode cX5_faultOf 79 = .ok (.bipush 104, 2) := by decide +kernel
theorem dX5_faultOf_81 : decode cX5_faultOf 81 = .ok (.if_icmp .ne 7, 3) := by decide +kernel
theorem dX5_faultOf_84 : decode cX5_faultOf 84 = .ok (.iconst 4, 1) := by decide +kernel
theorem dX5_faultOf_85 : decode cX5_faultOf 85 = .ok (.goto 15, 3) := by decide +kernel
theorem dX5_faultOf_88 : decode cX5_faultOf 88 = .ok (.iload_n 2, 1) := by decide +kernel
theorem dX5_faultOf_89 : decode cX5_faultOf 89 = .ok (.bipush 119, 2) := by decide +kernel
theorem dX5_faultOf_91 : decode cX5_faultOf 91 = .ok (.if_icmp .ne 7, 3) := by decide +kernel
theorem dX5_faultOf_94 : decode cX5_faultOf 94 = .ok (.iconst 5, 1) := by decide +kernel
theorem dX5_faultOf_95 : decode cX5_faultOf 95 = .ok (.goto 5, 3) := by decide +kernel
theorem dX5_faultOf_98 : decode cX5_faultOf 98 = .ok (.bipush 6, 2) := by decide +kernel
theorem dX5_faultOf_100 : decode cX5_faultOf 100 = .ok (.istore_n 3, 1) := by decide +kernel
theorem dX5_faultOf_101 : decode cX5_faultOf 101 = .ok (.iload_n 3, 1) := by decide +kernel
theorem dX5_faultOf_102 : decode cX5_faultOf 102 = .ok (.bipush 6, 2) := by decide +kernel
theorem dX5_faultOf_104 : decode cX5_faultOf 104 = .ok (.if_icmp .ne 5, 3) := by decide +kernel
theorem dX5_faultOf_107 : decode cX5_faultOf 107 = .ok (.iload_n 1, 1) := by decide +kernel
theorem dX5_faultOf_108 : decode cX5_faultOf 108 = .ok (.ireturn, 1) := by decide +kernel
theorem dX5_faultOf_109 : decode cX5_faultOf 109 = .ok (.iinc 1 1, 3) := by decide +kernel
theorem dX5_faultOf_112 : decode cX5_faultOf 112 = .ok (.iload_n 3, 1) := by decide +kernel
theorem dX5_faultOf_113 : decode cX5_faultOf 113 = .ok (.iconst 2, 1) := by decide +kernel
theorem dX5_faultOf_114 : decode cX5_faultOf 114 = .ok (.if_icmp .le 13, 3) := by decide +kernel
theorem dX5_faultOf_117 : decode cX5_faultOf 117 = .ok (.aload_n 0, 1) := by decide +kernel
theorem dX5_faultOf_118 : decode cX5_faultOf 118 = .ok (.getfield 59, 3) := by decide +kernel
theorem dX5_faultOf_121 : decode cX5_faultOf 121 = .ok (.iload_n 3, 1) := by decide +kernel
theorem dX5_faultOf_122 : decode cX5_faultOf 122 = .ok (.iconst 1, 1) := by decide +kernel
theorem dX5_faultOf_123 : decode cX5_faultOf 123 = .ok (.iastore, 1) := by decide +kernel
theorem dX5_faultOf_124 : decode cX5_faultOf 124 = .ok (.goto 65, 3) := by decide +kernel
theorem dX5_faultOf_127 : decode cX5_faultOf 127 = .ok (.aload_n 0, 1) := by decide +kernel
theorem dX5_faultOf_128 : decode cX5_faultOf 128 = .ok (.iload_n 1, 1) := by decide +kernel
theorem dX5_faultOf_129 : decode cX5_faultOf 129 = .ok (.invokevirtual 122, 3) := by decide +kernel
theorem dX5_faultOf_132 : decode cX5_faultOf 132 = .ok (.ifCond .ne 5, 3) := by decide +kernel
theorem dX5_faultOf_135 : decode cX5_faultOf 135 = .ok (.iload_n 1, 1) := by decide +kernel
theorem dX5_faultOf_136 : decode cX5_faultOf 136 = .ok (.ireturn, 1) := by decide +kernel
theorem dX5_faultOf_137 : decode cX5_faultOf 137 = .ok (.iconst 0, 1) := by decide +kernel
theorem dX5_faultOf_138 : decode cX5_faultOf 138 = .ok (.istore 4, 2) := by decide +kernel
theorem dX5_faultOf_140 : decode cX5_faultOf 140 = .ok (.aload_n 0, 1) := by decide +kernel
theorem dX5_faultOf_141 : decode cX5_faultOf 141 = .ok (.iload_n 1, 1) := by decide +kernel
theorem dX5_faultOf_142 : decode cX5_faultOf 142 = .ok (.invokevirtual 122, 3) := by decide +kernel
theorem dX5_faultOf_145 : decode cX5_faultOf 145 = .ok (.ifCond .eq 36, 3) := by decide +kernel
theorem dX5_faultOf_148 : decode cX5_faultOf 148 = .ok (.bipush 10, 2) := by decide +kernel
theorem dX5_faultOf_150 : decode cX5_faultOf 150 = .ok (.iload 4, 2) := by decide +kernel
theorem dX5_faultOf_152 : decode cX5_faultOf 152 = .ok (.imul, 1) := by decide +kernel
theorem dX5_faultOf_153 : decode cX5_faultOf 153 = .ok (.aload_n 0, 1) := by decide +kernel
theorem dX5_faultOf_154 : decode cX5_faultOf 154 = .ok (.getfield 53, 3) := by decide +kernel
theorem dX5_faultOf_157 : decode cX5_faultOf 157 = .ok (.iload_n 1, 1) := by decide +kernel
theorem dX5_faultOf_158 : decode cX5_faultOf 158 = .ok (.iaload, 1) := by decide +kernel
theorem dX5_faultOf_159 : decode cX5_faultOf 159 = .ok (.iadd, 1) := by decide +kernel
theorem dX5_faultOf_160 : decode cX5_faultOf 160 = .ok (.bipush 48, 2) := by decide +kernel
theorem dX5_faultOf_162 : decode cX5_faultOf 162 = .ok (.isub, 1) := by decide +kernel
theorem dX5_faultOf_163 : decode cX5_faultOf 163 = .ok (.istore 4, 2) := by decide +kernel
theorem dX5_faultOf_165 : decode cX5_faultOf 165 = .ok (.iload 4, 2) := by decide +kernel
theorem dX5_faultOf_167 : decode cX5_faultOf 167 = .ok (.sipush 999, 3) := by decide +kernel
theorem dX5_faultOf_170 : decode cX5_faultOf 170 = .ok (.if_icmp .le 5, 3) := by decide +kernel
theorem dX5_faultOf_173 : decode cX5_faultOf 173 = .ok (.iload_n 1, 1) := by decide +kernel
theorem dX5_faultOf_174 : decode cX5_faultOf 174 = .ok (.ireturn, 1) := by decide +kernel
theorem dX5_faultOf_175 : decode cX5_faultOf 175 = .ok (.iinc 1 1, 3) := by decide +kernel
theorem dX5_faultOf_178 : decode cX5_faultOf 178 = .ok (.goto (-38), 3) := by decide +kernel
theorem dX5_faultOf_181 : decode cX5_faultOf 181 = .ok (.aload_n 0, 1) := by decide +kernel
theorem dX5_faultOf_182 : decode cX5_faultOf 182 = .ok (.getfield 59, 3) := by decide +kernel
theorem dX5_faultOf_185 : decode cX5_faultOf 185 = .ok (.iload_n 3, 1) := by decide +kernel
theorem dX5_faultOf_186 : decode cX5_faultOf 186 = .ok (.iload 4, 2) := by decide +kernel
theorem dX5_faultOf_188 : decode cX5_faultOf 188 = .ok (.iastore, 1) := by decide +kernel
theorem dX5_faultOf_189 : decode cX5_faultOf 189 = .ok (.goto (-166), 3) := by decide +kernel
theorem dX5_faultOf_192 : decode cX5_faultOf 192 = .ok (.bipush (-9), 2) := by decide +kernel
theorem dX5_faultOf_194 : decode cX5_faultOf 194 = .ok (.ireturn, 1) := by decide +kernel
theorem dX5_charter_0 : decode cX5_charter 0 = .ok (.aload_n 0, 1) := by decide +kernel
theorem dX5_charter_1 : decode cX5_charter 1 = .ok (.iconst 0, 1) := by decide +kernel
theorem dX5_charter_2 : decode cX5_charter 2 = .ok (.putfield 66, 3) := by decide +kernel
theorem dX5_charter_5 : decode cX5_charter 5 = .ok (.aload_n 0, 1) := by decide +kernel
theorem dX5_charter_6 : decode cX5_charter 6 = .ok (.iload_n 1, 1) := by decide +kernel
theorem dX5_charter_7 : decode cX5_charter 7 = .ok (.invokevirtual 82, 3) := by decide +kernel
theorem dX5_charter_10 : decode cX5_charter 10 = .ok (.ifCond .ne 5, 3) := by decide +kernel
theorem dX5_charter_13 : decode cX5_charter 13 = .ok (.iconst (-1), 1) := by decide +kernel
theorem dX5_charter_14 : decode cX5_charter 14 = .ok (.ireturn, 1) := by decide +kernel
theorem dX5_charter_15 : decode cX5_charter 15 = .ok (.aload_n 0, 1) := by decide +kernel
theorem dX5_charter_16 : decode cX5_charter 16 = .ok (.getfield 117, 3) := by decide +kernel
theorem dX5_charter_19 : decode cX5_charter 19 = .ok (.ifCond .ne 6, 3) := by decide +kernel
theorem dX5_charter_22 : decode cX5_charter 22 = .ok (.bipush (-2), 2) := by decide +kernel
theorem dX5_charter_24 : decode cX5_charter 24 = .ok (.ireturn, 1) := by decide +kernel
theorem dX5_charter_25 : decode cX5_charter 25 = .ok (.aload_n 0, 1) := by decide +kernel
theorem dX5_charter_26 : decode cX5_charter 26 = .ok (.invokevirtual 125, 3) := by decide +kernel
theorem dX5_charter_29 : decode cX5_charter 29 = .ok (.istore_n 2, 1) := by decide +kernel
theorem dX5_charter_30 : decode cX5_charter 30 = .ok (.iload_n 2, 1) := by decide +kernel
theorem dX5_charter_31 : decode cX5_charter 31 = .ok (.bipush (-9), 2) := by decide +kernel
theorem dX5_charter_33 : decode cX5_charter 33 = .ok (.if_icmp .eq 8, 3) := by decide +kernel
theorem dX5_charter_36 : decode cX5_charter 36 = .ok (.bipush (-100), 2) := by decide +kernel
theorem dX5_charter_38 : decode cX5_charter 38 = .ok (.iload_n 2, 1) := by decide +kernel
theorem dX5_charter_39 : decode cX5_charter 39 = .ok (.isub, 1) := by decide +kernel
theorem dX5_charter_40 : decode cX5_charter 40 = .ok (.ireturn, 1) := by decide +kernel
theorem dX5_charter_41 : decode cX5_charter 41 = .ok (.iconst 0, 1) := by decide +kernel
theorem dX5_charter_42 : decode cX5_charter 42 = .ok (.istore_n 3, 1) := by decide +kernel
theorem dX5_charter_43 : decode cX5_charter 43 = .ok (.iload_n 3, 1) := by decide +kernel
theorem dX5_charter_44 : decode cX5_charter 44 = .ok (.bipush 6, 2) := by decide +kernel
theorem dX5_charter_46 : decode cX5_charter 46 = .ok (.if_icmp .ge 26, 3) := by decide +kernel
theorem dX5_charter_49 : decode cX5_charter 49 = .ok (.aload_n 0, 1) := by decide +kernel
theorem dX5_charter_50 : decode cX5_charter 50 = .ok (.getfield 56, 3) := by decide +kernel
theorem dX5_charter_53 : decode cX5_charter 53 = .ok (.bipush 6, 2) := by decide +kernel
theorem dX5_charter_55 : decode cX5_charter 55 = .ok (.iload_n 1, 1) := by decide +kernel
theorem dX5_charter_56 : decode cX5_charter 56 = .ok (.imul, 1) := by decide +kernel
theorem dX5_charter_57 : decode cX5_charter 57 = .ok (.iload_n 3, 1) := by decide +kernel
theorem dX5_charter_58 : decode cX5_charter 58 = .ok (.iadd, 1) := by decide +kernel
theorem dX5_charter_59 : decode cX5_charter 59 = .ok (.aload_n 0, 1) := by decide +kernel
theorem dX5_charter_60 : decode cX5_charter 60 = .ok (.getfield 59, 3) := by decide +kernel
theorem dX5_charter_63 : decode cX5_charter 63 = .ok (.iload_n 3, 1) := by decide +kernel
theorem dX5_charter_64 : decode cX5_charter 64 = .ok (.iaload, 1) := by decide +kernel
theorem dX5_charter_65 : decode cX5_charter 65 = .ok (.iastore, 1) := by decide +kernel
theorem dX5_charter_66 : decode cX5_charter 66 = .ok (.iinc 3 1, 3) := by decide +kernel
theorem dX5_charter_69 : decode cX5_charter 69 = .ok (.goto (-26), 3) := by decide +kernel
theorem dX5_charter_72 : decode cX5_charter 72 = .ok (.aload_n 0, 1) := by decide +kernel
theorem dX5_charter_73 : decode cX5_charter 73 = .ok (.iconst 0, 1) := by decide +kernel
theorem dX5_charter_74 : decode cX5_charter 74 = .ok (.putfield 117, 3) := by decide +kernel
theorem dX5_charter_77 : decode cX5_charter 77 = .ok (.iconst 1, 1) := by decide +kernel
theorem dX5_charter_78 : decode cX5_charter 78 = .ok (.ireturn, 1) := by decide +kernel
theorem dX5_term_0 : decode cX5_term 0 = .ok (.aload_n 0, 1) := by decide +kernel
theorem dX5_term_1 : decode cX5_term 1 = .ok (.iconst 0, 1) := by decide +kernel
theorem dX5_term_2 : decode cX5_term 2 = .ok (.putfield 66, 3) := by decide +kernel
theorem dX5_term_5 : decode cX5_term 5 = .ok (.aload_n 0, 1) := by decide +kernel
theorem dX5_term_6 : decode cX5_term 6 = .ok (.iload_n 1, 1) := by decide +kernel
theorem dX5_term_7 : decode cX5_term 7 = .ok (.invokevirtual 82, 3) := by decide +kernel
theorem dX5_term_10 : decode cX5_term 10 = .ok (.ifCond .eq 26, 3) := by decide +kernel
theorem dX5_term_13 : decode cX5_term 13 = .ok (.iload_n 2, 1) := by decide +kernel
theorem dX5_term_14 : decode cX5_term 14 = .ok (.iconst 0, 1) := by decide +kernel
theorem dX5_term_15 : decode cX5_term 15 = .ok (.iconst 5, 1) := by decide +kernel
theorem dX5_term_16 : decode cX5_term 16 = .ok (.invokestatic 69, 3) := by decide +kernel
theorem dX5_term_19 : decode cX5_term 19 = .ok (.ifCond .eq 17, 3) := by decide +kernel
theorem dX5_term_22 : decode cX5_term 22 = .ok (.aload_n 0, 1) := by decide +kernel
theorem dX5_term_23 : decode cX5_term 23 = .ok (.getfield 56, 3) := by decide +kernel
theorem dX5_term_26 : decode cX5_term 26 = .ok (.bipush 6, 2) := by decide +kernel
theorem dX5_term_28 : decode cX5_term 28 = .ok (.iload_n 1, 1) := by decide +kernel
theorem dX5_term_29 : decode cX5_term 29 = .ok (.imul, 1) := by decide +kernel
theorem dX5_term_30 : decode cX5_term 30 = .ok (.iload_n 2, 1) := by decide +kernel
theorem dX5_term_31 : decode cX5_term 31 = .ok (.iadd, 1) := by decide +kernel
theorem dX5_term_32 : decode cX5_term 32 = .ok (.iaload, 1) := by decide +kernel
theorem dX5_term_33 : decode cX5_term 33 = .ok (.goto 4, 3) := by decide +kernel
theorem dX5_term_36 : decode cX5_term 36 = .ok (.iconst (-1), 1) := by decide +kernel
theorem dX5_term_37 : decode cX5_term 37 = .ok (.ireturn, 1) := by decide +kernel
theorem dX5_counts_0 : decode cX5_counts 0 = .ok (.aload_n 0, 1) := by decide +kernel
theorem dX5_counts_1 : decode cX5_counts 1 = .ok (.getfield 56, 3) := by decide +kernel
theorem dX5_counts_4 : decode cX5_counts 4 = .ok (.bipush 6, 2) := by decide +kernel
theorem dX5_counts_6 : decode cX5_counts 6 = .ok (.iload_n 1, 1) := by decide +kernel
theorem dX5_counts_7 : decode cX5_counts 7 = .ok (.imul, 1) := by decide +kernel
theorem dX5_counts_8 : decode cX5_counts 8 = .ok (.iconst 3, 1) := by decide +kernel
theorem dX5_counts_9 : decode cX5_counts 9 = .ok (.iadd, 1) := by decide +kernel
theorem dX5_counts_10 : decode cX5_counts 10 = .ok (.iaload, 1) := by decide +kernel
theorem dX5_counts_11 : decode cX5_counts 11 = .ok (.iconst 1, 1) := by decide +kernel
theorem dX5_counts_12 : decode cX5_counts 12 = .ok (.if_icmp .ne 13, 3) := by decide +kernel
theorem dX5_counts_15 : decode cX5_counts 15 = .ok (.aload_n 0, 1) := by decide +kernel
theorem dX5_counts_16 : decode cX5_counts 16 = .ok (.getfield 7, 3) := by decide +kernel
theorem dX5_counts_19 : decode cX5_counts 19 = .ok (.iload_n 2, 1) := by decide +kernel
theorem dX5_counts_20 : decode cX5_counts 20 = .ok (.iaload, 1) := by decide +kernel
theorem dX5_counts_21 : decode cX5_counts 21 = .ok (.iconst 4, 1) := by decide +kernel
theorem dX5_counts_22 : decode cX5_counts 22 = .ok (.if_icmp .gt 57, 3) := by decide +kernel
theorem dX5_counts_25 : decode cX5_counts 25 = .ok (.aload_n 0, 1) := by decide +kernel
theorem dX5_counts_26 : decode cX5_counts 26 = .ok (.getfield 56, 3) := by decide +kernel
theorem dX5_counts_29 : decode cX5_counts 29 = .ok (.bipush 6, 2) := by decide +kernel
theorem dX5_counts_31 : decode cX5_counts 31 = .ok (.iload_n 1, 1) := by decide +kernel
theorem dX5_counts_32 : decode cX5_counts 32 = .ok (.imul, 1) := by decide +kernel
theorem dX5_counts_33 : decode cX5_counts 33 = .ok (.iconst 4, 1) := by decide +kernel
theorem dX5_counts_34 : decode cX5_counts 34 = .ok (.iadd, 1) := by decide +kernel
theorem dX5_counts_35 : decode cX5_counts 35 = .ok (.iaload, 1) := by decide +kernel
theorem dX5_counts_36 : decode cX5_counts 36 = .ok (.iconst 1, 1) := by decide +kernel
theorem dX5_counts_37 : decode cX5_counts 37 = .ok (.if_icmp .ne 12, 3) := by decide +kernel
theorem dX5_counts_40 : decode cX5_counts 40 = .ok (.iload_n 2, 1) := by decide +kernel
theorem dX5_counts_41 : decode cX5_counts 41 = .ok (.bipush 7, 2) := by decide +kernel
theorem dX5_counts_43 : decode cX5_counts 43 = .ok (.irem, 1) := by decide +kernel
theorem dX5_counts_44 : decode cX5_counts 44 = .ok (.bipush 6, 2) := by decide +kernel
theorem dX5_counts_46 : decode cX5_counts 46 = .ok (.if_icmp .eq 33, 3) := by decide +kernel
theorem dX5_counts_49 : decode cX5_counts 49 = .ok (.aload_n 0, 1) := by decide +kernel
theorem dX5_counts_50 : decode cX5_counts 50 = .ok (.getfield 56, 3) := by decide +kernel
theorem dX5_counts_53 : decode cX5_counts 53 = .ok (.bipush 6, 2) := by decide +kernel
theorem dX5_counts_55 : decode cX5_counts 55 = .ok (.iload_n 1, 1) := by decide +kernel
theorem dX5_counts_56 : decode cX5_counts 56 = .ok (.imul, 1) := by decide +kernel
theorem dX5_counts_57 : decode cX5_counts 57 = .ok (.iconst 5, 1) := by decide +kernel
theorem dX5_counts_58 : decode cX5_counts 58 = .ok (.iadd, 1) := by decide +kernel
theorem dX5_counts_59 : decode cX5_counts 59 = .ok (.iaload, 1) := by decide +kernel
theorem dX5_counts_60 : decode cX5_counts 60 = .ok (.iconst 1, 1) := by decide +kernel
theorem dX5_counts_61 : decode cX5_counts 61 = .ok (.if_icmp .ne 22, 3) := by decide +kernel
theorem dX5_counts_64 : decode cX5_counts 64 = .ok (.aload_n 0, 1) := by decide +kernel
theorem dX5_counts_65 : decode cX5_counts 65 = .ok (.getfield 37, 3) := by decide +kernel
theorem dX5_counts_68 : decode cX5_counts 68 = .ok (.sipush 201, 3) := by decide +kernel
theorem dX5_counts_71 : decode cX5_counts 71 = .ok (.iload_n 1, 1) := by decide +kernel
theorem dX5_counts_72 : decode cX5_counts 72 = .ok (.imul, 1) := by decide +kernel
theorem dX5_counts_73 : decode cX5_counts 73 = .ok (.iload_n 2, 1) := by decide +kernel
theorem dX5_counts_74 : decode cX5_counts 74 = .ok (.iadd, 1) := by decide +kernel
theorem dX5_counts_75 : decode cX5_counts 75 = .ok (.iaload, 1) := by decide +kernel
theorem dX5_counts_76 : decode cX5_counts 76 = .ok (.ifCond .ge 7, 3) := by decide +kernel
theorem dX5_counts_79 : decode cX5_counts 79 = .ok (.iconst 1, 1) := by decide +kernel
theorem dX5_counts_80 : decode cX5_counts 80 = .ok (.goto 4, 3) := by decide +kernel
theorem dX5_counts_83 : decode cX5_counts 83 = .ok (.iconst 0, 1) := by decide +kernel
theorem dX5_counts_84 : decode cX5_counts 84 = .ok (.istore_n 3, 1) := by decide +kernel
theorem dX5_counts_85 : decode cX5_counts 85 = .ok (.iload_n 3, 1) := by decide +kernel
theorem dX5_counts_86 : decode cX5_counts 86 = .ok (.ifCond .ne 7, 3) := by decide +kernel
theorem dX5_counts_89 : decode cX5_counts 89 = .ok (.iconst 1, 1) := by decide +kernel
theorem dX5_counts_90 : decode cX5_counts 90 = .ok (.goto 4, 3) := by decide +kernel
theorem dX5_counts_93 : decode cX5_counts 93 = .ok (.iconst 0, 1) := by decide +kernel
theorem dX5_counts_94 : decode cX5_counts 94 = .ok (.ireturn, 1) := by decide +kernel
theorem dX5_last_0 : decode cX5_last 0 = .ok (.aload_n 0, 1) := by decide +kernel
theorem dX5_last_1 : decode cX5_last 1 = .ok (.iload_n 1, 1) := by decide +kernel
theorem dX5_last_2 : decode cX5_last 2 = .ok (.invokevirtual 98, 3) := by decide +kernel
theorem dX5_last_5 : decode cX5_last 5 = .ok (.ifCond .eq 12, 3) := by decide +kernel
theorem dX5_last_8 : decode cX5_last 8 = .ok (.aload_n 0, 1) := by decide +kernel
theorem dX5_last_9 : decode cX5_last 9 = .ok (.getfield 31, 3) := by decide +kernel
theorem dX5_last_12 : decode cX5_last 12 = .ok (.iload_n 1, 1) := by decide +kernel
theorem dX5_last_13 : decode cX5_last 13 = .ok (.iaload, 1) := by decide +kernel
theorem dX5_last_14 : decode cX5_last 14 = .ok (.goto 9, 3) := by decide +kernel
theorem dX5_last_17 : decode cX5_last 17 = .ok (.aload_n 0, 1) := by decide +kernel
theorem dX5_last_18 : decode cX5_last 18 = .ok (.getfield 76, 3) := by decide +kernel
theorem dX5_last_21 : decode cX5_last 21 = .ok (.iconst 1, 1) := by decide +kernel
theorem dX5_last_22 : decode cX5_last 22 = .ok (.isub, 1) := by decide +kernel
theorem dX5_last_23 : decode cX5_last 23 = .ok (.ireturn, 1) := by decide +kernel
theorem dX5_usedOf_0 : decode cX5_usedOf 0 = .ok (.iconst 0, 1) := by decide +kernel
theorem dX5_usedOf_1 : decode cX5_usedOf 1 = .ok (.istore_n 2, 1) := by decide +kernel
theorem dX5_usedOf_2 : decode cX5_usedOf 2 = .ok (.aload_n 0, 1) := by decide +kernel
theorem dX5_usedOf_3 : decode cX5_usedOf 3 = .ok (.getfield 22, 3) := by decide +kernel
theorem dX5_usedOf_6 : decode cX5_usedOf 6 = .ok (.iload_n 1, 1) := by decide +kernel
theorem dX5_usedOf_7 : decode cX5_usedOf 7 = .ok (.iaload, 1) := by decide +kernel
theorem dX5_usedOf_8 : decode cX5_usedOf 8 = .ok (.istore_n 3, 1) := by decide +kernel
theorem dX5_usedOf_9 : decode cX5_usedOf 9 = .ok (.iload_n 3, 1) := by decide +kernel
theorem dX5_usedOf_10 : decode cX5_usedOf 10 = .ok (.aload_n 0, 1) := by decide +kernel
theorem dX5_usedOf_11 : decode cX5_usedOf 11 = .ok (.iload_n 1, 1) := by decide +kernel
theorem dX5_usedOf_12 : decode cX5_usedOf 12 = .ok (.invokevirtual 129, 3) := by decide +kernel
theorem dX5_usedOf_15 : decode cX5_usedOf 15 = .ok (.if_icmp .gt 26, 3) := by decide +kernel
theorem dX5_usedOf_18 : decode cX5_usedOf 18 = .ok (.iload_n 2, 1) := by decide +kernel
theorem dX5_usedOf_19 : decode cX5_usedOf 19 = .ok (.aload_n 0, 1) := by decide +kernel
theorem dX5_usedOf_20 : decode cX5_usedOf 20 = .ok (.iload_n 1, 1) := by decide +kernel
theorem dX5_usedOf_21 : decode cX5_usedOf 21 = .ok (.iload_n 3, 1) := by decide +kernel
theorem dX5_usedOf_22 : decode cX5_usedOf 22 = .ok (.invokevirtual 132, 3) := by decide +kernel
theorem dX5_usedOf_25 : decode cX5_usedOf 25 = .ok (.ifCond .eq 7, 3) := by decide +kernel
theorem dX5_usedOf_28 : decode cX5_usedOf 28 = .ok (.iconst 1, 1) := by decide +kernel
theorem dX5_usedOf_29 : decode cX5_usedOf 29 = .ok (.goto 4, 3) := by decide +kernel
theorem dX5_usedOf_32 : decode cX5_usedOf 32 = .ok (.iconst 0, 1) := by decide +kernel
theorem dX5_usedOf_33 : decode cX5_usedOf 33 = .ok (.iadd, 1) := by decide +kernel
theorem dX5_usedOf_34 : decode cX5_usedOf 34 = .ok (.istore_n 2, 1) := by decide +kernel
theorem dX5_usedOf_35 : decode cX5_usedOf 35 = .ok (.iinc 3 1, 3) := by decide +kernel
theorem dX5_usedOf_38 : decode cX5_usedOf 38 = .ok (.goto (-29), 3) := by decide +kernel
theorem dX5_usedOf_41 : decode cX5_usedOf 41 = .ok (.iload_n 2, 1) := by decide +kernel
theorem dX5_usedOf_42 : decode cX5_usedOf 42 = .ok (.ireturn, 1) := by decide +kernel
theorem dX5_owed_0 : decode cX5_owed 0 = .ok (.aload_n 0, 1) := by decide +kernel
theorem dX5_owed_1 : decode cX5_owed 1 = .ok (.iconst 0, 1) := by decide +kernel
theorem dX5_owed_2 : decode cX5_owed 2 = .ok (.putfield 66, 3) := by decide +kernel
theorem dX5_owed_5 : decode cX5_owed 5 = .ok (.aload_n 0, 1) := by decide +kernel
theorem dX5_owed_6 : decode cX5_owed 6 = .ok (.iload_n 1, 1) := by decide +kernel
theorem dX5_owed_7 : decode cX5_owed 7 = .ok (.invokevirtual 82, 3) := by decide +kernel
theorem dX5_owed_10 : decode cX5_owed 10 = .ok (.ifCond .eq 12, 3) := by decide +kernel
theorem dX5_owed_13 : decode cX5_owed 13 = .ok (.iload_n 2, 1) := by decide +kernel
theorem dX5_owed_14 : decode cX5_owed 14 = .ok (.iconst 0, 1) := by decide +kernel
theorem dX5_owed_15 : decode cX5_owed 15 = .ok (.iconst 1, 1) := by decide +kernel
theorem dX5_owed_16 : decode cX5_owed 16 = .ok (.invokestatic 69, 3) := by decide +kernel
theorem dX5_owed_19 : decode cX5_owed 19 = .ok (.ifCond .ne 6, 3) := by decide +kernel
theorem dX5_owed_22 : decode cX5_owed 22 = .ok (.ldc 136, 2) := by decide +kernel
theorem dX5_owed_24 : decode cX5_owed 24 = .ok (.ireturn, 1) := by decide +kernel
theorem dX5_owed_25 : decode cX5_owed 25 = .ok (.aload_n 0, 1) := by decide +kernel
theorem dX5_owed_26 : decode cX5_owed 26 = .ok (.iload_n 1, 1) := by decide +kernel
theorem dX5_owed_27 : decode cX5_owed 27 = .ok (.invokevirtual 137, 3) := by decide +kernel
theorem dX5_owed_30 : decode cX5_owed 30 = .ok (.istore_n 3, 1) := by decide +kernel
theorem dX5_owed_31 : decode cX5_owed 31 = .ok (.iload_n 3, 1) := by decide +kernel
theorem dX5_owed_32 : decode cX5_owed 32 = .ok (.aload_n 0, 1) := by decide +kernel
theorem dX5_owed_33 : decode cX5_owed 33 = .ok (.getfield 56, 3) := by decide +kernel
theorem dX5_owed_36 : decode cX5_owed 36 = .ok (.bipush 6, 2) := by decide +kernel
theorem dX5_owed_38 : decode cX5_owed 38 = .ok (.iload_n 1, 1) := by decide +kernel
theorem dX5_owed_39 : decode cX5_owed 39 = .ok (.imul, 1) := by decide +kernel
theorem dX5_owed_40 : decode cX5_owed 40 = .ok (.iaload, 1) := by decide +kernel
theorem dX5_owed_41 : decode cX5_owed 41 = .ok (.isub, 1) := by decide +kernel
theorem dX5_owed_42 : decode cX5_owed 42 = .ok (.istore 4, 2) := by decide +kernel
theorem dX5_owed_44 : decode cX5_owed 44 = .ok (.iload_n 2, 1) := by decide +kernel
theorem dX5_owed_45 : decode cX5_owed 45 = .ok (.ifCond .ne 7, 3) := by decide +kernel
theorem dX5_owed_48 : decode cX5_owed 48 = .ok (.iload_n 3, 1) := by decide +kernel
theorem dX5_owed_49 : decode cX5_owed 49 = .ok (.goto 51, 3) := by decide +kernel
theorem dX5_owed_52 : decode cX5_owed 52 = .ok (.iload 4, 2) := by decide +kernel
theorem dX5_owed_54 : decode cX5_owed 54 = .ok (.ifCond .le 20, 3) := by decide +kernel
theorem dX5_owed_57 : decode cX5_owed 57 = .ok (.iload 4, 2) := by decide +kernel
theorem dX5_owed_59 : decode cX5_owed 59 = .ok (.aload_n 0, 1) := by decide +kernel
theorem dX5_owed_60 : decode cX5_owed 60 = .ok (.getfield 56, 3) := by decide +kernel
theorem dX5_owed_63 : decode cX5_owed 63 = .ok (.bipush 6, 2) := by decide +kernel
theorem dX5_owed_65 : decode cX5_owed 65 = .ok (.iload_n 1, 1) := by decide +kernel
theorem dX5_owed_66 : decode cX5_owed 66 = .ok (.imul, 1) := by decide +kernel
theorem dX5_owed_67 : decode cX5_owed 67 = .ok (.iconst 1, 1) := by decide +kernel
theorem dX5_owed_68 : decode cX5_owed 68 = .ok (.iadd, 1) := by decide +kernel
theorem dX5_owed_69 : decode cX5_owed 69 = .ok (.iaload, 1) := by decide +kernel
theorem dX5_owed_70 : decode cX5_owed 70 = .ok (.imul, 1) := by decide +kernel
theorem dX5_owed_71 : decode cX5_owed 71 = .ok (.goto 29, 3) := by decide +kernel
theorem dX5_owed_74 : decode cX5_owed 74 = .ok (.aload_n 0, 1) := by decide +kernel
theorem dX5_owed_75 : decode cX5_owed 75 = .ok (.iload_n 1, 1) := by decide +kernel
theorem dX5_owed_76 : decode cX5_owed 76 = .ok (.invokevirtual 98, 3) := by decide +kernel
theorem dX5_owed_79 : decode cX5_owed 79 = .ok (.ifCond .eq 20, 3) := by decide +kernel
theorem dX5_owed_82 : decode cX5_owed 82 = .ok (.iload 4, 2) := by decide +kernel
theorem dX5_owed_84 : decode cX5_owed 84 = .ok (.aload_n 0, 1) := by decide +kernel
theorem dX5_owed_85 : decode cX5_owed 85 = .ok (.getfield 56, 3) := by decide +kernel
theorem dX5_owed_88 : decode cX5_owed 88 = .ok (.bipush 6, 2) := by decide +kernel
theorem dX5_owed_90 : decode cX5_owed 90 = .ok (.iload_n 1, 1) := by decide +kernel
theorem dX5_owed_91 : decode cX5_owed 91 = .ok (.imul, 1) := by decide +kernel
theorem dX5_owed_92 : decode cX5_owed 92 = .ok (.iconst 2, 1) := by decide +kernel
theorem dX5_owed_93 : decode cX5_owed 93 = .ok (.iadd, 1) := by decide +kernel
theorem dX5_owed_94 : decode cX5_owed 94 = .ok (.iaload, 1) := by decide +kernel
theorem dX5_owed_95 : decode cX5_owed 95 = .ok (.imul, 1) := by decide +kernel
theorem dX5_owed_96 : decode cX5_owed 96 = .ok (.goto 4, 3) := by decide +kernel
theorem dX5_owed_99 : decode cX5_owed 99 = .ok (.iconst 0, 1) := by decide +kernel
theorem dX5_owed_100 : decode cX5_owed 100 = .ok (.ireturn, 1) := by decide +kernel
theorem dX5_shared_0 : decode cX5_shared 0 = .ok (.aload_n 0, 1) := by decide +kernel
theorem dX5_shared_1 : decode cX5_shared 1 = .ok (.iconst 0, 1) := by decide +kernel
theorem dX5_shared_2 : decode cX5_shared 2 = .ok (.putfield 66, 3) := by decide +kernel
theorem dX5_shared_5 : decode cX5_shared 5 = .ok (.aload_n 0, 1) := by decide +kernel
theorem dX5_shared_6 : decode cX5_shared 6 = .ok (.iload_n 1, 1) := by decide +kernel
theorem dX5_shared_7 : decode cX5_shared 7 = .ok (.invokevirtual 82, 3) := by decide +kernel
theorem dX5_shared_10 : decode cX5_shared 10 = .ok (.ifCond .eq 12, 3) := by decide +kernel
theorem dX5_shared_13 : decode cX5_shared 13 = .ok (.iload_n 2, 1) := by decide +kernel
theorem dX5_shared_14 : decode cX5_shared 14 = .ok (.iconst 0, 1) := by decide +kernel
theorem dX5_shared_15 : decode cX5_shared 15 = .ok (.iconst 2, 1) := by decide +kernel
theorem dX5_shared_16 : decode cX5_shared 16 = .ok (.invokestatic 69, 3) := by decide +kernel
theorem dX5_shared_19 : decode cX5_shared 19 = .ok (.ifCond .ne 5, 3) := by decide +kernel
theorem dX5_shared_22 : decode cX5_shared 22 = .ok (.iconst (-1), 1) := by decide +kernel
theorem dX5_shared_23 : decode cX5_shared 23 = .ok (.ireturn, 1) := by decide +kernel
theorem dX5_shared_24 : decode cX5_shared 24 = .ok (.iconst 0, 1) := by decide +kernel
theorem dX5_shared_25 : decode cX5_shared 25 = .ok (.istore_n 3, 1) := by decide +kernel
theorem dX5_shared_26 : decode cX5_shared 26 = .ok (.iconst 0, 1) := by decide +kernel
theorem dX5_shared_27 : decode cX5_shared 27 = .ok (.istore 4, 2) := by decide +kernel
theorem dX5_shared_29 : decode cX5_shared 29 = .ok (.aload_n 0, 1) := by decide +kernel
theorem dX5_shared_30 : decode cX5_shared 30 = .ok (.getfield 22, 3) := by decide +kernel
theorem dX5_shared_33 : decode cX5_shared 33 = .ok (.iload_n 1, 1) := by decide +kernel
theorem dX5_shared_34 : decode cX5_shared 34 = .ok (.iaload, 1) := by decide +kernel
theorem dX5_shared_35 : decode cX5_shared 35 = .ok (.istore 5, 2) := by decide +kernel
theorem dX5_shared_37 : decode cX5_shared 37 = .ok (.iload 5, 2) := by decide +kernel
theorem dX5_shared_39 : decode cX5_shared 39 = .ok (.aload_n 0, 1) := by decide +kernel
theorem dX5_shared_40 : decode cX5_shared 40 = .ok (.iload_n 1, 1) := by decide +kernel
theorem dX5_shared_41 : decode cX5_shared 41 = .ok (.invokevirtual 129, 3) := by decide +kernel
theorem dX5_shared_44 : decode cX5_shared 44 = .ok (.if_icmp .gt 90, 3) := by decide +kernel
theorem dX5_shared_47 : decode cX5_shared 47 = .ok (.aload_n 0, 1) := by decide +kernel
theorem dX5_shared_48 : decode cX5_shared 48 = .ok (.iload_n 1, 1) := by decide +kernel
theorem dX5_shared_49 : decode cX5_shared 49 = .ok (.iload 5, 2) := by decide +kernel
theorem dX5_shared_51 : decode cX5_shared 51 = .ok (.invokevirtual 132, 3) := by decide +kernel
theorem dX5_shared_54 : decode cX5_shared 54 = .ok (.ifCond .eq 74, 3) := by decide +kernel
theorem dX5_shared_57 : decode cX5_shared 57 = .ok (.iinc 3 1, 3) := by decide +kernel
theorem dX5_shared_60 : decode cX5_shared 60 = .ok (.aload_n 0, 1) := by decide +kernel
theorem dX5_shared_61 : decode cX5_shared 61 = .ok (.getfield 7, 3) := by decide +kernel
theorem dX5_shared_64 : decode cX5_shared 64 = .ok (.iload 5, 2) := by decide +kernel
theorem dX5_shared_66 : decode cX5_shared 66 = .ok (.iaload, 1) := by decide +kernel
theorem dX5_shared_67 : decode cX5_shared 67 = .ok (.bipush 7, 2) := by decide +kernel
theorem dX5_shared_69 : decode cX5_shared 69 = .ok (.if_icmp .le 7, 3) := by decide +kernel
theorem dX5_shared_72 : decode cX5_shared 72 = .ok (.iconst 0, 1) := by decide +kernel
theorem dX5_shared_73 : decode cX5_shared 73 = .ok (.goto 24, 3) := by decide +kernel
theorem dX5_shared_76 : decode cX5_shared 76 = .ok (.aload_n 0, 1) := by decide +kernel
theorem dX5_shared_77 : decode cX5_shared 77 = .ok (.getfield 37, 3) := by decide +kernel
theorem dX5_shared_80 : decode cX5_shared 80 = .ok (.sipush 201, 3) := by decide +kernel
theorem dX5_shared_83 : decode cX5_shared 83 = .ok (.iload_n 1, 1) := by decide +kernel
theorem dX5_shared_84 : decode cX5_shared 84 = .ok (.imul, 1) := by decide +kernel
theorem dX5_shared_85 : decode cX5_shared 85 = .ok (.iload 5, 2) := by decide +kernel
theorem dX5_shared_87 : decode cX5_shared 87 = .ok (.iadd, 1) := by decide +kernel
theorem dX5_shared_88 : decode cX5_shared 88 = .ok (.iaload, 1) := by decide +kernel
theorem dX5_shared_89 : decode cX5_shared 89 = .ok (.ifCond .ne 7, 3) := by decide +kernel
theorem dX5_shared_92 : decode cX5_shared 92 = .ok (.iconst 1, 1) := by decide +kernel
theorem dX5_shared_93 : decode cX5_shared 93 = .ok (.goto 4, 3) := by decide +kernel
theorem dX5_shared_96 : decode cX5_shared 96 = .ok (.iconst 2, 1) := by decide +kernel
theorem dX5_shared_97 : decode cX5_shared 97 = .ok (.istore 6, 2) := by decide +kernel
theorem dX5_shared_99 : decode cX5_shared 99 = .ok (.iload 4, 2) := by decide +kernel
theorem dX5_shared_101 : decode cX5_shared 101 = .ok (.iload_n 3, 1) := by decide +kernel
theorem dX5_shared_102 : decode cX5_shared 102 = .ok (.aload_n 0, 1) := by decide +kernel
theorem dX5_shared_103 : decode cX5_shared 103 = .ok (.getfield 56, 3) := by decide +kernel
theorem dX5_shared_106 : decode cX5_shared 106 = .ok (.bipush 6, 2) := by decide +kernel
theorem dX5_shared_108 : decode cX5_shared 108 = .ok (.iload_n 1, 1) := by decide +kernel
theorem dX5_shared_109 : decode cX5_shared 109 = .ok (.imul, 1) := by decide +kernel
theorem dX5_shared_110 : decode cX5_shared 110 = .ok (.iaload, 1) := by decide +kernel
theorem dX5_shared_111 : decode cX5_shared 111 = .ok (.if_icmp .le 13, 3) := by decide +kernel
theorem dX5_shared_114 : decode cX5_shared 114 = .ok (.iload 6, 2) := by decide +kernel
theorem dX5_shared_116 : decode cX5_shared 116 = .ok (.iload_n 2, 1) := by decide +kernel
theorem dX5_shared_117 : decode cX5_shared 117 = .ok (.if_icmp .ne 7, 3) := by decide +kernel
theorem dX5_shared_120 : decode cX5_shared 120 = .ok (.iconst 1, 1) := by decide +kernel
theorem dX5_shared_121 : decode cX5_shared 121 = .ok (.goto 4, 3) := by decide +kernel
theorem dX5_shared_124 : decode cX5_shared 124 = .ok (.iconst 0, 1) := by decide +kernel
theorem dX5_shared_125 : decode cX5_shared 125 = .ok (.iadd, 1) := by decide +kernel
theorem dX5_shared_126 : decode cX5_shared 126 = .ok (.istore 4, 2) := by decide +kernel
theorem dX5_shared_128 : decode cX5_shared 128 = .ok (.iinc 5 1, 3) := by decide +kernel
theorem dX5_shared_131 : decode cX5_shared 131 = .ok (.goto (-94), 3) := by decide +kernel
theorem dX5_shared_134 : decode cX5_shared 134 = .ok (.iload 4, 2) := by decide +kernel
theorem dX5_shared_136 : decode cX5_shared 136 = .ok (.ireturn, 1) := by decide +kernel
theorem dX5_delay_0 : decode cX5_delay 0 = .ok (.aload_n 0, 1) := by decide +kernel
theorem dX5_delay_1 : decode cX5_delay 1 = .ok (.iconst 0, 1) := by decide +kernel
theorem dX5_delay_2 : decode cX5_delay 2 = .ok (.putfield 66, 3) := by decide +kernel
theorem dX5_delay_5 : decode cX5_delay 5 = .ok (.iload_n 1, 1) := by decide +kernel
theorem dX5_delay_6 : decode cX5_delay 6 = .ok (.iconst 0, 1) := by decide +kernel
theorem dX5_delay_7 : decode cX5_delay 7 = .ok (.bipush 60, 2) := by decide +kernel
theorem dX5_delay_9 : decode cX5_delay 9 = .ok (.invokestatic 69, 3) := by decide +kernel
theorem dX5_delay_12 : decode cX5_delay 12 = .ok (.ifCond .ne 5, 3) := by decide +kernel
theorem dX5_delay_15 : decode cX5_delay 15 = .ok (.iconst (-1), 1) := by decide +kernel
theorem dX5_delay_16 : decode cX5_delay 16 = .ok (.ireturn, 1) := by decide +kernel
theorem dX5_delay_17 : decode cX5_delay 17 = .ok (.aload_n 0, 1) := by decide +kernel
theorem dX5_delay_18 : decode cX5_delay 18 = .ok (.getfield 49, 3) := by decide +kernel
theorem dX5_delay_21 : decode cX5_delay 21 = .ok (.istore_n 2, 1) := by decide +kernel
theorem dX5_delay_22 : decode cX5_delay 22 = .ok (.aload_n 0, 1) := by decide +kernel
theorem dX5_delay_23 : decode cX5_delay 23 = .ok (.iload_n 1, 1) := by decide +kernel
theorem dX5_delay_24 : decode cX5_delay 24 = .ok (.putfield 49, 3) := by decide +kernel
theorem dX5_delay_27 : decode cX5_delay 27 = .ok (.iload_n 2, 1) := by decide +kernel
theorem dX5_delay_28 : decode cX5_delay 28 = .ok (.ireturn, 1) := by decide +kernel
theorem dX5_isHere_0 : decode cX5_isHere 0 = .ok (.iload_n 1, 1) := by decide +kernel
theorem dX5_isHere_1 : decode cX5_isHere 1 = .ok (.aload_n 0, 1) := by decide +kernel
theorem dX5_isHere_2 : decode cX5_isHere 2 = .ok (.getfield 76, 3) := by decide +kernel
theorem dX5_isHere_5 : decode cX5_isHere 5 = .ok (.if_icmp .ge 20, 3) := by decide +kernel
theorem dX5_isHere_8 : decode cX5_isHere 8 = .ok (.aload_n 0, 1) := by decide +kernel
theorem dX5_isHere_9 : decode cX5_isHere 9 = .ok (.getfield 46, 3) := by decide +kernel
theorem dX5_isHere_12 : decode cX5_isHere 12 = .ok (.iload_n 1, 1) := by decide +kernel
theorem dX5_isHere_13 : decode cX5_isHere 13 = .ok (.iaload, 1) := by decide +kernel
theorem dX5_isHere_14 : decode cX5_isHere 14 = .ok (.aload_n 0, 1) := by decide +kernel
theorem dX5_isHere_15 : decode cX5_isHere 15 = .ok (.getfield 76, 3) := by decide +kernel
theorem dX5_isHere_18 : decode cX5_isHere 18 = .ok (.if_icmp .gt 7, 3) := by decide +kernel
theorem dX5_isHere_21 : decode cX5_isHere 21 = .ok (.iconst 1, 1) := by decide +kernel
theorem dX5_isHere_22 : decode cX5_isHere 22 = .ok (.goto 4, 3) := by decide +kernel
theorem dX5_isHere_25 : decode cX5_isHere 25 = .ok (.iconst 0, 1) := by decide +kernel
theorem dX5_isHere_26 : decode cX5_isHere 26 = .ok (.ireturn, 1) := by decide +kernel
theorem dX5_letter_0 : decode cX5_letter 0 = .ok (.aload_n 0, 1) := by decide +kernel
theorem dX5_letter_1 : decode cX5_letter 1 = .ok (.iconst 0, 1) := by decide +kernel
theorem dX5_letter_2 : decode cX5_letter 2 = .ok (.putfield 66, 3) := by decide +kernel
theorem dX5_letter_5 : decode cX5_letter 5 = .ok (.iload_n 1, 1) := by decide +kernel
theorem dX5_letter_6 : decode cX5_letter 6 = .ok (.iconst 0, 1) := by decide +kernel
theorem dX5_letter_7 : decode cX5_letter 7 = .ok (.sipush 200, 3) := by decide +kernel
theorem dX5_letter_10 : decode cX5_letter 10 = .ok (.invokestatic 69, 3) := by decide +kernel
theorem dX5_letter_13 : decode cX5_letter 13 = .ok (.ifCond .eq 12, 3) := by decide +kernel
theorem dX5_letter_16 : decode cX5_letter 16 = .ok (.iload_n 2, 1) := by decide +kernel
theorem dX5_letter_17 : decode cX5_letter 17 = .ok (.iconst 0, 1) := by decide +kernel
theorem dX5_letter_18 : decode cX5_letter 18 = .ok (.iconst 2, 1) := by decide +kernel
theorem dX5_letter_19 : decode cX5_letter 19 = .ok (.invokestatic 69, 3) := by decide +kernel
theorem dX5_letter_22 : decode cX5_letter 22 = .ok (.ifCond .ne 5, 3) := by decide +kernel
theorem dX5_letter_25 : decode cX5_letter 25 = .ok (.iconst (-1), 1) := by decide +kernel
theorem dX5_letter_26 : decode cX5_letter 26 = .ok (.ireturn, 1) := by decide +kernel
theorem dX5_letter_27 : decode cX5_letter 27 = .ok (.aload_n 0, 1) := by decide +kernel
theorem dX5_letter_28 : decode cX5_letter 28 = .ok (.iload_n 1, 1) := by decide +kernel
theorem dX5_letter_29 : decode cX5_letter 29 = .ok (.invokevirtual 140, 3) := by decide +kernel
theorem dX5_letter_32 : decode cX5_letter 32 = .ok (.ifCond .ne 8, 3) := by decide +kernel
theorem dX5_letter_35 : decode cX5_letter 35 = .ok (.bipush (-9), 2) := by decide +kernel
theorem dX5_letter_37 : decode cX5_letter 37 = .ok (.goto 36, 3) := by decide +kernel
theorem dX5_letter_40 : decode cX5_letter 40 = .ok (.iload_n 2, 1) := by decide +kernel
theorem dX5_letter_41 : decode cX5_letter 41 = .ok (.ifCond .ne 12, 3) := by decide +kernel
theorem dX5_letter_44 : decode cX5_letter 44 = .ok (.aload_n 0, 1) := by decide +kernel
theorem dX5_letter_45 : decode cX5_letter 45 = .ok (.getfield 40, 3) := by decide +kernel
theorem dX5_letter_48 : decode cX5_letter 48 = .ok (.iload_n 1, 1) := by decide +kernel
theorem dX5_letter_49 : decode cX5_letter 49 = .ok (.iaload, 1) := by decide +kernel
theorem dX5_letter_50 : decode cX5_letter 50 = .ok (.goto 23, 3) := by decide +kernel
theorem dX5_letter_53 : decode cX5_letter 53 = .ok (.iload_n 2, 1) := by decide +kernel
theorem dX5_letter_54 : decode cX5_letter 54 = .ok (.iconst 1, 1) := by decide +kernel
theorem dX5_letter_55 : decode cX5_letter 55 = .ok (.if_icmp .ne 12, 3) := by decide +kernel
theorem dX5_letter_58 : decode cX5_letter 58 = .ok (.aload_n 0, 1) := by decide +kernel
theorem dX5_letter_59 : decode cX5_letter 59 = .ok (.getfield 43, 3) := by decide +kernel
theorem dX5_letter_62 : decode cX5_letter 62 = .ok (.iload_n 1, 1) := by decide +kernel
theorem dX5_letter_63 : decode cX5_letter 63 = .ok (.iaload, 1) := by decide +kernel
theorem dX5_letter_64 : decode cX5_letter 64 = .ok (.goto 9, 3) := by decide +kernel
theorem dX5_letter_67 : decode cX5_letter 67 = .ok (.aload_n 0, 1) := by decide +kernel
theorem dX5_letter_68 : decode cX5_letter 68 = .ok (.getfield 46, 3) := by decide +kernel
theorem dX5_letter_71 : decode cX5_letter 71 = .ok (.iload_n 1, 1) := by decide +kernel
theorem dX5_letter_72 : decode cX5_letter 72 = .ok (.iaload, 1) := by decide +kernel
theorem dX5_letter_73 : decode cX5_letter 73 = .ok (.ireturn, 1) := by decide +kernel
theorem dX5_foretold_0 : decode cX5_foretold 0 = .ok (.aload_n 0, 1) := by decide +kernel
theorem dX5_foretold_1 : decode cX5_foretold 1 = .ok (.iconst 0, 1) := by decide +kernel
theorem dX5_foretold_2 : decode cX5_foretold 2 = .ok (.putfield 66, 3) := by decide +kernel
theorem dX5_foretold_5 : decode cX5_foretold 5 = .ok (.aload_n 0, 1) := by decide +kernel
theorem dX5_foretold_6 : decode cX5_foretold 6 = .ok (.getfield 76, 3) := by decide +kernel
theorem dX5_foretold_9 : decode cX5_foretold 9 = .ok (.iconst 1, 1) := by decide +kernel
theorem dX5_foretold_10 : decode cX5_foretold 10 = .ok (.isub, 1) := by decide +kernel
theorem dX5_foretold_11 : decode cX5_foretold 11 = .ok (.istore_n 1, 1) := by decide +kernel
theorem dX5_foretold_12 : decode cX5_foretold 12 = .ok (.iload_n 1, 1) := by decide +kernel
theorem dX5_foretold_13 : decode cX5_foretold 13 = .ok (.ifCond .lt 17, 3) := by decide +kernel
theorem dX5_foretold_16 : decode cX5_foretold 16 = .ok (.aload_n 0, 1) := by decide +kernel
theorem dX5_foretold_17 : decode cX5_foretold 17 = .ok (.iload_n 1, 1) := by decide +kernel
theorem dX5_foretold_18 : decode cX5_foretold 18 = .ok (.invokevirtual 140, 3) := by decide +kernel
theorem dX5_foretold_21 : decode cX5_foretold 21 = .ok (.ifCond .ne 9, 3) := by decide +kernel
theorem dX5_foretold_24 : decode cX5_foretold 24 = .ok (.iinc 1 (-1), 3) := by decide +kernel
theorem dX5_foretold_27 : decode cX5_foretold 27 = .ok (.goto (-15), 3) := by decide +kernel
theorem dX5_foretold_30 : decode cX5_foretold 30 = .ok (.iload_n 1, 1) := by decide +kernel
theorem dX5_foretold_31 : decode cX5_foretold 31 = .ok (.ifCond .ge 6, 3) := by decide +kernel
theorem dX5_foretold_34 : decode cX5_foretold 34 = .ok (.bipush (-9), 2) := by decide +kernel
theorem dX5_foretold_36 : decode cX5_foretold 36 = .ok (.ireturn, 1) := by decide +kernel
theorem dX5_foretold_37 : decode cX5_foretold 37 = .ok (.iconst 0, 1) := by decide +kernel
theorem dX5_foretold_38 : decode cX5_foretold 38 = .ok (.istore_n 2, 1) := by decide +kernel
theorem dX5_foretold_39 : decode cX5_foretold 39 = .ok (.iconst 0, 1) := by decide +kernel
theorem dX5_foretold_40 : decode cX5_foretold 40 = .ok (.istore_n 3, 1) := by decide +kernel
theorem dX5_foretold_41 : decode cX5_foretold 41 = .ok (.iload_n 1, 1) := by decide +kernel
theorem dX5_foretold_42 : decode cX5_foretold 42 = .ok (.bipush 6, 2) := by decide +kernel
theorem dX5_foretold_44 : decode cX5_foretold 44 = .ok (.if_icmp .ge 7, 3) := by decide +kernel
theorem dX5_foretold_47 : decode cX5_foretold 47 = .ok (.iconst 0, 1) := by decide +kernel
theorem dX5_foretold_48 : decode cX5_foretold 48 = .ok (.goto 7, 3) := by decide +kernel
theorem dX5_foretold_51 : decode cX5_foretold 51 = .ok (.iload_n 1, 1) := by decide +kernel
theorem dX5_foretold_52 : decode cX5_foretold 52 = .ok (.bipush 6, 2) := by decide +kernel
theorem dX5_foretold_54 : decode cX5_foretold 54 = .ok (.isub, 1) := by decide +kernel
theorem dX5_foretold_55 : decode cX5_foretold 55 = .ok (.istore 4, 2) := by decide +kernel
theorem dX5_foretold_57 : decode cX5_foretold 57 = .ok (.iload 4, 2) := by decide +kernel
theorem dX5_foretold_59 : decode cX5_foretold 59 = .ok (.iload_n 1, 1) := by decide +kernel
theorem dX5_foretold_60 : decode cX5_foretold 60 = .ok (.if_icmp .gt 22, 3) := by decide +kernel
theorem dX5_foretold_63 : decode cX5_foretold 63 = .ok (.iload_n 2, 1) := by decide +kernel
theorem dX5_foretold_64 : decode cX5_foretold 64 = .ok (.aload_n 0, 1) := by decide +kernel
theorem dX5_foretold_65 : decode cX5_foretold 65 = .ok (.getfield 43, 3) := by decide +kernel
theorem dX5_foretold_68 : decode cX5_foretold 68 = .ok (.iload 4, 2) := by decide +kernel
theorem dX5_foretold_70 : decode cX5_foretold 70 = .ok (.iaload, 1) := by decide +kernel
theorem dX5_foretold_71 : decode cX5_foretold 71 = .ok (.iadd, 1) := by decide +kernel
theorem dX5_foretold_72 : decode cX5_foretold 72 = .ok (.istore_n 2, 1) := by decide +kernel
theorem dX5_foretold_73 : decode cX5_foretold 73 = .ok (.iinc 3 1, 3) := by decide +kernel
theorem dX5_foretold_76 : decode cX5_foretold 76 = .ok (.iinc 4 1, 3) := by decide +kernel
theorem dX5_foretold_79 : decode cX5_foretold 79 = .ok (.goto (-22), 3) := by decide +kernel
theorem dX5_foretold_82 : decode cX5_foretold 82 = .ok (.iload_n 2, 1) := by decide +kernel
theorem dX5_foretold_83 : decode cX5_foretold 83 = .ok (.ifCond .ne 8, 3) := by decide +kernel
theorem dX5_foretold_86 : decode cX5_foretold 86 = .ok (.bipush (-9), 2) := by decide +kernel
theorem dX5_foretold_88 : decode cX5_foretold 88 = .ok (.goto 17, 3) := by decide +kernel
theorem dX5_foretold_91 : decode cX5_foretold 91 = .ok (.aload_n 0, 1) := by decide +kernel
theorem dX5_foretold_92 : decode cX5_foretold 92 = .ok (.getfield 40, 3) := by decide +kernel
theorem dX5_foretold_95 : decode cX5_foretold 95 = .ok (.iload_n 1, 1) := by decide +kernel
theorem dX5_foretold_96 : decode cX5_foretold 96 = .ok (.iaload, 1) := by decide +kernel
theorem dX5_foretold_97 : decode cX5_foretold 97 = .ok (.iload_n 3, 1) := by decide +kernel
theorem dX5_foretold_98 : decode cX5_foretold 98 = .ok (.imul, 1) := by decide +kernel
theorem dX5_foretold_99 : decode cX5_foretold 99 = .ok (.iload_n 2, 1) := by decide +kernel
theorem dX5_foretold_100 : decode cX5_foretold 100 = .ok (.iadd, 1) := by decide +kernel
theorem dX5_foretold_101 : decode cX5_foretold 101 = .ok (.iconst 1, 1) := by decide +kernel
theorem dX5_foretold_102 : decode cX5_foretold 102 = .ok (.isub, 1) := by decide +kernel
theorem dX5_foretold_103 : decode cX5_foretold 103 = .ok (.iload_n 2, 1) := by decide +kernel
theorem dX5_foretold_104 : decode cX5_foretold 104 = .ok (.idiv, 1) := by decide +kernel
theorem dX5_foretold_105 : decode cX5_foretold 105 = .ok (.ireturn, 1) := by decide +kernel
theorem dX5_count_0 : decode cX5_count 0 = .ok (.aload_n 0, 1) := by decide +kernel
theorem dX5_count_1 : decode cX5_count 1 = .ok (.iconst 0, 1) := by decide +kernel
theorem dX5_count_2 : decode cX5_count 2 = .ok (.putfield 66, 3) := by decide +kernel
theorem dX5_count_5 : decode cX5_count 5 = .ok (.iconst 0, 1) := by decide +kernel
theorem dX5_count_6 : decode cX5_count 6 = .ok (.istore_n 2, 1) := by decide +kernel
theorem dX5_count_7 : decode cX5_count 7 = .ok (.iconst 0, 1) := by decide +kernel
theorem dX5_count_8 : decode cX5_count 8 = .ok (.istore_n 3, 1) := by decide +kernel
theorem dX5_count_9 : decode cX5_count 9 = .ok (.iconst 0, 1) := by decide +kernel
theorem dX5_count_10 : decode cX5_count 10 = .ok (.istore 4, 2) := by decide +kernel
theorem dX5_count_12 : decode cX5_count 12 = .ok (.iload 4, 2) := by decide +kernel
theorem dX5_count_14 : decode cX5_count 14 = .ok (.aload_n 0, 1) := by decide +kernel
theorem dX5_count_15 : decode cX5_count 15 = .ok (.getfield 79, 3) := by decide +kernel
theorem dX5_count_18 : decode cX5_count 18 = .ok (.if_icmp .ge 53, 3) := by decide +kernel
theorem dX5_count_21 : decode cX5_count 21 = .ok (.iload_n 2, 1) := by decide +kernel
theorem dX5_count_22 : decode cX5_count 22 = .ok (.aload_n 0, 1) := by decide +kernel
theorem dX5_count_23 : decode cX5_count 23 = .ok (.iload 4, 2) := by decide +kernel
theorem dX5_count_25 : decode cX5_count 25 = .ok (.invokevirtual 98, 3) := by decide +kernel
theorem dX5_count_28 : decode cX5_count 28 = .ok (.ifCond .eq 7, 3) := by decide +kernel
theorem dX5_count_31 : decode cX5_count 31 = .ok (.iconst 1, 1) := by decide +kernel
theorem dX5_count_32 : decode cX5_count 32 = .ok (.goto 4, 3) := by decide +kernel
theorem dX5_count_35 : decode cX5_count 35 = .ok (.iconst 0, 1) := by decide +kernel
theorem dX5_count_36 : decode cX5_count 36 = .ok (.iadd, 1) := by decide +kernel
theorem dX5_count_37 : decode cX5_count 37 = .ok (.istore_n 2, 1) := by decide +kernel
theorem dX5_count_38 : decode cX5_count 38 = .ok (.iload_n 3, 1) := by decide +kernel
theorem dX5_count_39 : decode cX5_count 39 = .ok (.aload_n 0, 1) := by decide +kernel
theorem dX5_count_40 : decode cX5_count 40 = .ok (.iload 4, 2) := by decide +kernel
theorem dX5_count_42 : decode cX5_count 42 = .ok (.invokevirtual 98, 3) := by decide +kernel
theorem dX5_count_45 : decode cX5_count 45 = .ok (.ifCond .ne 17, 3) := by decide +kernel
theorem dX5_count_48 : decode cX5_count 48 = .ok (.aload_n 0, 1) := by decide +kernel
theorem dX5_count_49 : decode cX5_count 49 = .ok (.getfield 28, 3) := by decide +kernel
theorem dX5_count_52 : decode cX5_count 52 = .ok (.iload 4, 2) := by decide +kernel
theorem dX5_count_54 : decode cX5_count 54 = .ok (.iaload, 1) := by decide +kernel
theorem dX5_count_55 : decode cX5_count 55 = .ok (.ifCond .ne 7, 3) := by decide +kernel
theorem dX5_count_58 : decode cX5_count 58 = .ok (.iconst 1, 1) := by decide +kernel
theorem dX5_count_59 : decode cX5_count 59 = .ok (.goto 4, 3) := by decide +kernel
theorem dX5_count_62 : decode cX5_count 62 = .ok (.iconst 0, 1) := by decide +kernel
theorem dX5_count_63 : decode cX5_count 63 = .ok (.iadd, 1) := by decide +kernel
theorem dX5_count_64 : decode cX5_count 64 = .ok (.istore_n 3, 1) := by decide +kernel
theorem dX5_count_65 : decode cX5_count 65 = .ok (.iinc 4 1, 3) := by decide +kernel
theorem dX5_count_68 : decode cX5_count 68 = .ok (.goto (-56), 3) := by decide +kernel
theorem dX5_count_71 : decode cX5_count 71 = .ok (.iload_n 1, 1) := by decide +kernel
theorem dX5_count_72 : decode cX5_count 72 = .ok (.tableswitch 73 0 6 #[44, 49, 54, 59, 61, 66, 71], 44) := by decide +kernel
theorem dX5_count_116 : decode cX5_count 116 = .ok (.aload_n 0, 1) := by decide +kernel
theorem dX5_count_117 : decode cX5_count 117 = .ok (.getfield 76, 3) := by decide +kernel
theorem dX5_count_120 : decode cX5_count 120 = .ok (.ireturn, 1) := by decide +kernel
theorem dX5_count_121 : decode cX5_count 121 = .ok (.aload_n 0, 1) := by decide +kernel
theorem dX5_count_122 : decode cX5_count 122 = .ok (.getfield 79, 3) := by decide +kernel
theorem dX5_count_125 : decode cX5_count 125 = .ok (.ireturn, 1) := by decide +kernel
theorem dX5_count_126 : decode cX5_count 126 = .ok (.aload_n 0, 1) := by decide +kernel
theorem dX5_count_127 : decode cX5_count 127 = .ok (.getfield 73, 3) := by decide +kernel
theorem dX5_count_130 : decode cX5_count 130 = .ok (.ireturn, 1) := by decide +kernel
theorem dX5_count_131 : decode cX5_count 131 = .ok (.iload_n 2, 1) := by decide +kernel
theorem dX5_count_132 : decode cX5_count 132 = .ok (.ireturn, 1) := by decide +kernel
theorem dX5_count_133 : decode cX5_count 133 = .ok (.aload_n 0, 1) := by decide +kernel
theorem dX5_count_134 : decode cX5_count 134 = .ok (.getfield 105, 3) := by decide +kernel
theorem dX5_count_137 : decode cX5_count 137 = .ok (.ireturn, 1) := by decide +kernel
theorem dX5_count_138 : decode cX5_count 138 = .ok (.aload_n 0, 1) := by decide +kernel
theorem dX5_count_139 : decode cX5_count 139 = .ok (.getfield 117, 3) := by decide +kernel
theorem dX5_count_142 : decode cX5_count 142 = .ok (.ireturn, 1) := by decide +kernel
theorem dX5_count_143 : decode cX5_count 143 = .ok (.iload_n 3, 1) := by decide +kernel
theorem dX5_count_144 : decode cX5_count 144 = .ok (.ireturn, 1) := by decide +kernel
theorem dX5_count_145 : decode cX5_count 145 = .ok (.iconst (-1), 1) := by decide +kernel
theorem dX5_count_146 : decode cX5_count 146 = .ok (.ireturn, 1) := by decide +kernel
theorem dX5_trace_0 : decode cX5_trace 0 = .ok (.aload_n 0, 1) := by decide +kernel
theorem dX5_trace_1 : decode cX5_trace 1 = .ok (.iconst 0, 1) := by decide +kernel
theorem dX5_trace_2 : decode cX5_trace 2 = .ok (.putfield 66, 3) := by decide +kernel
theorem dX5_trace_5 : decode cX5_trace 5 = .ok (.aload_n 0, 1) := by decide +kernel
theorem dX5_trace_6 : decode cX5_trace 6 = .ok (.getfield 86, 3) := by decide +kernel
theorem dX5_trace_9 : decode cX5_trace 9 = .ok (.lreturn, 1) := by decide +kernel
